section
/-! conditions for the class's runs -/
def iNew (i : Instr) : Bool := match i with
  | .new _ => true
  | _ => false
/-- a thing that is thrown is made -/
def ut (κ : zS) : zS := (κ.1, κ.2.1, κ.2.2.1, κ.2.2.2.1, κ.2.2.2.2.1, κ.2.2.2.2.2.1, κ.2.2.2.2.2.2.1, κ.2.2.2.2.2.2.2.1, zn κ, zc κ + 1, zs κ + 6)
/-- a text of the setting -/
def isTx (C : zC) (a : Nat) : Prop := ((C.2.1).find? (fun x => x.1 == a)).isSome = true ∧ (a < yb C ∧ ∃ x y, (C.2.1).find? (fun x => x.1 == a) = some x ∧ (C.2.1).find? (fun z => z.2.1 == x.2.1) = some y ∧ x.2.1 < yb C ∧ (yh C).2 x.2.1 = none ∧ y.2.2.length ≤ 65536) ∧ (yh C).2 a = none
def cTx (C : zC) : Prop := ∀ k, k = 0 ∨ k = 1 ∨ k = 3 → isTx C (C.1 k)
/-- what is in order all through: addresses, types of what is referred to, booleans, bytes, whose each row is -/
def zW (C : zC) (n0 : Nat) (κ : zS) : Prop := ((0 < yb C ∧ cTx C) ∧ yb C ≤ n0 ∧ n0 ≤ zn κ) ∧ (∀ a, zT κ a ≠ 0 → (yb C ≤ a ∧ zN κ a ≤ 67108864) ∧ a < zn κ) ∧ (∀ f t a, zr f = some t → zT κ a = f / 100 → zT κ (zR κ f a) = t) ∧ (∀ a i v, zT κ a = 24 → zQ κ a i = some v → zT κ v = 8) ∧ (∀ a i v, zT κ a = 25 → zQ κ a i = some v → zT κ v = 11) ∧ (∀ f a, f ∈ zZT → zT κ a = f / 100 → nb (zI κ f a)) ∧ (∀ a i, zT κ a = 23 → nb (zA κ a i)) ∧ (∀ a i, zT κ a = 21 → fits .byte (.int (zA κ a i)) = true) ∧ (∀ f t a, zr f = some t → 20 ≤ t → zT κ a = f / 100 → zO κ (zR κ f a) = (f, a))
/-- what only grows: types, lengths, the number of cells -/
def zM (n0 : Nat) (κ κ' : zS) : Prop := (∀ a c, (a < n0 ∨ c + 1 < 40) → zT κ a = c + 1 → zT κ' a = c + 1) ∧ (∀ a, zT κ a ≠ 0 → zT κ' a ≠ 0 ∧ zN κ' a = zN κ a) ∧ zn κ ≤ zn κ'
theorem zM.rf {n0 : Nat} {κ : zS} : zM n0 κ κ := ⟨fun _ _ _ h => h, fun _ h => ⟨h, rfl⟩, Nat.le_refl _⟩
theorem zM.tr {n0 : Nat} {κ κ1 κ2 : zS} (h : zM n0 κ κ1) (g : zM n0 κ1 κ2) : zM n0 κ κ2 := ⟨fun a c z e => g.1 a c z (h.1 a c z e), fun a e => ⟨(g.2.1 a (h.2.1 a e).1).1, (g.2.1 a (h.2.1 a e).1).2.trans (h.2.1 a e).2⟩, Nat.le_trans h.2.2 g.2.2⟩
theorem zM.t {n0 : Nat} {κ κ' : zS} (h : zM n0 κ κ') {a c : Nat} (e : zT κ a = c + 1) (hc : (c + 1 < 40) = True) : zT κ' a = c + 1 := h.1 a c (Or.inr (of_eq_true hc)) e
theorem zM.of {n0 : Nat} {κ κ' : zS} (h1 : zT κ' = zT κ) (h2 : zN κ' = zN κ) (h3 : zn κ' = zn κ) : zM n0 κ κ' := ⟨fun a c _ e => by rw [h1]; exact e, fun a e => ⟨by rw [h1]; exact e, by rw [h2]⟩, by rw [h3]; exact Nat.le_refl _⟩
abbrev zU : Type := Option Value ⊕ String
def zOut (C : zC) (o : zU) (κ : zS) (c s : Nat) : dW := match o with
  | .inl v => .inl (v, zH C κ, c, s)
  | .inr cls => .inr (cls, (none, (zH C κ).2), c, s)
def zG (C : zC) (n0 d : Nat) (r : dM) (pc : Nat) (L : List (Option Value)) (st : List Value) (κ : zS) (Q : zU → zS → Prop) : Prop :=
  ∀ lo cs ss, lA lo L → ∃ o κ' x y, dGG (yEn C) dXX (yb C) d r pc lo st (zH C κ) cs ss (zOut C o κ' (cs + x) (ss + y)) ∧ zc κ' = zc κ + x ∧ zs κ' = zs κ + y ∧ zW C n0 κ' ∧ zM n0 κ κ' ∧ Q o κ'
abbrev zXp : Type := String → zS → Prop
def oI (Q : Int32 → zS → Prop) (X : zXp) (o : zU) (κ : zS) : Prop := (∃ x, o = .inl (some (.int x)) ∧ Q x κ) ∨ ∃ cls, o = .inr cls ∧ X cls κ
def oJ (Q : Int64 → zS → Prop) (X : zXp) (o : zU) (κ : zS) : Prop := (∃ x, o = .inl (some (.long x)) ∧ Q x κ) ∨ ∃ cls, o = .inr cls ∧ X cls κ
def oV (Q : zS → Prop) (X : zXp) (o : zU) (κ : zS) : Prop := (o = .inl none ∧ Q κ) ∨ ∃ cls, o = .inr cls ∧ X cls κ
/-- a reference of the type t; one that may be null -/
def oR (t : Nat) (Q : Nat → zS → Prop) (X : zXp) (o : zU) (κ : zS) : Prop := (∃ x, o = .inl (some (.ref x)) ∧ zT κ x = t ∧ Q x κ) ∨ ∃ cls, o = .inr cls ∧ X cls κ
def oQ (t : Nat) (Q : Option Nat → zS → Prop) (X : zXp) (o : zU) (κ : zS) : Prop := (∃ x, o = .inl (some (va_rf x)) ∧ (∀ v, x = some v → zT κ v = t) ∧ Q x κ) ∨ ∃ cls, o = .inr cls ∧ X cls κ
/-- no throw -/
def noX : zXp := fun _ _ => False
/-- a call: the method runs from here -/
def zRun (C : zC) (d : Nat) (m : dM) (as : List Value) (κ : zS) (Q : zU → zS → Prop) : Prop := ∃ o κ' x y, dGG (yEn C) dXX (yb C) d m 0 (dent as) [] (zH C κ) 0 0 (zOut C o κ' x y) ∧ zc κ' = zc κ + x ∧ zs κ' = zs κ + y ∧ zW C (zn κ) κ' ∧ zM (zn κ) κ κ' ∧ Q o κ'
section SY
variable {C : zC} {n0 d : Nat} {r : dM} {pc : Nat} {L : List (Option Value)} {st : List Value} {κ : zS} {Q : zU → zS → Prop}
theorem dx_no {E : dE} {X : dX} {i : Instr} {len : Nat} (hd : decode r.2.1 pc = .ok (i, len)) (hi : iNew i = false) : dxat E X r pc = none := dxat_no hd (fun ik e => by subst e; cases hi)
theorem y_pl {i : Instr} {len pc' : Nat} {F : dL0 → dL0} {L' : List (Option Value)} {st' : List Value} (hd : decode r.2.1 pc = .ok (i, len)) (hi : iNew i = false) (hw : ∀ lo, lA lo L → dpure i len pc r.2.2.1 lo st = some (pc', F lo, st')) (hL : ∀ lo, lA lo L → lA (F lo) L') (K : zG C n0 d r pc' L' st' κ Q) : zG C n0 d r pc L st κ Q := by
  intro lo cs ss hl
  obtain ⟨o, κ', x9, y9, h1, h2⟩ := K (F lo) cs ss (hL lo hl)
  exact ⟨o, κ', x9, y9, gg_pure (dx_no hd hi) hd (hw lo hl) h1, h2⟩
theorem y_p {i : Instr} {len pc' : Nat} {st' : List Value} (hd : decode r.2.1 pc = .ok (i, len)) (hi : iNew i = false) (hw : ∀ lo, dpure i len pc r.2.2.1 lo st = some (pc', lo, st')) (K : zG C n0 d r pc' L st' κ Q) : zG C n0 d r pc L st κ Q := y_pl (F := fun lo => lo) hd hi (fun lo _ => hw lo) (fun _ h => h) K
theorem y_w {L' : List (Option Value)} (hs : lsub L' L) (K : zG C n0 d r pc L' st κ Q) : zG C n0 d r pc L st κ Q := fun lo cs ss hl => K lo cs ss (lA_sub hs hl)
theorem y_k {L' : List (Option Value)} (K : zG C n0 d r pc L' st κ Q) (hs : lsub L' L) : zG C n0 d r pc L st κ Q := y_w hs K
theorem y_iln {k} {x : Int32} (hd : decode r.2.1 pc = .ok (.iload_n k, 1)) (hk : L[(k : Nat)]? = some (some (.int x))) (K : zG C n0 d r (pc + 1) L (.int x :: st) κ Q) : zG C n0 d r pc L st κ Q := y_pl (F := fun lo => lo) hd rfl (fun lo hl => by
  show dldI 1 1 pc (k : Nat) lo st = _
  unfold dldI
  rw [hl _ _ hk]; rfl) (fun _ h => h) K
theorem y_il {k : Nat} {x : Int32} (hd : decode r.2.1 pc = .ok (.iload k, 2)) (hk : L[k]? = some (some (.int x))) (K : zG C n0 d r (pc + 2) L (.int x :: st) κ Q) : zG C n0 d r pc L st κ Q := y_pl (F := fun lo => lo) hd rfl (fun lo hl => by
  show dldI 2 2 pc k lo st = _
  unfold dldI
  rw [hl _ _ hk]; rfl) (fun _ h => h) K
theorem y_lln {k} {x : Int64} (hd : decode r.2.1 pc = .ok (.lload_n k, 1)) (hk : L[(k : Nat)]? = some (some (.long x))) (K : zG C n0 d r (pc + 1) L (.long x :: st) κ Q) : zG C n0 d r pc L st κ Q := y_pl (F := fun lo => lo) hd rfl (fun lo hl => by
  show dldL 1 1 pc (k : Nat) lo st = _
  unfold dldL
  rw [hl _ _ hk]; rfl) (fun _ h => h) K
theorem y_ll {k : Nat} {x : Int64} (hd : decode r.2.1 pc = .ok (.lload k, 2)) (hk : L[k]? = some (some (.long x))) (K : zG C n0 d r (pc + 2) L (.long x :: st) κ Q) : zG C n0 d r pc L st κ Q := y_pl (F := fun lo => lo) hd rfl (fun lo hl => by
  show dldL 2 2 pc k lo st = _
  unfold dldL
  rw [hl _ _ hk]; rfl) (fun _ h => h) K
theorem y_aln {k} {x : Nat} (hd : decode r.2.1 pc = .ok (.aload_n k, 1)) (hk : L[(k : Nat)]? = some (some (.ref x))) (K : zG C n0 d r (pc + 1) L (.ref x :: st) κ Q) : zG C n0 d r pc L st κ Q := y_pl (F := fun lo => lo) hd rfl (fun lo hl => by
  show dldA 1 1 pc (k : Nat) lo st = _
  unfold dldA
  rw [hl _ _ hk]; rfl) (fun _ h => h) K
theorem y_al {k : Nat} {x : Nat} (hd : decode r.2.1 pc = .ok (.aload k, 2)) (hk : L[k]? = some (some (.ref x))) (K : zG C n0 d r (pc + 2) L (.ref x :: st) κ Q) : zG C n0 d r pc L st κ Q := y_pl (F := fun lo => lo) hd rfl (fun lo hl => by
  show dldA 2 2 pc k lo st = _
  unfold dldA
  rw [hl _ _ hk]; rfl) (fun _ h => h) K
theorem y_qln {k} {x : Option Nat} (hd : decode r.2.1 pc = .ok (.aload_n k, 1)) (hk : L[(k : Nat)]? = some (some (va_rf x))) (K : zG C n0 d r (pc + 1) L (va_rf x :: st) κ Q) : zG C n0 d r pc L st κ Q := y_pl (F := fun lo => lo) hd rfl (fun lo hl => by
  show dldA 1 1 pc (k : Nat) lo st = _
  unfold dldA
  rw [hl _ _ hk]
  cases x <;> rfl) (fun _ h => h) K
theorem y_ql {k : Nat} {x : Option Nat} (hd : decode r.2.1 pc = .ok (.aload k, 2)) (hk : L[k]? = some (some (va_rf x))) (K : zG C n0 d r (pc + 2) L (va_rf x :: st) κ Q) : zG C n0 d r pc L st κ Q := y_pl (F := fun lo => lo) hd rfl (fun lo hl => by
  show dldA 2 2 pc k lo st = _
  unfold dldA
  rw [hl _ _ hk]
  cases x <;> rfl) (fun _ h => h) K
theorem y_isn {k} {x : Int32} {L' : List (Option Value)} (hd : decode r.2.1 pc = .ok (.istore_n k, 1)) (hk : (k : Nat) < r.2.2.1) (hL : lset1 L (k : Nat) (.int x) = L') (K : zG C n0 d r (pc + 1) L' st κ Q) : zG C n0 d r pc L (.int x :: st) κ Q := y_pl (F := fun lo => dset1 lo (k : Nat) (.int x)) hd rfl (fun lo hl => by
  show dstI 1 1 pc (k : Nat) r.2.2.1 lo (.int x :: st) = _
  unfold dstI
  simp only [hk, and_self, if_true]) (fun lo hl => by rw [← hL]; exact lA_set1 hl) K
theorem y_isnb {k} {x : Int32} (hd : decode r.2.1 pc = .ok (.istore_n k, 1)) (hk : (k : Nat) < r.2.2.1) (K : ∀ y, y = x → zG C n0 d r (pc + 1) (lset1 L (k : Nat) (.int y)) st κ Q) : zG C n0 d r pc L (.int x :: st) κ Q := y_isn hd hk rfl (K x rfl)
theorem y_is {k : Nat} {x : Int32} {L' : List (Option Value)} (hd : decode r.2.1 pc = .ok (.istore k, 2)) (hk : k < r.2.2.1) (hL : lset1 L k (.int x) = L') (K : zG C n0 d r (pc + 2) L' st κ Q) : zG C n0 d r pc L (.int x :: st) κ Q := y_pl (F := fun lo => dset1 lo k (.int x)) hd rfl (fun lo hl => by
  show dstI 2 2 pc k r.2.2.1 lo (.int x :: st) = _
  unfold dstI
  simp only [hk, and_self, if_true]) (fun lo hl => by rw [← hL]; exact lA_set1 hl) K
theorem y_isb {k : Nat} {x : Int32} (hd : decode r.2.1 pc = .ok (.istore k, 2)) (hk : k < r.2.2.1) (K : ∀ y, y = x → zG C n0 d r (pc + 2) (lset1 L k (.int y)) st κ Q) : zG C n0 d r pc L (.int x :: st) κ Q := y_is hd hk rfl (K x rfl)
theorem y_lsn {k} {x : Int64} {L' : List (Option Value)} (hd : decode r.2.1 pc = .ok (.lstore_n k, 1)) (hk : (k : Nat) + 1 < r.2.2.1) (hL : lset2 L (k : Nat) (.long x) = L') (K : zG C n0 d r (pc + 1) L' st κ Q) : zG C n0 d r pc L (.long x :: st) κ Q := y_pl (F := fun lo => dset2 lo (k : Nat) (.long x)) hd rfl (fun lo hl => by
  show dstL 1 1 pc (k : Nat) r.2.2.1 lo (.long x :: st) = _
  unfold dstL
  simp only [hk, and_self, if_true]) (fun lo hl => by rw [← hL]; exact lA_set2 hl) K
theorem y_lsnb {k} {x : Int64} (hd : decode r.2.1 pc = .ok (.lstore_n k, 1)) (hk : (k : Nat) + 1 < r.2.2.1) (K : ∀ y, y = x → zG C n0 d r (pc + 1) (lset2 L (k : Nat) (.long y)) st κ Q) : zG C n0 d r pc L (.long x :: st) κ Q := y_lsn hd hk rfl (K x rfl)
theorem y_ls {k : Nat} {x : Int64} {L' : List (Option Value)} (hd : decode r.2.1 pc = .ok (.lstore k, 2)) (hk : k + 1 < r.2.2.1) (hL : lset2 L k (.long x) = L') (K : zG C n0 d r (pc + 2) L' st κ Q) : zG C n0 d r pc L (.long x :: st) κ Q := y_pl (F := fun lo => dset2 lo k (.long x)) hd rfl (fun lo hl => by
  show dstL 2 2 pc k r.2.2.1 lo (.long x :: st) = _
  unfold dstL
  simp only [hk, and_self, if_true]) (fun lo hl => by rw [← hL]; exact lA_set2 hl) K
theorem y_lsb {k : Nat} {x : Int64} (hd : decode r.2.1 pc = .ok (.lstore k, 2)) (hk : k + 1 < r.2.2.1) (K : ∀ y, y = x → zG C n0 d r (pc + 2) (lset2 L k (.long y)) st κ Q) : zG C n0 d r pc L (.long x :: st) κ Q := y_ls hd hk rfl (K x rfl)
theorem y_asn {k} {x : Nat} {L' : List (Option Value)} (hd : decode r.2.1 pc = .ok (.astore_n k, 1)) (hk : (k : Nat) < r.2.2.1) (hL : lset1 L (k : Nat) (.ref x) = L') (K : zG C n0 d r (pc + 1) L' st κ Q) : zG C n0 d r pc L (.ref x :: st) κ Q := y_pl (F := fun lo => dset1 lo (k : Nat) (.ref x)) hd rfl (fun lo hl => by
  show dstA 1 1 pc (k : Nat) r.2.2.1 lo (.ref x :: st) = _
  unfold dstA
  simp only [hk, and_self, if_true]) (fun lo hl => by rw [← hL]; exact lA_set1 hl) K
theorem y_asnb {k} {x : Nat} (hd : decode r.2.1 pc = .ok (.astore_n k, 1)) (hk : (k : Nat) < r.2.2.1) (K : ∀ y, y = x → zG C n0 d r (pc + 1) (lset1 L (k : Nat) (.ref y)) st κ Q) : zG C n0 d r pc L (.ref x :: st) κ Q := y_asn hd hk rfl (K x rfl)
theorem y_as {k : Nat} {x : Nat} {L' : List (Option Value)} (hd : decode r.2.1 pc = .ok (.astore k, 2)) (hk : k < r.2.2.1) (hL : lset1 L k (.ref x) = L') (K : zG C n0 d r (pc + 2) L' st κ Q) : zG C n0 d r pc L (.ref x :: st) κ Q := y_pl (F := fun lo => dset1 lo k (.ref x)) hd rfl (fun lo hl => by
  show dstA 2 2 pc k r.2.2.1 lo (.ref x :: st) = _
  unfold dstA
  simp only [hk, and_self, if_true]) (fun lo hl => by rw [← hL]; exact lA_set1 hl) K
theorem y_asb {k : Nat} {x : Nat} (hd : decode r.2.1 pc = .ok (.astore k, 2)) (hk : k < r.2.2.1) (K : ∀ y, y = x → zG C n0 d r (pc + 2) (lset1 L k (.ref y)) st κ Q) : zG C n0 d r pc L (.ref x :: st) κ Q := y_as hd hk rfl (K x rfl)
theorem y_qsn {k} {x : Option Nat} {L' : List (Option Value)} (hd : decode r.2.1 pc = .ok (.astore_n k, 1)) (hk : (k : Nat) < r.2.2.1) (hL : lset1 L (k : Nat) (va_rf x) = L') (K : zG C n0 d r (pc + 1) L' st κ Q) : zG C n0 d r pc L (va_rf x :: st) κ Q := y_pl (F := fun lo => dset1 lo (k : Nat) (va_rf x)) hd rfl (fun lo hl => by
  show dstA 1 1 pc (k : Nat) r.2.2.1 lo (va_rf x :: st) = _
  unfold dstA
  cases x <;> simp only [va_rf, hk, and_self, if_true]) (fun lo hl => by rw [← hL]; exact lA_set1 hl) K
theorem y_qsnb {k} {x : Option Nat} (hd : decode r.2.1 pc = .ok (.astore_n k, 1)) (hk : (k : Nat) < r.2.2.1) (K : ∀ y, y = x → zG C n0 d r (pc + 1) (lset1 L (k : Nat) (va_rf y)) st κ Q) : zG C n0 d r pc L (va_rf x :: st) κ Q := y_qsn hd hk rfl (K x rfl)
theorem y_qs {k : Nat} {x : Option Nat} {L' : List (Option Value)} (hd : decode r.2.1 pc = .ok (.astore k, 2)) (hk : k < r.2.2.1) (hL : lset1 L k (va_rf x) = L') (K : zG C n0 d r (pc + 2) L' st κ Q) : zG C n0 d r pc L (va_rf x :: st) κ Q := y_pl (F := fun lo => dset1 lo k (va_rf x)) hd rfl (fun lo hl => by
  show dstA 2 2 pc k r.2.2.1 lo (va_rf x :: st) = _
  unfold dstA
  cases x <;> simp only [va_rf, hk, and_self, if_true]) (fun lo hl => by rw [← hL]; exact lA_set1 hl) K
theorem y_qsb {k : Nat} {x : Option Nat} (hd : decode r.2.1 pc = .ok (.astore k, 2)) (hk : k < r.2.2.1) (K : ∀ y, y = x → zG C n0 d r (pc + 2) (lset1 L k (va_rf y)) st κ Q) : zG C n0 d r pc L (va_rf x :: st) κ Q := y_qs hd hk rfl (K x rfl)
theorem y_inc {k : Nat} {n : Int} {x y : Int32} {L' : List (Option Value)} (hd : decode r.2.1 pc = .ok (.iinc k n, 3)) (hx : L[k]? = some (some (.int x))) (hk : k < r.2.2.1) (hy : x + Int32.ofInt n = y) (hL : lset1 L k (.int y) = L') (K : zG C n0 d r (pc + 3) L' st κ Q) : zG C n0 d r pc L st κ Q := y_pl (F := fun lo => dset1 lo k (.int y)) hd rfl (fun lo hl => by
  show dinc 3 pc r.2.2.1 k n lo st = _
  unfold dinc
  rw [hl _ _ hx]
  simp only [hk, and_self, if_true, hy]) (fun lo hl => by rw [← hL]; exact lA_set1 hl) K
theorem y_incb {k : Nat} {n : Int} {x m : Int32} (hd : decode r.2.1 pc = .ok (.iinc k n, 3)) (hm : Int32.ofInt n = m) (hx : L[k]? = some (some (.int x))) (hk : k < r.2.2.1) (K : ∀ y, y = x + m → zG C n0 d r (pc + 3) (lset1 L k (.int y)) st κ Q) : zG C n0 d r pc L st κ Q := y_inc hd hx hk (by rw [hm]) rfl (K (x + m) rfl)
theorem y_ii {c : ClassFile.Cond} {off : Int} {t : Nat} {x y : Int32} (P : Prop) [Decidable P] (hd : decode r.2.1 pc = .ok (.if_icmp c off, 3)) (ht : dto pc off = some t) (hP : dcnd c x y = decide P) (K1 : P → zG C n0 d r t L st κ Q) (K2 : ¬ P → zG C n0 d r (pc + 3) L st κ Q) : zG C n0 d r pc L (.int y :: .int x :: st) κ Q := by
  by_cases h : P
  · refine y_p hd rfl (fun lo => ?_) (K1 h)
    show dif 3 pc lo st off (dcnd c x y) = _
    unfold dif
    rw [hP, ht, decide_eq_true h]; rfl
  · refine y_p hd rfl (fun lo => ?_) (K2 h)
    show dif 3 pc lo st off (dcnd c x y) = _
    unfold dif
    rw [hP, ht, decide_eq_false h]; rfl
theorem y_iin {c : ClassFile.Cond} {off : Int} {t : Nat} {x y : Int32} (P : Prop) [Decidable P] (hd : decode r.2.1 pc = .ok (.if_icmp c off, 3)) (ht : dto pc off = some t) (hP : dcnd c x y = decide (¬ P)) (K1 : ¬ P → zG C n0 d r t L st κ Q) (K2 : P → zG C n0 d r (pc + 3) L st κ Q) : zG C n0 d r pc L (.int y :: .int x :: st) κ Q := y_ii (¬ P) hd ht hP K1 (fun h => K2 (Decidable.not_not.mp h))
theorem y_i {c : ClassFile.Cond} {off : Int} {t : Nat} {x : Int32} (P : Prop) [Decidable P] (hd : decode r.2.1 pc = .ok (.ifCond c off, 3)) (ht : dto pc off = some t) (hP : dcnd c x 0 = decide P) (K1 : P → zG C n0 d r t L st κ Q) (K2 : ¬ P → zG C n0 d r (pc + 3) L st κ Q) : zG C n0 d r pc L (.int x :: st) κ Q := by
  by_cases h : P
  · refine y_p hd rfl (fun lo => ?_) (K1 h)
    show dif 3 pc lo st off (dcnd c x 0) = _
    unfold dif
    rw [hP, ht, decide_eq_true h]; rfl
  · refine y_p hd rfl (fun lo => ?_) (K2 h)
    show dif 3 pc lo st off (dcnd c x 0) = _
    unfold dif
    rw [hP, ht, decide_eq_false h]; rfl
theorem y_in {c : ClassFile.Cond} {off : Int} {t : Nat} {x : Int32} (P : Prop) [Decidable P] (hd : decode r.2.1 pc = .ok (.ifCond c off, 3)) (ht : dto pc off = some t) (hP : dcnd c x 0 = decide (¬ P)) (K1 : ¬ P → zG C n0 d r t L st κ Q) (K2 : P → zG C n0 d r (pc + 3) L st κ Q) : zG C n0 d r pc L (.int x :: st) κ Q := y_i (¬ P) hd ht hP K1 (fun h => K2 (Decidable.not_not.mp h))
theorem y_nl {off : Int} {t : Nat} {x : Option Nat} (hd : decode r.2.1 pc = .ok (.ifnull off, 3)) (ht : dto pc off = some t) (K1 : x = none → zG C n0 d r t L st κ Q) (K2 : ∀ v, x = some v → zG C n0 d r (pc + 3) L st κ Q) : zG C n0 d r pc L (va_rf x :: st) κ Q := by
  cases x with
  | none =>
    refine y_p hd rfl (fun lo => ?_) (K1 rfl)
    show dif 3 pc lo st off true = _
    unfold dif; rw [ht]; rfl
  | some v =>
    refine y_p hd rfl (fun lo => ?_) (K2 v rfl)
    show dif 3 pc lo st off (!true) = _
    unfold dif; rw [ht]; rfl
theorem y_nn {off : Int} {t : Nat} {x : Option Nat} (hd : decode r.2.1 pc = .ok (.ifnonnull off, 3)) (ht : dto pc off = some t) (K1 : ∀ v, x = some v → zG C n0 d r t L st κ Q) (K2 : x = none → zG C n0 d r (pc + 3) L st κ Q) : zG C n0 d r pc L (va_rf x :: st) κ Q := by
  cases x with
  | none =>
    refine y_p hd rfl (fun lo => ?_) (K2 rfl)
    show dif 3 pc lo st off false = _
    unfold dif; rw [ht]; rfl
  | some v =>
    refine y_p hd rfl (fun lo => ?_) (K1 v rfl)
    show dif 3 pc lo st off (!false) = _
    unfold dif; rw [ht]; rfl
theorem y_swd {dflt low hi : Int} {offs : Array Int} {len t : Nat} {x : Int32} (hd : decode r.2.1 pc = .ok (.tableswitch dflt low hi offs, len)) (hx : x.toInt < low ∨ hi < x.toInt) (ht : dto pc dflt = some t) (K : zG C n0 d r t L st κ Q) : zG C n0 d r pc L (.int x :: st) κ Q := by
  refine y_p hd rfl (fun lo => ?_) K
  show dsw pc lo st dflt low hi offs x = _
  unfold dsw
  rw [if_pos hx, ht]; rfl
theorem y_div {x y : Int32} (hd : decode r.2.1 pc = .ok (.idiv, 1)) (hy : ¬ y = 0) (K : zG C n0 d r (pc + 1) L (.int (x / y) :: st) κ Q) : zG C n0 d r pc L (.int y :: .int x :: st) κ Q := by
  refine y_p hd rfl (fun lo => ?_) K
  show dbin 1 pc lo (.int y :: .int x :: st) (fun x y => if y = 0 then none else some (x / y)) = _
  unfold dbin
  simp only [hy, if_false, if_true, Option.map]
theorem y_rem {x y : Int32} (hd : decode r.2.1 pc = .ok (.irem, 1)) (hy : ¬ y = 0) (K : zG C n0 d r (pc + 1) L (.int (x - x / y * y) :: st) κ Q) : zG C n0 d r pc L (.int y :: .int x :: st) κ Q := by
  refine y_p hd rfl (fun lo => ?_) K
  show dbin 1 pc lo (.int y :: .int x :: st) (fun x y => if y = 0 then none else some (x - x / y * y)) = _
  unfold dbin
  simp only [hy, if_false, if_true, Option.map]
theorem y_ldiv {x y : Int64} (hd : decode r.2.1 pc = .ok (.ldiv, 1)) (hy : ¬ y = 0) (K : zG C n0 d r (pc + 1) L (.long (x / y) :: st) κ Q) : zG C n0 d r pc L (.long y :: .long x :: st) κ Q := by
  refine y_p hd rfl (fun lo => ?_) K
  show dbinL 1 pc lo (.long y :: .long x :: st) (fun x y => if y = 0 then none else some (x / y)) = _
  unfold dbinL
  simp only [hy, if_false, if_true, Option.map]
theorem y_lrem {x y : Int64} (hd : decode r.2.1 pc = .ok (.lrem, 1)) (hy : ¬ y = 0) (K : zG C n0 d r (pc + 1) L (.long (x - x / y * y) :: st) κ Q) : zG C n0 d r pc L (.long y :: .long x :: st) κ Q := by
  refine y_p hd rfl (fun lo => ?_) K
  show dbinL 1 pc lo (.long y :: .long x :: st) (fun x y => if y = 0 then none else some (x - x / y * y)) = _
  unfold dbinL
  simp only [hy, if_false, if_true, Option.map]
theorem y_ic {n : Int} {x : Int32} (hd : decode r.2.1 pc = .ok (.iconst n, 1)) (hx : Int32.ofInt n = x) (K : zG C n0 d r (pc + 1) L (.int x :: st) κ Q) : zG C n0 d r pc L st κ Q := by
  subst hx; exact y_p hd rfl (fun _ => rfl) K
theorem y_bi1 {n : Int} {x : Int32} (hd : decode r.2.1 pc = .ok (.bipush n, 2)) (hx : (Int8.ofInt n).toInt32 = x) (K : zG C n0 d r (pc + 2) L (.int x :: st) κ Q) : zG C n0 d r pc L st κ Q := by
  subst hx; exact y_p hd rfl (fun _ => rfl) K
theorem y_si {n : Int} {x : Int32} (hd : decode r.2.1 pc = .ok (.sipush n, 3)) (hx : (Int16.ofInt n).toInt32 = x) (K : zG C n0 d r (pc + 3) L (.int x :: st) κ Q) : zG C n0 d r pc L st κ Q := by
  subst hx; exact y_p hd rfl (fun _ => rfl) K
theorem y_lc {n} {x : Int64} (hd : decode r.2.1 pc = .ok (.lconst n, 1)) (hx : Int64.ofNat (n : Nat) = x) (K : zG C n0 d r (pc + 1) L (.long x :: st) κ Q) : zG C n0 d r pc L st κ Q := by
  subst hx; exact y_p hd rfl (fun _ => rfl) K
theorem y_iadd {x y : Int32} (hd : decode r.2.1 pc = .ok (.iadd, 1)) (K : zG C n0 d r (pc + 1) L (.int (x + y) :: st) κ Q) : zG C n0 d r pc L (.int y :: .int x :: st) κ Q := y_p hd rfl (fun _ => rfl) K
theorem y_isub {x y : Int32} (hd : decode r.2.1 pc = .ok (.isub, 1)) (K : zG C n0 d r (pc + 1) L (.int (x - y) :: st) κ Q) : zG C n0 d r pc L (.int y :: .int x :: st) κ Q := y_p hd rfl (fun _ => rfl) K
theorem y_imul {x y : Int32} (hd : decode r.2.1 pc = .ok (.imul, 1)) (K : zG C n0 d r (pc + 1) L (.int (x * y) :: st) κ Q) : zG C n0 d r pc L (.int y :: .int x :: st) κ Q := y_p hd rfl (fun _ => rfl) K
theorem y_iand {x y : Int32} (hd : decode r.2.1 pc = .ok (.iand, 1)) (K : zG C n0 d r (pc + 1) L (.int (x &&& y) :: st) κ Q) : zG C n0 d r pc L (.int y :: .int x :: st) κ Q := y_p hd rfl (fun _ => rfl) K
theorem y_ior {x y : Int32} (hd : decode r.2.1 pc = .ok (.ior, 1)) (K : zG C n0 d r (pc + 1) L (.int (x ||| y) :: st) κ Q) : zG C n0 d r pc L (.int y :: .int x :: st) κ Q := y_p hd rfl (fun _ => rfl) K
theorem y_ishl {x y : Int32} (hd : decode r.2.1 pc = .ok (.ishl, 1)) (K : zG C n0 d r (pc + 1) L (.int (x <<< (y &&& 31)) :: st) κ Q) : zG C n0 d r pc L (.int y :: .int x :: st) κ Q := y_p hd rfl (fun _ => rfl) K
theorem y_ishr {x y : Int32} (hd : decode r.2.1 pc = .ok (.ishr, 1)) (K : zG C n0 d r (pc + 1) L (.int (x >>> (y &&& 31)) :: st) κ Q) : zG C n0 d r pc L (.int y :: .int x :: st) κ Q := y_p hd rfl (fun _ => rfl) K
theorem y_iushr {x y : Int32} (hd : decode r.2.1 pc = .ok (.iushr, 1)) (K : zG C n0 d r (pc + 1) L (.int (x.toUInt32 >>> (y.toUInt32 &&& Int32.toUInt32 31)).toInt32 :: st) κ Q) : zG C n0 d r pc L (.int y :: .int x :: st) κ Q := y_p hd rfl (fun _ => rfl) K
theorem y_ineg {x : Int32} (hd : decode r.2.1 pc = .ok (.ineg, 1)) (K : zG C n0 d r (pc + 1) L (.int (-x) :: st) κ Q) : zG C n0 d r pc L (.int x :: st) κ Q := y_p hd rfl (fun _ => rfl) K
theorem y_i2l {x : Int32} (hd : decode r.2.1 pc = .ok (.i2l, 1)) (K : zG C n0 d r (pc + 1) L (.long x.toInt64 :: st) κ Q) : zG C n0 d r pc L (.int x :: st) κ Q := y_p hd rfl (fun _ => rfl) K
theorem y_i2b {x : Int32} (hd : decode r.2.1 pc = .ok (.i2b, 1)) (K : zG C n0 d r (pc + 1) L (.int x.toInt8.toInt32 :: st) κ Q) : zG C n0 d r pc L (.int x :: st) κ Q := y_p hd rfl (fun _ => rfl) K
theorem y_l2i {x : Int64} (hd : decode r.2.1 pc = .ok (.l2i, 1)) (K : zG C n0 d r (pc + 1) L (.int x.toInt32 :: st) κ Q) : zG C n0 d r pc L (.long x :: st) κ Q := y_p hd rfl (fun _ => rfl) K
theorem y_lneg {x : Int64} (hd : decode r.2.1 pc = .ok (.lneg, 1)) (K : zG C n0 d r (pc + 1) L (.long (-x) :: st) κ Q) : zG C n0 d r pc L (.long x :: st) κ Q := y_p hd rfl (fun _ => rfl) K
theorem y_ladd {x y : Int64} (hd : decode r.2.1 pc = .ok (.ladd, 1)) (K : zG C n0 d r (pc + 1) L (.long (x + y) :: st) κ Q) : zG C n0 d r pc L (.long y :: .long x :: st) κ Q := y_p hd rfl (fun _ => rfl) K
theorem y_lsub {x y : Int64} (hd : decode r.2.1 pc = .ok (.lsub, 1)) (K : zG C n0 d r (pc + 1) L (.long (x - y) :: st) κ Q) : zG C n0 d r pc L (.long y :: .long x :: st) κ Q := y_p hd rfl (fun _ => rfl) K
theorem y_lmul {x y : Int64} (hd : decode r.2.1 pc = .ok (.lmul, 1)) (K : zG C n0 d r (pc + 1) L (.long (x * y) :: st) κ Q) : zG C n0 d r pc L (.long y :: .long x :: st) κ Q := y_p hd rfl (fun _ => rfl) K
theorem y_land {x y : Int64} (hd : decode r.2.1 pc = .ok (.land, 1)) (K : zG C n0 d r (pc + 1) L (.long (x &&& y) :: st) κ Q) : zG C n0 d r pc L (.long y :: .long x :: st) κ Q := y_p hd rfl (fun _ => rfl) K
theorem y_lor {x y : Int64} (hd : decode r.2.1 pc = .ok (.lor, 1)) (K : zG C n0 d r (pc + 1) L (.long (x ||| y) :: st) κ Q) : zG C n0 d r pc L (.long y :: .long x :: st) κ Q := y_p hd rfl (fun _ => rfl) K
theorem y_lshl {x : Int64} {y : Int32} (hd : decode r.2.1 pc = .ok (.lshl, 1)) (K : zG C n0 d r (pc + 1) L (.long (x <<< (y.toInt64 &&& 63)) :: st) κ Q) : zG C n0 d r pc L (.int y :: .long x :: st) κ Q := y_p hd rfl (fun _ => rfl) K
theorem y_lushr {x : Int64} {y : Int32} (hd : decode r.2.1 pc = .ok (.lushr, 1)) (K : zG C n0 d r (pc + 1) L (.long (x.toUInt64 >>> (y.toInt64.toUInt64 &&& Int64.toUInt64 63)).toInt64 :: st) κ Q) : zG C n0 d r pc L (.int y :: .long x :: st) κ Q := y_p hd rfl (fun _ => rfl) K
theorem y_lcmp {x y : Int64} (hd : decode r.2.1 pc = .ok (.lcmp, 1)) (K : zG C n0 d r (pc + 1) L (.int (lg_cmp x y) :: st) κ Q) : zG C n0 d r pc L (.long y :: .long x :: st) κ Q := y_p hd rfl (fun _ => rfl) K
theorem y_dup {v : Value} (hd : decode r.2.1 pc = .ok (.dup, 1)) (hv : v.category = 1) (K : zG C n0 d r (pc + 1) L (v :: v :: st) κ Q) : zG C n0 d r pc L (v :: st) κ Q := y_p hd rfl (fun lo => by show ddup 1 pc lo (v :: st) = _; unfold ddup; simp only [hv, and_self, if_true]) K
theorem y_pop {v : Value} (hd : decode r.2.1 pc = .ok (.pop, 1)) (hv : v.category = 1) (K : zG C n0 d r (pc + 1) L st κ Q) : zG C n0 d r pc L (v :: st) κ Q := y_p hd rfl (fun lo => by show dpop 1 pc lo (v :: st) = _; unfold dpop; simp only [hv, and_self, if_true]) K
theorem y_dup2 {v w : Value} (hd : decode r.2.1 pc = .ok (.dup2, 1)) (hv : v.category = 1) (hw : w.category = 1) (K : zG C n0 d r (pc + 1) L (v :: w :: v :: w :: st) κ Q) : zG C n0 d r pc L (v :: w :: st) κ Q := y_p hd rfl (fun lo => by show ddup2 1 pc lo (v :: w :: st) = _; unfold ddup2; simp only [hv, hw, and_self, if_true]) K
theorem y_goto {off : Int} {t : Nat} (hd : decode r.2.1 pc = .ok (.goto off, 3)) (ht : dto pc off = some t) (K : zG C n0 d r t L st κ Q) : zG C n0 d r pc L st κ Q := y_p hd rfl (fun lo => by show dif 3 pc lo st off true = _; unfold dif; rw [ht]; rfl) K
theorem y_ixor {x y : Int32} (hd : decode r.2.1 pc = .ok (.ixor, 1)) (K : zG C n0 d r (pc + 1) L (.int (x ^^^ y) :: st) κ Q) : zG C n0 d r pc L (.int y :: .int x :: st) κ Q := y_p hd rfl (fun _ => rfl) K
theorem y_i2c {x : Int32} (hd : decode r.2.1 pc = .ok (.i2c, 1)) (K : zG C n0 d r (pc + 1) L (.int (x.toUInt32 % 65536).toInt32 :: st) κ Q) : zG C n0 d r pc L (.int x :: st) κ Q := y_p hd rfl (fun _ => rfl) K
theorem y_lshr {x : Int64} {y : Int32} (hd : decode r.2.1 pc = .ok (.lshr, 1)) (K : zG C n0 d r (pc + 1) L (.long (x >>> (y.toInt64 &&& 63)) :: st) κ Q) : zG C n0 d r pc L (.int y :: .long x :: st) κ Q := y_p hd rfl (fun _ => rfl) K
theorem y_null (hd : decode r.2.1 pc = .ok (.aconst_null, 1)) (K : zG C n0 d r (pc + 1) L (va_rf none :: st) κ Q) : zG C n0 d r pc L st κ Q := y_p hd rfl (fun _ => rfl) K
end SY

end
section
/-! the class's heap steps -/
section SZ
variable {C : zC} {n0 d : Nat} {r : dM} {pc : Nat} {L : List (Option Value)} {st : List Value} {κ : zS} {Q : zU → zS → Prop}
theorem y_h {i : Instr} {len x y : Nat} {st' : List Value} {κ1 : zS} (hd : decode r.2.1 pc = .ok (i, len)) (hx : dxat (yEn C) dXX r pc = none) (h0 : ∀ lo, dpure i len pc r.2.2.1 lo st = none) (hg : ∀ cs ss, dheap (yEn C) (yb C) d r i len st (zH C κ) cs ss = some (st', zH C κ1, cs + x, ss + y)) (hc : zc κ1 = zc κ + x ∧ zs κ1 = zs κ + y) (hM : zM n0 κ κ1) (K : zG C n0 d r (pc + len) L st' κ1 Q) : zG C n0 d r pc L st κ Q := by
  intro lo cs ss hl
  obtain ⟨o, κ', x9, y9, h1, h2, h3, h4, h5, h6⟩ := K lo (cs + x) (ss + y) hl
  refine ⟨o, κ', x + x9, y + y9, gg_heap hx hd (h0 lo) (hg cs ss) ?_, by omega, by omega, h4, hM.tr h5, h6⟩
  rw [show cs + (x + x9) = cs + x + x9 from by omega, show ss + (y + y9) = ss + y + y9 from by omega]
  exact h1
theorem y_h0 {i : Instr} {len : Nat} {st' : List Value} {κ1 : zS} (hd : decode r.2.1 pc = .ok (i, len)) (hi : iNew i = false) (h0 : ∀ lo, dpure i len pc r.2.2.1 lo st = none) (hg : ∀ cs ss, dheap (yEn C) (yb C) d r i len st (zH C κ) cs ss = some (st', zH C κ1, cs, ss)) (hc : zc κ1 = zc κ ∧ zs κ1 = zs κ) (hM : zM n0 κ κ1) (K : zG C n0 d r (pc + len) L st' κ1 Q) : zG C n0 d r pc L st κ Q := y_h (x := 0) (y := 0) hd (dx_no hd hi) h0 hg hc hM K
theorem y_get {idx o ci k a : Nat} {v : Value} (hd : decode r.2.1 pc = .ok (.getfield idx, 3)) (ho : r.2.2.2.2.2.1 = o) (hf : (tFL o).lookup idx = some (ci, k)) (hk : k < nN ci ∧ 0 < ci ∧ ci < 20) (hB : zBo κ a ci) (hv : zV κ a (100 * ci + k) = v) (K : zG C n0 d r (pc + 3) L (v :: st) κ Q) : zG C n0 d r pc L (.ref a :: st) κ Q := by
  refine y_h0 hd rfl (fun _ => rfl) (fun cs ss => ?_) ⟨rfl, rfl⟩ zM.rf K
  have h1 : dgetf (yEn C) r.2.2.2.2.2.1 3 idx (.ref a :: st) (zH C κ) cs ss = some (v :: st, zH C κ, cs, ss) := by
    have hf' : eFL (yEn C) o idx = some (ci, k) := hf
    unfold dgetf
    simp only [zH_ob hB hk.2.1 hk.2.2, ho, hf', zFs_at hk.1, hv]
    rfl
  show dor (dgetf (yEn C) r.2.2.2.2.2.1 3 idx (.ref a :: st) (zH C κ) cs ss) _ = _
  rw [h1]
  rfl
theorem y_put {idx o ci k a : Nat} {v : Value} {κ1 : zS} {ty : FieldType} {fin : Bool} (hd : decode r.2.1 pc = .ok (.putfield idx, 3)) (ho : r.2.2.2.2.2.1 = o) (hf : (tFL o).lookup idx = some (ci, k)) (hk : k < nN ci ∧ 0 < ci ∧ ci < 20) (ht : tFT ci k = some (ty, fin)) (hfin : fin = false ∨ (r.1.name = "<init>" ∧ o = ci)) (hn : narrow ty v = v ∧ fits ty v = true) (hB : zBo κ a ci) (hb : yb C ≤ a) (he : dupd (zH C κ) a (.inr (ci, (zFs κ a ci).set k v)) = zH C κ1) (hc : zc κ1 = zc κ ∧ zs κ1 = zs κ) (hM : zM n0 κ κ1) (K : zG C n0 d r (pc + 3) L st κ1 Q) : zG C n0 d r pc L (v :: .ref a :: st) κ Q := by
  refine y_h0 hd rfl (fun _ => rfl) (fun cs ss => ?_) hc hM K
  show dputf (yEn C) (yb C) r.2.2.2.2.2.1 3 idx _ (v :: .ref a :: st) (zH C κ) cs ss = _
  have hf' : eFL (yEn C) o idx = some (ci, k) := hf
  have ht' : eFT (yEn C) ci k = some (ty, fin) := ht
  unfold dputf
  simp only [zH_ob hB hk.2.1 hk.2.2, ho, hf', ht']
  have hq : fin = false ∨ (decide (r.1.name = "<init>") = true ∧ o = ci) := by
    rcases hfin with z | z
    · exact Or.inl z
    · exact Or.inr ⟨decide_eq_true z.1, z.2⟩
  rw [if_pos ⟨trivial, hb, trivial, hq, hn.1, hn.2, by rw [zFs_len]; exact hk.1⟩, he]
theorem zW_b {a : Nat} (W : zW C n0 κ) (h : zT κ a ≠ 0) : yb C ≤ a ∧ a < zn κ ∧ a ≠ 0 := ⟨(W.2.1 a h).1.1, (W.2.1 a h).2, by have := (W.2.1 a h).1.1; have := W.1.1.1; omega⟩
theorem zB_nz {a ci : Nat} (hB : zBo κ a ci) (h0 : 0 < ci) : zT κ a ≠ 0 := by rcases hB with h | h <;> omega
theorem zV_i {a f : Nat} (hr : zr f = none) : zV κ a f = .int (zI κ f a) := by unfold zV; rw [hr]
theorem zV_r {a f t : Nat} (hr : zr f = some t) (h : zR κ f a ≠ 0) : zV κ a f = .ref (zR κ f a) := by unfold zV; rw [hr]; show (if zR κ f a = 0 then _ else _) = _; rw [if_neg h]
theorem y_geti {idx o ci k a : Nat} (hd : decode r.2.1 pc = .ok (.getfield idx, 3)) (ho : r.2.2.2.2.2.1 = o) (hf : (tFL o).lookup idx = some (ci, k)) (hk : (k < nN ci ∧ 0 < ci ∧ ci < 20) ∧ zr (100 * ci + k) = none) (hB : zBo κ a ci) (K : zG C n0 d r (pc + 3) L (.int (zI κ (100 * ci + k) a) :: st) κ Q) : zG C n0 d r pc L (.ref a :: st) κ Q := y_get hd ho hf hk.1 hB (zV_i hk.2) K
theorem y_getr {idx o ci k a t : Nat} (W : zW C n0 κ) (hd : decode r.2.1 pc = .ok (.getfield idx, 3)) (ho : r.2.2.2.2.2.1 = o) (hf : (tFL o).lookup idx = some (ci, k)) (hk : (k < nN ci ∧ 0 < ci ∧ ci < 20) ∧ zr (100 * ci + k) = some (t + 1)) (hB : zBo κ a ci) (hT : zT κ (zR κ (100 * ci + k) a) = t + 1) (K : zG C n0 d r (pc + 3) L (.ref (zR κ (100 * ci + k) a) :: st) κ Q) : zG C n0 d r pc L (.ref a :: st) κ Q := y_get hd ho hf hk.1 hB (zV_r hk.2 (zW_b W (by omega)).2.2) K
theorem y_puti {idx o ci k a : Nat} {x : Int32} {ty : FieldType} {fin : Bool} (W : zW C n0 κ) (hd : decode r.2.1 pc = .ok (.putfield idx, 3)) (ho : r.2.2.2.2.2.1 = o) (hf : (tFL o).lookup idx = some (ci, k)) (hk : (k < nN ci ∧ 0 < ci ∧ ci < 20) ∧ zr (100 * ci + k) = none) (ht : tFT ci k = some (ty, fin)) (hfin : fin = false ∨ (r.1.name = "<init>" ∧ o = ci)) (hn : narrow ty (.int x) = .int x ∧ fits ty (.int x) = true) (hB : zBo κ a ci) (K : ∀ κ1, κ1 = ui κ (100 * ci + k) a x → zG C n0 d r (pc + 3) L st κ1 Q) : zG C n0 d r pc L (.int x :: .ref a :: st) κ Q := by
  refine y_put (κ1 := ui κ (100 * ci + k) a x) hd ho hf hk.1 ht hfin hn hB (zW_b W (zB_nz hB hk.1.2.1)).1 ?_ ⟨rfl, rfl⟩ (zM.of rfl rfl rfl) (K _ rfl)
  exact zH_put hB hk.1.2.1 hk.1.2.2 rfl rfl rfl rfl rfl rfl (zV_ui hk.2) (fun j hj => zV_ui2 (by omega)) (fun b g hb => zV_ui2 (fun z => hb z.2))
theorem y_putr {idx o ci k a v t : Nat} {ty : FieldType} {fin : Bool} (W : zW C n0 κ) (hd : decode r.2.1 pc = .ok (.putfield idx, 3)) (ho : r.2.2.2.2.2.1 = o) (hf : (tFL o).lookup idx = some (ci, k)) (hk : (k < nN ci ∧ 0 < ci ∧ ci < 20) ∧ zr (100 * ci + k) = some (t + 1)) (ht : tFT ci k = some (ty, fin)) (hfin : fin = false ∨ (r.1.name = "<init>" ∧ o = ci)) (hn : ∀ v, narrow ty (.ref v) = .ref v ∧ fits ty (.ref v) = true) (hB : zBo κ a ci) (hv : zT κ v = t + 1) (K : ∀ κ1, κ1 = ur κ (100 * ci + k) a v → zG C n0 d r (pc + 3) L st κ1 Q) : zG C n0 d r pc L (.ref v :: .ref a :: st) κ Q := by
  refine y_put (κ1 := ur κ (100 * ci + k) a v) hd ho hf hk.1 ht hfin (hn v) hB (zW_b W (zB_nz hB hk.1.2.1)).1 ?_ ⟨rfl, rfl⟩ (zM.of rfl rfl rfl) (K _ rfl)
  exact zH_put hB hk.1.2.1 hk.1.2.2 rfl rfl rfl rfl rfl rfl (zV_ur hk.2 (zW_b W (by omega)).2.2 (if_pos ⟨rfl, rfl⟩)) (fun j hj => zV_ur2 (by omega)) (fun b g hb => zV_ur2 (fun z => hb z.2))
theorem y_puto {idx o ci k a v t : Nat} {ty : FieldType} {fin : Bool} (W : zW C n0 κ) (hd : decode r.2.1 pc = .ok (.putfield idx, 3)) (ho : r.2.2.2.2.2.1 = o) (hf : (tFL o).lookup idx = some (ci, k)) (hk : (k < nN ci ∧ 0 < ci ∧ ci < 20) ∧ zr (100 * ci + k) = some (t + 1)) (ht : tFT ci k = some (ty, fin)) (hfin : fin = false ∨ (r.1.name = "<init>" ∧ o = ci)) (hn : ∀ v, narrow ty (.ref v) = .ref v ∧ fits ty (.ref v) = true) (hB : zBo κ a ci) (hv : zT κ v = t + 1) (K : ∀ κ1, κ1 = uo κ (100 * ci + k) a v → zG C n0 d r (pc + 3) L st κ1 Q) : zG C n0 d r pc L (.ref v :: .ref a :: st) κ Q := by
  refine y_put (κ1 := uo κ (100 * ci + k) a v) hd ho hf hk.1 ht hfin (hn v) hB (zW_b W (zB_nz hB hk.1.2.1)).1 ?_ ⟨rfl, rfl⟩ (zM.of rfl rfl rfl) (K _ rfl)
  exact zH_put hB hk.1.2.1 hk.1.2.2 rfl rfl rfl rfl rfl rfl (zV_ur hk.2 (zW_b W (by omega)).2.2 (if_pos ⟨rfl, rfl⟩)) (fun j hj => zV_uo2 (by omega)) (fun b g hb => zV_uo2 (fun z => hb z.2))
theorem daldI_z {t len : Nat} {a : Nat} {i : Int32} {cs ss : Nat} (hT : zT κ a = 20 + t) (ht : t = 0 ∨ t = 1 ∨ t = 3) (hin : inb i (zN κ a)) : daldI t 1 (.int i :: .ref a :: st) (zH C κ) cs ss = some (.int (zA κ a i.toNatClampNeg) :: st, zH C κ, cs, ss) := by
  have hin : ¬ (i < 0 ∨ zN κ a ≤ i.toNatClampNeg) := hin
  unfold daldI
  simp only [zH_i hT ht]
  simp [hin]
theorem daldI_n {t t' : Nat} {a : Nat} {i : Int32} {cs ss : Nat} (hT : zT κ a = 20 + t') (ht : t' = 0 ∨ t' = 1 ∨ t' = 3) (hne : t' ≠ t) : daldI t 1 (.int i :: .ref a :: st) (zH C κ) cs ss = none := by
  unfold daldI
  simp only [zH_i hT ht]
  simp [hne]
theorem y_ald {a : Nat} {i : Int32} (hd : decode r.2.1 pc = .ok (.iaload, 1)) (hT : zT κ a = 20) (hin : inb i (zN κ a)) (K : zG C n0 d r (pc + 1) L (.int (zA κ a i.toNatClampNeg) :: st) κ Q) : zG C n0 d r pc L (.int i :: .ref a :: st) κ Q :=
  y_h0 hd rfl (fun _ => rfl) (fun cs ss => daldI_z (t := 0) (len := 1) hT (Or.inl rfl) hin) ⟨rfl, rfl⟩ zM.rf K
theorem y_bld {a : Nat} {i : Int32} (hd : decode r.2.1 pc = .ok (.baload, 1)) (hT : zT κ a = 21) (hin : inb i (zN κ a)) (K : zG C n0 d r (pc + 1) L (.int (zA κ a i.toNatClampNeg) :: st) κ Q) : zG C n0 d r pc L (.int i :: .ref a :: st) κ Q := by
  refine y_h0 hd rfl (fun _ => rfl) (fun cs ss => ?_) ⟨rfl, rfl⟩ zM.rf K
  show dor (daldI 1 1 (.int i :: .ref a :: st) (zH C κ) cs ss) _ = _
  rw [daldI_z (t := 1) (len := 1) hT (by decide) hin]
  rfl
theorem y_zld {a : Nat} {i : Int32} (hd : decode r.2.1 pc = .ok (.baload, 1)) (hT : zT κ a = 23) (hin : inb i (zN κ a)) (K : zG C n0 d r (pc + 1) L (.int (zA κ a i.toNatClampNeg) :: st) κ Q) : zG C n0 d r pc L (.int i :: .ref a :: st) κ Q := by
  refine y_h0 hd rfl (fun _ => rfl) (fun cs ss => ?_) ⟨rfl, rfl⟩ zM.rf K
  show dor (daldI 1 1 (.int i :: .ref a :: st) (zH C κ) cs ss) (dor (daldI 3 1 (.int i :: .ref a :: st) (zH C κ) cs ss) _) = _
  rw [daldI_n (t' := 3) hT (by decide) (by decide), daldI_z (t := 3) (len := 1) hT (by decide) hin]
  rfl
theorem y_lld {a : Nat} {i : Int32} (hd : decode r.2.1 pc = .ok (.laload, 1)) (hT : zT κ a = 22) (hin : inb i (zN κ a)) (K : zG C n0 d r (pc + 1) L (.long (zJ κ a i.toNatClampNeg) :: st) κ Q) : zG C n0 d r pc L (.int i :: .ref a :: st) κ Q := by
  refine y_h0 hd rfl (fun _ => rfl) (fun cs ss => ?_) ⟨rfl, rfl⟩ zM.rf K
  have hin : ¬ (i < 0 ∨ zN κ a ≤ i.toNatClampNeg) := hin
  show daldL 1 (.int i :: .ref a :: st) (zH C κ) cs ss = _
  unfold daldL
  simp only [zH_j hT]
  simp [hin]
theorem y_qld {a t : Nat} {i : Int32} (hd : decode r.2.1 pc = .ok (.aaload, 1)) (hT : zT κ a = 20 + t) (ht : t = 4 ∨ t = 5) (hin : inb i (zN κ a)) (K : zG C n0 d r (pc + 1) L (va_rf (zQ κ a i.toNatClampNeg) :: st) κ Q) : zG C n0 d r pc L (.int i :: .ref a :: st) κ Q := by
  refine y_h0 hd rfl (fun _ => rfl) (fun cs ss => ?_) ⟨rfl, rfl⟩ zM.rf K
  have hin : ¬ (i < 0 ∨ zN κ a ≤ i.toNatClampNeg) := hin
  show daldQ 1 (.int i :: .ref a :: st) (zH C κ) cs ss = _
  unfold daldQ
  simp only [zH_q hT ht]
  have h2 : (dobj t).isSome = true := by rcases ht with rfl | rfl <;> rfl
  simp [hin, h2]
theorem zCell_i {C : zC} {a t : Nat} (h : zT κ a = 20 + t) (ht : t = 0 ∨ t = 1 ∨ t = 3) : zCell κ a = .inl (t, zN κ a, .inl (zA κ a)) := by
  have := zH_i (C := C) h ht
  have h1 : (if zT κ a = 0 then (yh C).2 a else some (zCell κ a)) = _ := this
  rw [if_neg (by omega)] at h1
  exact Option.some.inj h1
theorem dastI_z {a t : Nat} {i x : Int32} {nr : Int32 → Int32} {cs ss : Nat} (W : zW C n0 κ) (hT : zT κ a = 20 + t) (ht : t = 0 ∨ t = 1 ∨ t = 3) (hin : inb i (zN κ a)) : dastI (yb C) t 1 nr (.int x :: .int i :: .ref a :: st) (zH C κ) cs ss = some (st, zH C (ua κ a i.toNatClampNeg (nr x)), cs, ss) := by
  have hin : ¬ (i < 0 ∨ zN κ a ≤ i.toNatClampNeg) := hin
  have hb := (zW_b W (a := a) (by omega)).1
  have he : dupd (zH C κ) a (.inl (t, zN κ a, .inl (upd (zA κ a) i.toNatClampNeg (nr x)))) = zH C (ua κ a i.toNatClampNeg (nr x)) := by
    refine zH_ast rfl rfl rfl rfl rfl (by omega) ?_ (fun b hb => ⟨if_neg hb, rfl, rfl⟩)
    rw [zCell_i (C := C) (κ := ua κ a i.toNatClampNeg (nr x)) hT ht]
    show (Sum.inl (t, zN κ a, .inl (if a = a then _ else _)) : dC) = _
    rw [if_pos rfl]
  unfold dastI
  simp only [zH_i hT ht]
  simp [hin, hb, he]
theorem dastI_n {a t t' : Nat} {i x : Int32} {nr : Int32 → Int32} {cs ss : Nat} (hT : zT κ a = 20 + t') (ht : t' = 0 ∨ t' = 1 ∨ t' = 3) (hne : t' ≠ t) : dastI (yb C) t 1 nr (.int x :: .int i :: .ref a :: st) (zH C κ) cs ss = none := by
  unfold dastI
  simp only [zH_i hT ht]
  simp [hne]
theorem y_ast {a : Nat} {i x : Int32} (W : zW C n0 κ) (hd : decode r.2.1 pc = .ok (.iastore, 1)) (hT : zT κ a = 20) (hin : inb i (zN κ a)) (K : ∀ κ1, κ1 = ua κ a i.toNatClampNeg x → zG C n0 d r (pc + 1) L st κ1 Q) : zG C n0 d r pc L (.int x :: .int i :: .ref a :: st) κ Q :=
  y_h0 (κ1 := ua κ a i.toNatClampNeg x) hd rfl (fun _ => rfl) (fun cs ss => by
    show dastI (yb C) 0 1 (fun x => x) (.int x :: .int i :: .ref a :: st) (zH C κ) cs ss = _
    exact dastI_z (t := 0) (nr := fun x => x) W hT (Or.inl rfl) hin) ⟨rfl, rfl⟩ (zM.of rfl rfl rfl) (K _ rfl)
theorem y_bst {a : Nat} {i x : Int32} (W : zW C n0 κ) (hd : decode r.2.1 pc = .ok (.bastore, 1)) (hT : zT κ a = 21) (hin : inb i (zN κ a)) (K : ∀ κ1, κ1 = ua κ a i.toNatClampNeg (vp_nar .byte x) → zG C n0 d r (pc + 1) L st κ1 Q) : zG C n0 d r pc L (.int x :: .int i :: .ref a :: st) κ Q := by
  refine y_h0 (κ1 := ua κ a i.toNatClampNeg (vp_nar .byte x)) hd rfl (fun _ => rfl) (fun cs ss => ?_) ⟨rfl, rfl⟩ (zM.of rfl rfl rfl) (K _ rfl)
  show (match dastI (yb C) 1 1 (vp_nar .byte) (.int x :: .int i :: .ref a :: st) (zH C κ) cs ss with | some g => some g | none => _) = _
  rw [dastI_z (t := 1) W hT (by decide) hin]
theorem y_zst {a : Nat} {i x : Int32} (W : zW C n0 κ) (hd : decode r.2.1 pc = .ok (.bastore, 1)) (hT : zT κ a = 23) (hin : inb i (zN κ a)) (K : ∀ κ1, κ1 = ua κ a i.toNatClampNeg (vp_nar .boolean x) → zG C n0 d r (pc + 1) L st κ1 Q) : zG C n0 d r pc L (.int x :: .int i :: .ref a :: st) κ Q := by
  refine y_h0 (κ1 := ua κ a i.toNatClampNeg (vp_nar .boolean x)) hd rfl (fun _ => rfl) (fun cs ss => ?_) ⟨rfl, rfl⟩ (zM.of rfl rfl rfl) (K _ rfl)
  show (match dastI (yb C) 1 1 (vp_nar .byte) (.int x :: .int i :: .ref a :: st) (zH C κ) cs ss with | some g => some g | none => dastI (yb C) 3 1 (vp_nar .boolean) (.int x :: .int i :: .ref a :: st) (zH C κ) cs ss) = _
  rw [dastI_n (t' := 3) hT (by decide) (by decide), dastI_z (t := 3) W hT (by decide) hin]
theorem y_lst {a : Nat} {i : Int32} {x : Int64} (W : zW C n0 κ) (hd : decode r.2.1 pc = .ok (.lastore, 1)) (hT : zT κ a = 22) (hin : inb i (zN κ a)) (K : ∀ κ1, κ1 = uj κ a i.toNatClampNeg x → zG C n0 d r (pc + 1) L st κ1 Q) : zG C n0 d r pc L (.long x :: .int i :: .ref a :: st) κ Q := by
  refine y_h0 (κ1 := uj κ a i.toNatClampNeg x) hd rfl (fun _ => rfl) (fun cs ss => ?_) ⟨rfl, rfl⟩ (zM.of rfl rfl rfl) (K _ rfl)
  have hin : ¬ (i < 0 ∨ zN κ a ≤ i.toNatClampNeg) := hin
  have hb := (zW_b W (a := a) (by omega)).1
  have hcl : zCell (uj κ a i.toNatClampNeg x) a = .inl (2, zN κ a, .inr (.inl (vp_updL (zJ κ a) i.toNatClampNeg x))) := by
    have h1 : (if zT κ a = 0 then (yh C).2 a else some (zCell (uj κ a i.toNatClampNeg x) a)) = _ := zH_j (C := C) (κ := uj κ a i.toNatClampNeg x) hT
    rw [if_neg (by omega)] at h1
    rw [Option.some.inj h1]
    show (Sum.inl (2, zN κ a, .inr (.inl (if a = a then _ else _))) : dC) = _
    rw [if_pos rfl]
  have he : dupd (zH C κ) a (.inl (2, zN κ a, .inr (.inl (vp_updL (zJ κ a) i.toNatClampNeg x)))) = zH C (uj κ a i.toNatClampNeg x) := zH_ast rfl rfl rfl rfl rfl (by omega) hcl (fun b hb => ⟨rfl, if_neg hb, rfl⟩)
  show dastL (yb C) 1 (.long x :: .int i :: .ref a :: st) (zH C κ) cs ss = _
  unfold dastL
  simp only [zH_j hT]
  simp [hin, hb, he]
theorem y_qst {a t v ci : Nat} {i : Int32} (W : zW C n0 κ) (hd : decode r.2.1 pc = .ok (.aastore, 1)) (hT : zT κ a = 20 + t) (ht : (t = 4 ∧ ci = 8) ∨ (t = 5 ∧ ci = 11)) (hv : zT κ v = ci) (hin : inb i (zN κ a)) (K : ∀ κ1, κ1 = uq κ a i.toNatClampNeg (some v) → zG C n0 d r (pc + 1) L st κ1 Q) : zG C n0 d r pc L (.ref v :: .int i :: .ref a :: st) κ Q := by
  refine y_h0 (κ1 := uq κ a i.toNatClampNeg (some v)) hd rfl (fun _ => rfl) (fun cs ss => ?_) ⟨rfl, rfl⟩ (zM.of rfl rfl rfl) (K _ rfl)
  have hin : ¬ (i < 0 ∨ zN κ a ≤ i.toNatClampNeg) := hin
  have hb := (zW_b W (a := a) (by omega)).1
  have ht2 : t = 4 ∨ t = 5 := by omega
  have hcl : zCell (uq κ a i.toNatClampNeg (some v)) a = .inl (t, zN κ a, .inr (.inr (.inr (.inr (va_up (zQ κ a) i.toNatClampNeg (some v)))))) := by
    have h1 : (if zT κ a = 0 then (yh C).2 a else some (zCell (uq κ a i.toNatClampNeg (some v)) a)) = _ := zH_q (C := C) (κ := uq κ a i.toNatClampNeg (some v)) hT ht2
    rw [if_neg (by omega)] at h1
    rw [Option.some.inj h1]
    show (Sum.inl (t, zN κ a, .inr (.inr (.inr (.inr (if a = a then _ else _))))) : dC) = _
    rw [if_pos rfl]
  have he : dupd (zH C κ) a (.inl (t, zN κ a, .inr (.inr (.inr (.inr (va_up (zQ κ a) i.toNatClampNeg (some v))))))) = zH C (uq κ a i.toNatClampNeg (some v)) := zH_ast rfl rfl rfl rfl rfl (by omega) hcl (fun b hb => ⟨rfl, rfl, if_neg hb⟩)
  have hob : dobj t = some ci := by rcases ht with ⟨rfl, rfl⟩ | ⟨rfl, rfl⟩ <;> rfl
  show dastQ (yb C) 1 (.ref v :: .int i :: .ref a :: st) (zH C κ) cs ss = _
  unfold dastQ
  simp only [zH_q hT ht2, zH_ob (ci := ci) (Or.inl hv) (by omega) (by omega)]
  simp [hin, hb, he, hob]
theorem y_alen {a t : Nat} (hd : decode r.2.1 pc = .ok (.arraylength, 1)) (hT : zT κ a = 20 + t) (ht : t < 6) (K : zG C n0 d r (pc + 1) L (.int (Int32.ofNat (zN κ a)) :: st) κ Q) : zG C n0 d r pc L (.ref a :: st) κ Q := by
  refine y_h0 hd rfl (fun _ => rfl) (fun cs ss => ?_) ⟨rfl, rfl⟩ zM.rf K
  have e : ∃ x, (zH C κ).2 a = some (.inl (t, zN κ a, x)) := by
    have hh : t = 0 ∨ t = 1 ∨ t = 2 ∨ t = 3 ∨ t = 4 ∨ t = 5 := by omega
    rcases hh with rfl | rfl | rfl | rfl | rfl | rfl
    · exact ⟨_, zH_i hT (by decide)⟩
    · exact ⟨_, zH_i hT (by decide)⟩
    · exact ⟨_, zH_j hT⟩
    · exact ⟨_, zH_i hT (by decide)⟩
    · exact ⟨_, zH_q hT (by decide)⟩
    · exact ⟨_, zH_q hT (by decide)⟩
  obtain ⟨x, e⟩ := e
  have h2 : (dty t).isSome = true := by
    have hh : t = 0 ∨ t = 1 ∨ t = 2 ∨ t = 3 ∨ t = 4 ∨ t = 5 := by omega
    rcases hh with rfl | rfl | rfl | rfl | rfl | rfl <;> rfl
  have h1 : dalen 1 (.ref a :: st) (zH C κ) cs ss = some (.int (Int32.ofNat (zN κ a)) :: st, zH C κ, cs, ss) := by
    unfold dalen
    simp only [e]
    simp [h2]
  show dor (dalen 1 (.ref a :: st) (zH C κ) cs ss) _ = _
  rw [h1]
  rfl
end SZ

end
section
/-! new cells, calls, ends; what stays in order -/
theorem zr_cls {f t : Nat} (h : zr f = some t) : 3 ≤ f / 100 ∧ f / 100 < 20 ∧ 3 ≤ t ∧ t < 40 := by
  have key : ∀ q ∈ zRT, 3 ≤ q.1 / 100 ∧ q.1 / 100 < 20 ∧ 3 ≤ q.2 ∧ q.2 < 40 := by decide +kernel
  exact key _ (d_lk h)
theorem zz_cls {f : Nat} (h : f ∈ zZT) : 3 ≤ f / 100 ∧ f / 100 < 20 := (by decide +kernel : ∀ f ∈ zZT, 3 ≤ f / 100 ∧ f / 100 < 20) f h
section WT
variable {C : zC} {n0 : Nat} {κ : zS}
theorem zW.lo {m0 : Nat} (W : zW C n0 κ) (h : yb C ≤ m0) (h1 : m0 ≤ zn κ) : zW C m0 κ := ⟨⟨W.1.1, h, h1⟩, W.2⟩
theorem zW.fr (W : zW C n0 κ) : zT κ (zn κ) = 0 := by
  by_cases e : zT κ (zn κ) = 0
  · exact e
  · have := (W.2.1 _ e).2; omega
theorem zW.nw {a c : Nat} (W : zW C n0 κ) (h : zT κ a = c + 1) : a ≠ zn κ := by
  intro e
  rw [e, W.fr] at h
  omega
theorem zW.r {f t a : Nat} (W : zW C n0 κ) (hr : zr f = some t) (h : zT κ a = f / 100) : zT κ (zR κ f a) = t := W.2.2.1 f t a hr h
theorem zW.o {f t a : Nat} (W : zW C n0 κ) (hr : zr f = some t) (ht : 20 ≤ t) (h : zT κ a = f / 100) : zO κ (zR κ f a) = (f, a) := W.2.2.2.2.2.2.2.2 f t a hr ht h
theorem zW.z {f a : Nat} (W : zW C n0 κ) (hr : f ∈ zZT) (h : zT κ a = f / 100) : nb (zI κ f a) := W.2.2.2.2.2.1 f a hr h
theorem zW_ui {f a : Nat} {x : Int32} {κ1 : zS} (W : zW C n0 κ) (e : κ1 = ui κ f a x) (hx : f ∈ zZT → nb x) : zW C n0 κ1 := by
  subst e
  obtain ⟨w1, w2, w3, w4, w5, w6, w7, w8, w9⟩ := W
  refine ⟨w1, w2, w3, w4, w5, fun g b hg hb => ?_, w7, w8, w9⟩
  show nb (if g = f ∧ b = a then x else zI κ g b)
  by_cases e : g = f ∧ b = a
  · rw [if_pos e]; exact hx (by rw [← e.1]; exact hg)
  · rw [if_neg e]; exact w6 g b hg hb
theorem zW_ur {f a v : Nat} {κ1 : zS} (W : zW C n0 κ) (e : κ1 = ur κ f a v) (hv : ∀ t, zr f = some t → t < 20 ∧ zT κ v = t) : zW C n0 κ1 := by
  subst e
  obtain ⟨w1, w2, w3, w4, w5, w6, w7, w8, w9⟩ := W
  refine ⟨w1, w2, fun g t b hg hb => ?_, w4, w5, w6, w7, w8, fun g t b hg ht hb => ?_⟩
  · show zT κ (if g = f ∧ b = a then v else zR κ g b) = t
    by_cases e : g = f ∧ b = a
    · rw [if_pos e]; rw [e.1] at hg; exact (hv t hg).2
    · rw [if_neg e]; exact w3 g t b hg hb
  · show zO κ (if g = f ∧ b = a then v else zR κ g b) = (g, b)
    by_cases e : g = f ∧ b = a
    · rw [e.1] at hg; have := (hv t hg).1; omega
    · rw [if_neg e]; exact w9 g t b hg ht hb
theorem zW_uo {f a v : Nat} {κ1 : zS} (W : zW C n0 κ) (e : κ1 = uo κ f a v) (hv : ∀ t, zr f = some t → zT κ v = t) (ho : zO κ v = (0, 0)) : zW C n0 κ1 := by
  subst e
  obtain ⟨w1, w2, w3, w4, w5, w6, w7, w8, w9⟩ := W
  refine ⟨w1, w2, fun g t b hg hb => ?_, w4, w5, w6, w7, w8, fun g t b hg ht hb => ?_⟩
  · show zT κ (if g = f ∧ b = a then v else zR κ g b) = t
    by_cases e : g = f ∧ b = a
    · rw [if_pos e]; rw [e.1] at hg; exact hv t hg
    · rw [if_neg e]; exact w3 g t b hg hb
  · show (if (if g = f ∧ b = a then v else zR κ g b) = v then (f, a) else zO κ (if g = f ∧ b = a then v else zR κ g b)) = (g, b)
    by_cases e : g = f ∧ b = a
    · rw [if_pos e, if_pos rfl, e.1, e.2]
    · rw [if_neg e]
      have h9 := w9 g t b hg ht hb
      by_cases e2 : zR κ g b = v
      · rw [e2, ho] at h9
        have := (zr_cls hg).1
        have e3 : g = 0 := (congrArg Prod.fst h9).symm
        rw [e3] at this
        omega
      · rw [if_neg e2]; exact h9
theorem nb_nr {x : Int32} : nb (vp_nar .boolean x) := by
  show nb (x &&& 1)
  have h : (x &&& 1).toBitVec.toNat = x.toBitVec.toNat % 2 := by
    show (x.toBitVec &&& 1#32).toNat = _
    rw [BitVec.toNat_and]
    exact Nat.and_one_is_mod _
  have h2 : x.toBitVec.toNat % 2 = 0 ∨ x.toBitVec.toNat % 2 = 1 := by omega
  rcases h2 with e | e
  · exact Or.inl (Int32.toBitVec_inj.mp (BitVec.eq_of_toNat_eq (by rw [h, e]; rfl)))
  · exact Or.inr (Int32.toBitVec_inj.mp (BitVec.eq_of_toNat_eq (by rw [h, e]; rfl)))
theorem by_nr {x : Int32} : fits .byte (.int (vp_nar .byte x)) = true := by
  show (decide (-128 ≤ x.toInt8.toInt32) && decide (x.toInt8.toInt32 ≤ 127)) = true
  have h1 := Int8.le_toInt x.toInt8
  have h2 := Int8.toInt_lt x.toInt8
  have e : x.toInt8.toInt32.toInt = x.toInt8.toInt := Int8.toInt_toInt32 _
  rw [Bool.and_eq_true]
  refine ⟨decide_eq_true (Int32.le_iff_toInt_le.mpr ?_), decide_eq_true (Int32.le_iff_toInt_le.mpr ?_)⟩
  · rw [e]; exact h1
  · rw [e]; have e2 : (127 : Int32).toInt = 127 := by decide
    rw [e2]; omega
theorem zW_ua {a i : Nat} {x : Int32} {κ1 : zS} (W : zW C n0 κ) (e : κ1 = ua κ a i x) (h3 : zT κ a = 23 → nb x) (h1 : zT κ a = 21 → fits .byte (.int x) = true) : zW C n0 κ1 := by
  subst e
  obtain ⟨w1, w2, w3, w4, w5, w6, w7, w8, w9⟩ := W
  refine ⟨w1, w2, w3, w4, w5, w6, fun b j hb => ?_, fun b j hb => ?_, w9⟩
  · show nb ((if b = a then upd (zA κ a) i x else zA κ b) j)
    by_cases e : b = a
    · rw [if_pos e]
      show nb (if j = i then x else zA κ a j)
      by_cases e2 : j = i
      · rw [if_pos e2]; exact h3 (by rw [← e]; exact hb)
      · rw [if_neg e2]; exact w7 a j (by rw [← e]; exact hb)
    · rw [if_neg e]; exact w7 b j hb
  · show fits .byte (.int ((if b = a then upd (zA κ a) i x else zA κ b) j)) = true
    by_cases e : b = a
    · rw [if_pos e]
      show fits .byte (.int (if j = i then x else zA κ a j)) = true
      by_cases e2 : j = i
      · rw [if_pos e2]; exact h1 (by rw [← e]; exact hb)
      · rw [if_neg e2]; exact w8 a j (by rw [← e]; exact hb)
    · rw [if_neg e]; exact w8 b j hb
theorem zW_uj {a i : Nat} {x : Int64} {κ1 : zS} (W : zW C n0 κ) (e : κ1 = uj κ a i x) : zW C n0 κ1 := by
  subst e; exact W
theorem zW_uq {a i v : Nat} {κ1 : zS} (W : zW C n0 κ) (e : κ1 = uq κ a i (some v)) (h4 : zT κ a = 24 → zT κ v = 8) (h5 : zT κ a = 25 → zT κ v = 11) : zW C n0 κ1 := by
  subst e
  obtain ⟨w1, w2, w3, w4, w5, w6, w7, w8, w9⟩ := W
  refine ⟨w1, w2, w3, fun b j q hb hq => ?_, fun b j q hb hq => ?_, w6, w7, w8, w9⟩
  · have hq : (if b = a then va_up (zQ κ a) i (some v) else zQ κ b) j = some q := hq
    by_cases e : b = a
    · rw [if_pos e] at hq
      have hq : (if j = i then some v else zQ κ a j) = some q := hq
      by_cases e2 : j = i
      · rw [if_pos e2] at hq; cases hq; exact h4 (by rw [← e]; exact hb)
      · rw [if_neg e2] at hq; exact w4 a j q (by rw [← e]; exact hb) hq
    · rw [if_neg e] at hq; exact w4 b j q hb hq
  · have hq : (if b = a then va_up (zQ κ a) i (some v) else zQ κ b) j = some q := hq
    by_cases e : b = a
    · rw [if_pos e] at hq
      have hq : (if j = i then some v else zQ κ a j) = some q := hq
      by_cases e2 : j = i
      · rw [if_pos e2] at hq; cases hq; exact h5 (by rw [← e]; exact hb)
      · rw [if_neg e2] at hq; exact w5 a j q (by rw [← e]; exact hb) hq
    · rw [if_neg e] at hq; exact w5 b j q hb hq
theorem zW_na {t n : Nat} {κ1 : zS} (W : zW C n0 κ) (e : κ1 = na κ t n) (h0 : 20 ≤ t) (h1 : t < 26) (hn : n ≤ 67108864) : zW C n0 κ1 := by
  subst e
  have hf := W.fr
  obtain ⟨w1, w2, w3, w4, w5, w6, w7, w8, w9⟩ := W
  have tt : ∀ a, a ≠ zn κ → zT (na κ t n) a = zT κ a := fun a h => if_neg h
  have tw : zT (na κ t n) (zn κ) = t := if_pos rfl
  have ne : ∀ a c, zT κ a = c → c ≠ 0 → a ≠ zn κ := fun a c h h0 e => by rw [e, hf] at h; omega
  have nn : ∀ a, zT (na κ t n) a < 20 → a ≠ zn κ := fun a h e => by rw [e, tw] at h; omega
  refine ⟨⟨w1.1, w1.2.1, Nat.le_succ_of_le w1.2.2⟩, fun a ha => ?_, fun g q b hg hb => ?_, fun b j q hb hq => ?_, fun b j q hb hq => ?_, fun g b hg hb => ?_, fun b j hb => ?_, fun b j hb => ?_, fun g q b hg hq hb => ?_⟩
  · show (yb C ≤ a ∧ (if a = zn κ then n else zN κ a) ≤ 67108864) ∧ a < zn κ + 1
    by_cases e : a = zn κ
    · rw [if_pos e, e]; exact ⟨⟨Nat.le_trans w1.2.1 w1.2.2, hn⟩, Nat.lt_succ_self _⟩
    · rw [tt a e] at ha; rw [if_neg e]; have := w2 a ha; exact ⟨this.1, Nat.lt_succ_of_lt this.2⟩
  · have z := zr_cls hg
    have hb2 := nn b (by rw [hb]; exact z.2.1)
    rw [tt b hb2] at hb
    have h3 := w3 g q b hg hb
    show zT (na κ t n) (zR κ g b) = q
    rw [tt _ (ne _ _ h3 (by omega))]; exact h3
  · have hq : (if b = zn κ then fun _ => none else zQ κ b) j = some q := hq
    by_cases e : b = zn κ
    · rw [if_pos e] at hq; cases hq
    · rw [if_neg e] at hq
      rw [tt b e] at hb
      have h3 := w4 b j q hb hq
      rw [tt _ (ne _ _ h3 (by omega))]; exact h3
  · have hq : (if b = zn κ then fun _ => none else zQ κ b) j = some q := hq
    by_cases e : b = zn κ
    · rw [if_pos e] at hq; cases hq
    · rw [if_neg e] at hq
      rw [tt b e] at hb
      have h3 := w5 b j q hb hq
      rw [tt _ (ne _ _ h3 (by omega))]; exact h3
  · have hb2 := nn b (by rw [hb]; exact (zz_cls hg).2)
    rw [tt b hb2] at hb
    exact w6 g b hg hb
  · show nb ((if b = zn κ then fun _ => 0 else zA κ b) j)
    by_cases e : b = zn κ
    · rw [if_pos e]; exact nb_0
    · rw [if_neg e]; rw [tt b e] at hb; exact w7 b j hb
  · show fits .byte (.int ((if b = zn κ then fun _ => 0 else zA κ b) j)) = true
    by_cases e : b = zn κ
    · rw [if_pos e]; rfl
    · rw [if_neg e]; rw [tt b e] at hb; exact w8 b j hb
  · have z := zr_cls hg
    have hb2 := nn b (by rw [hb]; exact z.2.1)
    rw [tt b hb2] at hb
    have h3 := w3 g q b hg hb
    show (if zR κ g b = zn κ then (0, 0) else zO κ (zR κ g b)) = (g, b)
    rw [if_neg (ne _ _ h3 (by omega))]
    exact w9 g q b hg hq hb
theorem zM_na {t n : Nat} {κ1 : zS} (W : zW C n0 κ) (e : κ1 = na κ t n) : zM n0 κ κ1 := by
  subst e
  have hf := W.fr
  have ne : ∀ a, zT κ a ≠ 0 → a ≠ zn κ := fun a h e => by rw [e, hf] at h; exact h rfl
  exact ⟨fun a c _ h => (if_neg (ne a (by omega))).trans h, fun a h => ⟨by show (if a = zn κ then t else zT κ a) ≠ 0; rw [if_neg (ne a h)]; exact h, if_neg (ne a h)⟩, Nat.le_succ _⟩
theorem zW_no {ci : Nat} {κ1 : zS} (W : zW C n0 κ) (e : κ1 = noo κ ci) : zW C n0 κ1 := by
  subst e
  have hf := W.fr
  obtain ⟨w1, w2, w3, w4, w5, w6, w7, w8, w9⟩ := W
  have tt : ∀ a, a ≠ zn κ → zT (noo κ ci) a = zT κ a := fun a h => if_neg h
  have tw : zT (noo κ ci) (zn κ) = 40 + ci := if_pos rfl
  have ne : ∀ a c, zT κ a = c → c ≠ 0 → a ≠ zn κ := fun a c h h0 e => by rw [e, hf] at h; omega
  have nn : ∀ a, zT (noo κ ci) a < 40 → a ≠ zn κ := fun a h e => by rw [e, tw] at h; omega
  refine ⟨⟨w1.1, w1.2.1, Nat.le_succ_of_le w1.2.2⟩, fun a ha => ?_, fun g q b hg hb => ?_, fun b j q hb hq => ?_, fun b j q hb hq => ?_, fun g b hg hb => ?_, fun b j hb => ?_, fun b j hb => ?_, fun g q b hg hq hb => ?_⟩
  · show (yb C ≤ a ∧ (if a = zn κ then 0 else zN κ a) ≤ 67108864) ∧ a < zn κ + 1
    by_cases e : a = zn κ
    · rw [if_pos e, e]; exact ⟨⟨Nat.le_trans w1.2.1 w1.2.2, Nat.zero_le _⟩, Nat.lt_succ_self _⟩
    · rw [tt a e] at ha; rw [if_neg e]; have := w2 a ha; exact ⟨this.1, Nat.lt_succ_of_lt this.2⟩
  · have z := zr_cls hg
    have hb2 := nn b (by rw [hb]; omega)
    rw [tt b hb2] at hb
    have h3 := w3 g q b hg hb
    show zT (noo κ ci) (if b = zn κ then 0 else zR κ g b) = q
    rw [if_neg hb2, tt _ (ne _ _ h3 (by omega))]; exact h3
  · rw [tt b (nn b (by omega))] at hb
    have h3 := w4 b j q hb hq
    rw [tt _ (ne _ _ h3 (by omega))]; exact h3
  · rw [tt b (nn b (by omega))] at hb
    have h3 := w5 b j q hb hq
    rw [tt _ (ne _ _ h3 (by omega))]; exact h3
  · have hb2 := nn b (by rw [hb]; have := (zz_cls hg).2; omega)
    rw [tt b hb2] at hb
    show nb (if b = zn κ then 0 else zI κ g b)
    rw [if_neg hb2]
    exact w6 g b hg hb
  · rw [tt b (nn b (by omega))] at hb; exact w7 b j hb
  · rw [tt b (nn b (by omega))] at hb; exact w8 b j hb
  · have z := zr_cls hg
    have hb2 := nn b (by rw [hb]; omega)
    rw [tt b hb2] at hb
    show zO κ (if b = zn κ then 0 else zR κ g b) = (g, b)
    rw [if_neg hb2]
    exact w9 g q b hg hq hb
theorem zM_no {ci : Nat} {κ1 : zS} (W : zW C n0 κ) (e : κ1 = noo κ ci) : zM n0 κ κ1 := by
  subst e
  have hf := W.fr
  have ne : ∀ a, zT κ a ≠ 0 → a ≠ zn κ := fun a h e => by rw [e, hf] at h; exact h rfl
  exact ⟨fun a c _ h => (if_neg (ne a (by omega))).trans h, fun a h => ⟨by show (if a = zn κ then _ else zT κ a) ≠ 0; rw [if_neg (ne a h)]; exact h, if_neg (ne a h)⟩, Nat.le_succ _⟩
/-- an object that is ready: its references and booleans are in order -/
def zOk (κ : zS) (w ci : Nat) : Prop := (∀ f t, zr f = some t → f / 100 = ci → zT κ (zR κ f w) = t ∧ (20 ≤ t → zO κ (zR κ f w) = (f, w))) ∧ ∀ f, f ∈ zZT → f / 100 = ci → nb (zI κ f w)
theorem zW_nf {w ci : Nat} {κ1 : zS} (W : zW C n0 κ) (e : κ1 = nff κ w) (h : zT κ w = 40 + ci) (h0 : 0 < ci) (h1 : ci < 20) (hk : zOk κ w ci) : zW C n0 κ1 := by
  subst e
  obtain ⟨w1, w2, w3, w4, w5, w6, w7, w8, w9⟩ := W
  have tt : ∀ a, a ≠ w → zT (nff κ w) a = zT κ a := fun a h => if_neg h
  have tw : zT (nff κ w) w = ci := (if_pos rfl).trans (by have h9 : κ.1 w = 40 + ci := h; omega)
  have ne : ∀ a c, zT κ a = c → c < 40 → a ≠ w := fun a c g g0 e => by rw [e, h] at g; omega
  refine ⟨w1, fun a ha => w2 a ?_, fun g q b hg hb => ?_, fun b j q hb hq => ?_, fun b j q hb hq => ?_, fun g b hg hb => ?_, fun b j hb => ?_, fun b j hb => ?_, fun g q b hg hq hb => ?_⟩
  · by_cases e : a = w
    · rw [e, h]; omega
    · rw [tt a e] at ha; exact ha
  · have z := zr_cls hg
    show zT (nff κ w) (zR κ g b) = q
    by_cases e : b = w
    · rw [e] at hb ⊢
      rw [tw] at hb
      have h3 := (hk.1 g q hg hb.symm).1
      rw [tt _ (ne _ _ h3 (by omega))]; exact h3
    · rw [tt b e] at hb
      have h3 := w3 g q b hg hb
      rw [tt _ (ne _ _ h3 (by omega))]; exact h3
  · have e : b ≠ w := fun e => by rw [e, tw] at hb; omega
    rw [tt b e] at hb
    have h3 := w4 b j q hb hq
    rw [tt _ (ne _ _ h3 (by omega))]; exact h3
  · have e : b ≠ w := fun e => by rw [e, tw] at hb; omega
    rw [tt b e] at hb
    have h3 := w5 b j q hb hq
    rw [tt _ (ne _ _ h3 (by omega))]; exact h3
  · show nb (zI κ g b)
    by_cases e : b = w
    · rw [e] at hb ⊢
      rw [tw] at hb
      exact hk.2 g hg hb.symm
    · rw [tt b e] at hb; exact w6 g b hg hb
  · have e : b ≠ w := fun e => by rw [e, tw] at hb; omega
    rw [tt b e] at hb; exact w7 b j hb
  · have e : b ≠ w := fun e => by rw [e, tw] at hb; omega
    rw [tt b e] at hb; exact w8 b j hb
  · show zO κ (zR κ g b) = (g, b)
    by_cases e : b = w
    · rw [e] at hb ⊢
      rw [tw] at hb
      exact (hk.1 g q hg hb.symm).2 hq
    · rw [tt b e] at hb; exact w9 g q b hg hq hb
theorem zH_nf {w ci : Nat} (h : zT κ w = 40 + ci) (h0 : 0 < ci) (h1 : ci < 20) : zH C (nff κ w) = zH C κ := by
  refine zH_eq rfl (fun a => ?_)
  show (if (if a = w then zT κ w - 40 else zT κ a) = 0 then _ else some (zCell (nff κ w) a)) = (if zT κ a = 0 then _ else some (zCell κ a))
  by_cases e : a = w
  · rw [e, if_pos rfl, if_neg (by omega), if_neg (by omega)]
    have hT : zT (nff κ w) w = ci := (if_pos rfl).trans (by have h9 : κ.1 w = 40 + ci := h; omega)
    unfold zCell
    rw [hT, if_neg (by omega), if_pos (by omega), if_pos (by omega), h]
    have e2 : 40 + ci - 40 = ci := by omega
    rw [e2]
    rfl
  · rw [if_neg e, zCell_eq (κ' := nff κ w) (if_neg e) rfl (fun _ => rfl) rfl rfl rfl]
theorem zW_ut {κ1 : zS} (W : zW C n0 κ) (e : κ1 = ut κ) : zW C n0 κ1 := by
  subst e; exact W
end WT
section SC
variable {C : zC} {n0 d : Nat} {r : dM} {pc : Nat} {L : List (Option Value)} {st : List Value} {κ : zS} {Q : zU → zS → Prop}
/-- a length that a row may have -/
def nsz (n : Int32) : Prop := 0 ≤ n ∧ n.toNatClampNeg ≤ 67108864
theorem nsz_n {n : Int32} (h : nsz n) : ¬ n < 0 := by have := h.1; grind
theorem y_newa {at0 : ArrayType} {t : Nat} {n : Int32} (W : zW C n0 κ) (hd : decode r.2.1 pc = .ok (.newarray at0, 2)) (ht : (at0 = .int ∧ t = 0) ∨ (at0 = .byte ∧ t = 1) ∨ (at0 = .long ∧ t = 2) ∨ (at0 = .boolean ∧ t = 3)) (hn : nsz n) (K : ∀ κ1, κ1 = na κ (20 + t) n.toNatClampNeg → zG C n0 d r (pc + 2) L (.ref (zn κ) :: st) κ1 Q) : zG C n0 d r pc L (.int n :: st) κ Q := by
  refine y_h (κ1 := na κ (20 + t) n.toNatClampNeg) (x := 1) (y := n.toNatClampNeg) hd (dx_no hd rfl) (fun _ => rfl) (fun cs ss => ?_) ⟨rfl, rfl⟩ (zM_na W rfl) (K _ rfl)
  have tw : zT (na κ (20 + t) n.toNatClampNeg) (zn κ) = 20 + t := if_pos rfl
  have nw : zN (na κ (20 + t) n.toNatClampNeg) (zn κ) = n.toNatClampNeg := if_pos rfl
  have aw : zA (na κ (20 + t) n.toNatClampNeg) (zn κ) = fun _ => 0 := if_pos rfl
  have jw : zJ (na κ (20 + t) n.toNatClampNeg) (zn κ) = fun _ => 0 := if_pos rfl
  have ho : ∀ b, b ≠ zn κ → zT (na κ (20 + t) n.toNatClampNeg) b = zT κ b ∧ zCell (na κ (20 + t) n.toNatClampNeg) b = zCell κ b := fun b hb => ⟨if_neg hb, zCell_eq (if_neg hb) (if_neg hb) (fun _ => rfl) (if_neg hb) (if_neg hb) (if_neg hb)⟩
  have hh1 := nsz_n hn
  have hh2 := hn.2
  have key : ∀ z0, dnty at0 = some (t, z0) → zCell (na κ (20 + t) n.toNatClampNeg) (zn κ) = .inl (t, n.toNatClampNeg, z0) → n.toNatClampNeg * componentBytes (newarray.typeOf at0) ≤ 536870912 → dnewa 2 at0 (.int n :: st) (zH C κ) cs ss = some (.ref (zn κ) :: st, zH C (na κ (20 + t) n.toNatClampNeg), cs + 1, ss + n.toNatClampNeg) := by
    intro z0 e1 e2 e3
    have hh : (zH C κ).1 = some (zn κ) := rfl
    unfold dnewa
    simp only [e1, hh]
    rw [if_pos ⟨trivial, hh1, e3⟩, zH_new rfl (by rw [tw]; omega) e2 ho]
  show dnewa 2 at0 (.int n :: st) (zH C κ) cs ss = _
  have cl : zCell (na κ (20 + t) n.toNatClampNeg) (zn κ) = zRow (na κ (20 + t) n.toNatClampNeg) (zn κ) := by
    unfold zCell
    rw [if_neg (by rw [tw]; omega), if_neg (by rw [tw]; omega)]
  rcases ht with ⟨rfl, rfl⟩ | ⟨rfl, rfl⟩ | ⟨rfl, rfl⟩ | ⟨rfl, rfl⟩
  · refine key _ rfl ?_ (by show _ * 4 ≤ _; omega)
    rw [cl]; unfold zRow; rw [tw, nw, aw]; rfl
  · refine key _ rfl ?_ (by show _ * 1 ≤ _; omega)
    rw [cl]; unfold zRow; rw [tw, nw, aw]; rfl
  · refine key _ rfl ?_ (by show _ * 8 ≤ _; omega)
    rw [cl]; unfold zRow; rw [tw, nw, jw]; rfl
  · refine key _ rfl ?_ (by show _ * 1 ≤ _; omega)
    rw [cl]; unfold zRow; rw [tw, nw, aw]; rfl
theorem y_newq {o idx t : Nat} {n : Int32} (W : zW C n0 κ) (hd : decode r.2.1 pc = .ok (.anewarray idx, 3)) (ho : r.2.2.2.2.2.1 = o) (hf : (tAN o).lookup idx = some t) (ht : t = 4 ∨ t = 5) (hn : nsz n) (K : ∀ κ1, κ1 = na κ (20 + t) n.toNatClampNeg → zG C n0 d r (pc + 3) L (.ref (zn κ) :: st) κ1 Q) : zG C n0 d r pc L (.int n :: st) κ Q := by
  refine y_h (κ1 := na κ (20 + t) n.toNatClampNeg) (x := 1) (y := n.toNatClampNeg) hd (dx_no hd rfl) (fun _ => rfl) (fun cs ss => ?_) ⟨rfl, rfl⟩ (zM_na W rfl) (K _ rfl)
  have tw : zT (na κ (20 + t) n.toNatClampNeg) (zn κ) = 20 + t := if_pos rfl
  have nw : zN (na κ (20 + t) n.toNatClampNeg) (zn κ) = n.toNatClampNeg := if_pos rfl
  have qw : zQ (na κ (20 + t) n.toNatClampNeg) (zn κ) = fun _ => none := if_pos rfl
  have hb : ∀ b, b ≠ zn κ → zT (na κ (20 + t) n.toNatClampNeg) b = zT κ b ∧ zCell (na κ (20 + t) n.toNatClampNeg) b = zCell κ b := fun b hb => ⟨if_neg hb, zCell_eq (if_neg hb) (if_neg hb) (fun _ => rfl) (if_neg hb) (if_neg hb) (if_neg hb)⟩
  have hh1 := nsz_n hn
  have hh2 := hn.2
  have hh : (zH C κ).1 = some (zn κ) := rfl
  have hf' : eAN (yEn C) o idx = some t := hf
  have cl : zCell (na κ (20 + t) n.toNatClampNeg) (zn κ) = .inl (t, n.toNatClampNeg, .inr (.inr (.inr (.inr fun _ => none)))) := by
    unfold zCell
    rw [if_neg (by rw [tw]; omega), if_neg (by rw [tw]; omega)]
    unfold zRow
    rw [tw, nw, qw, if_neg (by omega), if_pos (by omega)]
    have e : 20 + t - 20 = t := by omega
    rw [e]
  show dnewq (yEn C) r.2.2.2.2.2.1 3 idx (.int n :: st) (zH C κ) cs ss = _
  unfold dnewq
  simp only [ho, hf', hh]
  rw [if_pos ⟨trivial, hh1, by omega⟩, zH_new rfl (by rw [tw]; omega) cl hb]
theorem zr_nY : ∀ ci, ci ∈ [3, 4, 5, 6, 7, 8, 9, 10, 11, 12, 13, 14, 15] → (List.range (nN ci)).map (fun k => defaultValue (nY ci k)) = (List.range (nN ci)).map fun k => if (zr (100 * ci + k)).isSome then Value.null else Value.int 0 := by
  intro ci h
  simp only [List.mem_cons, List.not_mem_nil, or_false] at h
  rcases h with rfl | rfl | rfl | rfl | rfl | rfl | rfl | rfl | rfl | rfl | rfl | rfl | rfl <;> rfl
theorem y_newo {o idx ci : Nat} (W : zW C n0 κ) (hd : decode r.2.1 pc = .ok (.new idx, 3)) (ho : r.2.2.2.2.2.1 = o) (hf : (tNW o).lookup idx = some ci) (hx : (tX1 o).lookup idx = none) (hci : ci ∈ [3, 4, 5, 6, 7, 8, 9, 10, 11, 12, 13, 14, 15]) (K : ∀ κ1, κ1 = noo κ ci → zG C n0 d r (pc + 3) L (.ref (zn κ) :: st) κ1 Q) : zG C n0 d r pc L st κ Q := by
  have c1 : 0 < ci ∧ ci < 20 ∧ ci ∈ osC := by
    have key : ∀ c ∈ [3, 4, 5, 6, 7, 8, 9, 10, 11, 12, 13, 14, 15], 0 < c ∧ c < 20 ∧ c ∈ osC := by decide
    exact key ci hci
  refine y_h (κ1 := noo κ ci) (x := 1) (y := nN ci) hd (dxat_no hd (fun ik e => by cases e; rw [ho]; exact hx)) (fun _ => rfl) (fun cs ss => ?_) ⟨rfl, rfl⟩ (zM_no W rfl) (K _ rfl)
  have tw : zT (noo κ ci) (zn κ) = 40 + ci := if_pos rfl
  have hb : ∀ b, b ≠ zn κ → zT (noo κ ci) b = zT κ b ∧ zCell (noo κ ci) b = zCell κ b := fun b hb => ⟨if_neg hb, zCell_eq (if_neg hb) (if_neg hb) (fun g => by
    unfold zV
    show (match zr g with | some _ => if (if b = zn κ then 0 else zR κ g b) = 0 then Value.null else Value.ref (if b = zn κ then 0 else zR κ g b) | none => Value.int (if b = zn κ then 0 else zI κ g b)) = _
    rw [if_neg hb, if_neg hb]
    cases zr g <;> rfl) rfl rfl rfl⟩
  have hfs : zFs (noo κ ci) (zn κ) ci = (List.range (nN ci)).map fun k => if (zr (100 * ci + k)).isSome then Value.null else Value.int 0 := by
    unfold zFs
    refine List.map_congr_left (fun k _ => ?_)
    unfold zV
    show (match zr (100 * ci + k) with | some _ => if (if zn κ = zn κ then 0 else zR κ (100 * ci + k) (zn κ)) = 0 then Value.null else Value.ref (if zn κ = zn κ then 0 else zR κ (100 * ci + k) (zn κ)) | none => Value.int (if zn κ = zn κ then 0 else zI κ (100 * ci + k) (zn κ))) = _
    cases zr (100 * ci + k) with
    | none => show Value.int (if zn κ = zn κ then 0 else _) = _; rw [if_pos rfl]; rfl
    | some q => show (if (if zn κ = zn κ then 0 else _) = 0 then Value.null else _) = _; rw [if_pos rfl]; rfl
  have cl : zCell (noo κ ci) (zn κ) = .inr (ci, (List.range (nN ci)).map (fun k => defaultValue (nY ci k))) := by
    unfold zCell
    rw [if_pos (by rw [tw]; omega), tw]
    have e : 40 + ci - 40 = ci := by omega
    rw [e, hfs, zr_nY ci hci]
  have hh : (zH C κ).1 = some (zn κ) := rfl
  have hf' : eNW (yEn C) o idx = some ci := hf
  have hnd : eND (yEn C) ci = some ((List.range (nN ci)).map (fun k => defaultValue (nY ci k))) := by
    show tND ci = _
    unfold tND
    rw [if_pos c1.2.2]
  show dnewo (yEn C) r.2.2.2.2.2.1 3 idx st (zH C κ) cs ss = _
  unfold dnewo
  simp only [ho, hf', hnd, hh]
  rw [if_pos trivial, zH_new rfl (by rw [tw]; omega) cl hb]
  simp
theorem y_flip {w ci : Nat} (h : zT κ w = 40 + ci) (hci : 0 < ci ∧ ci < 20) (hw : n0 ≤ w) (K : ∀ κ1, κ1 = nff κ w → zG C n0 d r pc L st κ1 Q) : zG C n0 d r pc L st κ Q := by
  intro lo cs ss hl
  obtain ⟨o, κ', x9, y9, h1, h2, h3, h4, h5, h6⟩ := K _ rfl lo cs ss hl
  rw [zH_nf h hci.1 hci.2] at h1
  refine ⟨o, κ', x9, y9, h1, h2, h3, h4, ⟨fun a c hc e => ?_, fun a e => ?_, h5.2.2⟩, h6⟩
  · have ne : a ≠ w := fun z => by rw [z, h] at e; omega
    exact h5.1 a c hc ((if_neg ne).trans e)
  · refine h5.2.1 a ?_
    show (if a = w then zT κ w - 40 else zT κ a) ≠ 0
    by_cases z : a = w
    · rw [if_pos z, h]; omega
    · rw [if_neg z]; exact e
theorem y_ldc {o idx : Nat} {x : Int32} (hd : decode r.2.1 pc = .ok (.ldc idx, 2)) (ho : r.2.2.2.2.2.1 = o) (hf : (tCN o).lookup idx = some x) (K : zG C n0 d r (pc + 2) L (.int x :: st) κ Q) : zG C n0 d r pc L st κ Q := by
  refine y_h0 hd rfl (fun _ => rfl) (fun cs ss => ?_) ⟨rfl, rfl⟩ zM.rf K
  show (match dldc 2 2 ((eCN (yEn C) r.2.2.2.2.2.1 idx).map Value.int) st (zH C κ) cs ss with | some g => some g | none => _) = _
  have hf' : eCN (yEn C) o idx = some x := hf
  rw [ho, hf']; rfl
theorem y_ldcw {o idx : Nat} {x : Int32} (hd : decode r.2.1 pc = .ok (.ldc_w idx, 3)) (ho : r.2.2.2.2.2.1 = o) (hf : (tCN o).lookup idx = some x) (K : zG C n0 d r (pc + 3) L (.int x :: st) κ Q) : zG C n0 d r pc L st κ Q := by
  refine y_h0 hd rfl (fun _ => rfl) (fun cs ss => ?_) ⟨rfl, rfl⟩ zM.rf K
  show dldc 3 3 ((eCN (yEn C) r.2.2.2.2.2.1 idx).map Value.int) st (zH C κ) cs ss = _
  have hf' : eCN (yEn C) o idx = some x := hf
  rw [ho, hf']; rfl
theorem y_ldcl {o idx : Nat} {x : Int64} (hd : decode r.2.1 pc = .ok (.ldc2_w idx, 3)) (ho : r.2.2.2.2.2.1 = o) (hf : (tCL o).lookup idx = some x) (K : zG C n0 d r (pc + 3) L (.long x :: st) κ Q) : zG C n0 d r pc L st κ Q := by
  refine y_h0 hd rfl (fun _ => rfl) (fun cs ss => ?_) ⟨rfl, rfl⟩ zM.rf K
  show dldc 3 3 ((eCL (yEn C) r.2.2.2.2.2.1 idx).map Value.long) st (zH C κ) cs ss = _
  have hf' : eCL (yEn C) o idx = some x := hf
  rw [ho, hf']; rfl
/-- a text -/
theorem y_ldcs {o idx k : Nat} (hd : decode r.2.1 pc = .ok (.ldc idx, 2)) (ho : r.2.2.2.2.2.1 = o) (hf0 : (tCN o).lookup idx = none) (hf : (tSR o).lookup idx = some k) (K : zG C n0 d r (pc + 2) L (.ref (C.1 k) :: st) κ Q) : zG C n0 d r pc L st κ Q := by
  refine y_h0 hd rfl (fun _ => rfl) (fun cs ss => ?_) ⟨rfl, rfl⟩ zM.rf K
  show (match dldc 2 2 ((eCN (yEn C) r.2.2.2.2.2.1 idx).map Value.int) st (zH C κ) cs ss with | some g => some g | none => dldc 2 2 ((eSR (yEn C) r.2.2.2.2.2.1 idx).map Value.ref) st (zH C κ) cs ss) = _
  have hf1 : eCN (yEn C) o idx = none := hf0
  have hf2 : eSR (yEn C) o idx = some (C.1 k) := by show ((tSR o).lookup idx).map C.1 = _; rw [hf]; rfl
  rw [ho, hf1, hf2]; rfl
end SC

end
section
/-! calls and ends -/
theorem gg_up {E : dE} {X : dX} (hX : xApart E X) {b d d' : Nat} {r : dM} {pc : Nat} {lo : dL0} {st : List Value} {h : dH} {cs ss : Nat} {z : dW} (hle : d ≤ d') (hh : dGG E X b d r pc lo st h cs ss z) : dGG E X b d' r pc lo st h cs ss z := by
  cases z with
  | inl z => exact go_up hle hh
  | inr z => exact gox_up hX hle hh
section SK
variable {C : zC} {n0 d : Nat} {r : dM} {pc : Nat} {L : List (Option Value)} {st : List Value} {κ : zS} {Q : zU → zS → Prop}
theorem yap (C : zC) : xApart (yEn C) dXX := dXX_apart _ _
/-- a call, however it is made -/
theorem y_any {i : Instr} {d0 : Nat} {y : dV} {P : zU → zS → Prop} (W : zW C n0 κ) (hd : decode r.2.1 pc = .ok (i, 3)) (hi : iNew i = false) (hp : ∀ lo, dpure i 3 pc r.2.2.1 lo st = none) (hh : ∀ cs ss, dheap (yEn C) (yb C) (d + 1) r i 3 st (zH C κ) cs ss = none) (hy : dinv (yEn C) r.2.2.2.2.2.1 i 3 st (zH C κ) = some y) (h0 : d0 ≤ d) (hR : zRun C d0 y.1 y.2.1 κ P) (K : ∀ v κ', zW C n0 κ' → zM (zn κ) κ κ' → P (.inl v) κ' → zG C n0 (d + 1) r (pc + 3) L (v.toList ++ y.2.2) κ' Q) (KX : ∀ cls κ', P (.inr cls) κ' → (∃ idx, i = .invokevirtual idx) ∧ Q (.inr cls) κ') : zG C n0 (d + 1) r pc L st κ Q := by
  intro lo cs ss hl
  obtain ⟨o, κ', x, y9, h1, h2, h3, h4, h5, h6⟩ := hR
  have hb : zn κ ≤ zn κ' := h5.2.2
  have W' : zW C n0 κ' := h4.lo W.1.2.1 (Nat.le_trans W.1.2.2 hb)
  have M' : zM n0 κ κ' := ⟨fun a c hc e => h5.1 a c (Or.inl (W.2.1 a (by omega)).2) e, h5.2⟩
  have h1 := gg_up (yap C) h0 h1
  cases o with
  | inl v =>
    obtain ⟨o2, κ2, x2, y2, g1, g2, g3, g4, g5, g6⟩ := K v κ' W' h5 h6 lo (cs + x) (ss + y9) hl
    refine ⟨o2, κ2, x + x2, y9 + y2, ?_, by omega, by omega, g4, M'.tr g5, g6⟩
    rw [show cs + (x + x2) = cs + x + x2 from by omega, show ss + (y9 + y2) = ss + y9 + y2 from by omega]
    exact gg_call (yap C) (w := (v, zH C κ', x, y9)) (dx_no hd hi) hd (hp lo) (hh cs ss) hy h1 g1
  | inr cls =>
    obtain ⟨⟨idx, e⟩, hq⟩ := KX cls κ' h6
    subst e
    exact ⟨.inr cls, κ', x, y9, gg_callx (yap C) (w := (cls, (none, (zH C κ').2), x, y9)) (dx_no hd hi) hd (hh cs ss) hy h1, h2, h3, W', M', hq⟩
theorem y_call {o idx j d0 b : Nat} {r' : dM} {As rest : List Value} {P : zU → zS → Prop} (W : zW C n0 κ) (hd : decode r.2.1 pc = .ok (.invokevirtual idx, 3)) (ho : r.2.2.2.2.2.1 = o) (hm : (tML o ++ tMX o).lookup idx = some j) (hj : MTs[j]? = some r') (hq : r'.2.2.2.2.1 = false ∧ r'.1.name ≠ "<init>" ∧ 0 < r'.2.2.2.2.2.1 ∧ r'.2.2.2.2.2.1 < 20) (hn : As.length = r'.2.2.2.2.2.2) (hl : (lg_sl (.ref b :: As)).length ≤ r'.2.2.1) (h0 : d0 ≤ d) (hc : (rest.map fun v => v.category).sum ≤ 8) (hB : zBo κ b r'.2.2.2.2.2.1) (hR : zRun C d0 r' (.ref b :: As) κ P) (K : ∀ v κ', zW C n0 κ' → zM (zn κ) κ κ' → P (.inl v) κ' → zG C n0 (d + 1) r (pc + 3) L (v.toList ++ rest) κ' Q) (KX : ∀ cls κ', P (.inr cls) κ' → Q (.inr cls) κ') : zG C n0 (d + 1) r pc L (As.reverse ++ .ref b :: rest) κ Q := by
  have hdr : (As.reverse ++ Value.ref b :: rest).drop r'.2.2.2.2.2.2 = .ref b :: rest := by rw [← hn, ← List.length_reverse]; simp
  have htk : (As.reverse ++ Value.ref b :: rest).take r'.2.2.2.2.2.2 = As.reverse := by rw [← hn, ← List.length_reverse]; simp
  have hy : dinv (yEn C) r.2.2.2.2.2.1 (.invokevirtual idx) 3 (As.reverse ++ .ref b :: rest) (zH C κ) = some (r', .ref b :: As, rest) := by
    show dinvV (yEn C) r.2.2.2.2.2.1 3 idx _ _ = _
    have hm' : eML (yEn C) o idx = some j := hm
    have hj' : eMT (yEn C) j = some r' := hj
    unfold dinvV
    simp only [ho, hm', hj', hdr, htk, List.reverse_reverse]
    rw [if_pos ⟨trivial, hq.1, hq.2.1, by unfold drec; rw [zH_ob hB hq.2.2.1 hq.2.2.2]; simp, hc, hl⟩]
  exact y_any W hd rfl (fun _ => rfl) (fun _ _ => rfl) hy h0 hR K (fun cls κ' h => ⟨⟨idx, rfl⟩, KX cls κ' h⟩)
theorem y_cals {o idx j d0 : Nat} {r' : dM} {As rest : List Value} {P : zU → zS → Prop} (W : zW C n0 κ) (hd : decode r.2.1 pc = .ok (.invokestatic idx, 3)) (ho : r.2.2.2.2.2.1 = o) (hm : (tML o ++ tMX o).lookup idx = some j) (hbi : (tBI o).lookup idx = none) (hj : MTs[j]? = some r') (hq : r'.2.2.2.2.1 = true) (hn : As.length = r'.2.2.2.2.2.2) (hl : (lg_sl As).length ≤ r'.2.2.1) (h0 : d0 ≤ d) (hc : (rest.map fun v => v.category).sum ≤ 8) (hR : zRun C d0 r' As κ P) (K : ∀ v κ', zW C n0 κ' → zM (zn κ) κ κ' → P (.inl v) κ' → zG C n0 (d + 1) r (pc + 3) L (v.toList ++ rest) κ' Q) (KX : ∀ cls κ', ¬ P (.inr cls) κ') : zG C n0 (d + 1) r pc L (As.reverse ++ rest) κ Q := by
  have hdr : (As.reverse ++ rest).drop r'.2.2.2.2.2.2 = rest := by rw [← hn, ← List.length_reverse]; simp
  have htk : (As.reverse ++ rest).take r'.2.2.2.2.2.2 = As.reverse := by rw [← hn, ← List.length_reverse]; simp
  have hle : r'.2.2.2.2.2.2 ≤ (As.reverse ++ rest).length := by rw [← hn]; simp
  have hy : dinv (yEn C) r.2.2.2.2.2.1 (.invokestatic idx) 3 (As.reverse ++ rest) (zH C κ) = some (r', As, rest) := by
    show dinvS (yEn C) r.2.2.2.2.2.1 3 idx _ = _
    have hm' : eML (yEn C) o idx = some j := hm
    have hj' : eMT (yEn C) j = some r' := hj
    unfold dinvS
    simp only [ho, hm', hj', hdr, htk, List.reverse_reverse]
    rw [if_pos ⟨trivial, hq, hle, hc, hl⟩]
  refine y_any W hd rfl (fun _ => rfl) (fun cs ss => ?_) hy h0 hR K (fun cls κ' h => absurd h (KX cls κ'))
  show dbi (yEn C) (yb C) (d + 1) r.2.2.2.2.2.1 3 idx (As.reverse ++ rest) (zH C κ) cs ss = none
  have hb' : eBI (yEn C) o idx = none := hbi
  unfold dbi
  rw [ho, hb']
theorem y_calc {o idx j d0 b : Nat} {r' : dM} {As rest : List Value} {P : zU → zS → Prop} (W : zW C n0 κ) (hd : decode r.2.1 pc = .ok (.invokespecial idx, 3)) (ho : r.2.2.2.2.2.1 = o) (hm : (tML o ++ tMX o).lookup idx = some j) (hbi : (tBI o).lookup idx = none) (hj : MTs[j]? = some r') (hq : r'.2.2.2.2.1 = false ∧ r'.1.name = "<init>" ∧ r'.2.2.2.1.isNone = true) (hn : As.length = r'.2.2.2.2.2.2) (hl : (lg_sl (.ref b :: As)).length ≤ r'.2.2.1) (h0 : d0 ≤ d) (hc : (rest.map fun v => v.category).sum ≤ 8) (hR : zRun C d0 r' (.ref b :: As) κ P) (K : ∀ v κ', zW C n0 κ' → zM (zn κ) κ κ' → P (.inl v) κ' → zG C n0 (d + 1) r (pc + 3) L (v.toList ++ rest) κ' Q) (KX : ∀ cls κ', ¬ P (.inr cls) κ') : zG C n0 (d + 1) r pc L (As.reverse ++ .ref b :: rest) κ Q := by
  have hdr : (As.reverse ++ Value.ref b :: rest).drop r'.2.2.2.2.2.2 = .ref b :: rest := by rw [← hn, ← List.length_reverse]; simp
  have htk : (As.reverse ++ Value.ref b :: rest).take r'.2.2.2.2.2.2 = As.reverse := by rw [← hn, ← List.length_reverse]; simp
  have hy : dinv (yEn C) r.2.2.2.2.2.1 (.invokespecial idx) 3 (As.reverse ++ .ref b :: rest) (zH C κ) = some (r', .ref b :: As, rest) := by
    show dinvI (yEn C) r.2.2.2.2.2.1 3 idx _ = _
    have hm' : eML (yEn C) o idx = some j := hm
    have hj' : eMT (yEn C) j = some r' := hj
    unfold dinvI
    simp only [ho, hm', hj', hdr, htk, List.reverse_reverse]
    rw [if_pos ⟨trivial, hq.1, hq.2.1, hq.2.2, hc, hl⟩]
  refine y_any W hd rfl (fun _ => rfl) (fun cs ss => ?_) hy h0 hR K (fun cls κ' h => absurd h (KX cls κ'))
  show doi (yEn C) (d + 1) r.2.2.2.2.2.1 3 idx (As.reverse ++ .ref b :: rest) (zH C κ) cs ss = none
  have hb' : eBI (yEn C) o idx = none := hbi
  unfold doi
  rw [ho, hb']
  rfl
/-- a text -/
theorem y_calt {o idx j d0 b : Nat} {r' : dM} {As rest : List Value} {P : zU → zS → Prop} (W : zW C n0 κ) (hd : decode r.2.1 pc = .ok (.invokevirtual idx, 3)) (ho : r.2.2.2.2.2.1 = o) (hm : (tML o ++ tMX o).lookup idx = some j) (hj : MTs[j]? = some r') (hq : r'.2.2.2.2.1 = false ∧ r'.1.name ≠ "<init>" ∧ r'.2.2.2.2.2.1 = 0) (hn : As.length = r'.2.2.2.2.2.2) (hl : (lg_sl (.ref b :: As)).length ≤ r'.2.2.1) (h0 : d0 ≤ d) (hc : (rest.map fun v => v.category).sum ≤ 8) (hB : isTx C b) (hR : zRun C d0 r' (.ref b :: As) κ P) (K : ∀ v κ', zW C n0 κ' → zM (zn κ) κ κ' → P (.inl v) κ' → zG C n0 (d + 1) r (pc + 3) L (v.toList ++ rest) κ' Q) (KX : ∀ cls κ', P (.inr cls) κ' → Q (.inr cls) κ') : zG C n0 (d + 1) r pc L (As.reverse ++ .ref b :: rest) κ Q := by
  have hdr : (As.reverse ++ Value.ref b :: rest).drop r'.2.2.2.2.2.2 = .ref b :: rest := by rw [← hn, ← List.length_reverse]; simp
  have htk : (As.reverse ++ Value.ref b :: rest).take r'.2.2.2.2.2.2 = As.reverse := by rw [← hn, ← List.length_reverse]; simp
  have hz : (zH C κ).2 b = none := by
    show (if zT κ b = 0 then _ else _) = _
    by_cases e : zT κ b = 0
    · rw [if_pos e]; exact hB.2.2
    · have := (W.2.1 b e).1.1; have := hB.2.1.1; omega
  have hy : dinv (yEn C) r.2.2.2.2.2.1 (.invokevirtual idx) 3 (As.reverse ++ .ref b :: rest) (zH C κ) = some (r', .ref b :: As, rest) := by
    show dinvV (yEn C) r.2.2.2.2.2.1 3 idx _ _ = _
    have hm' : eML (yEn C) o idx = some j := hm
    have hj' : eMT (yEn C) j = some r' := hj
    have htx : ((eTL (yEn C)).find? (fun x => x.1 == b)).isSome = true := hB.1
    unfold dinvV
    simp only [ho, hm', hj', hdr, htk, List.reverse_reverse]
    rw [if_pos ⟨trivial, hq.1, hq.2.1, by unfold drec; rw [hz, hq.2.2]; simp [htx], hc, hl⟩]
  exact y_any W hd rfl (fun _ => rfl) (fun _ _ => rfl) hy h0 hR K (fun cls κ' h => ⟨⟨idx, rfl⟩, KX cls κ' h⟩)
/-- what is built in -/
theorem y_oinit {o idx a : Nat} (hd : decode r.2.1 pc = .ok (.invokespecial idx, 3)) (ho : r.2.2.2.2.2.1 = o) (hf : (tBI o).lookup idx = some 0) (hd1 : 1 ≤ d) (hc : (st.map fun v => v.category).sum ≤ 8) (K : zG C n0 d r (pc + 3) L st κ Q) : zG C n0 d r pc L (.ref a :: st) κ Q := by
  refine y_h0 hd rfl (fun _ => rfl) (fun cs ss => ?_) ⟨rfl, rfl⟩ zM.rf K
  show doi (yEn C) d r.2.2.2.2.2.1 3 idx (.ref a :: st) (zH C κ) cs ss = _
  have hb' : eBI (yEn C) o idx = some 0 := hf
  unfold doi
  rw [ho, if_pos hb']
  unfold doi0
  simp [hd1, hc]
theorem y_bi {o idx q : Nat} {st0 st' : List Value} {κ1 : zS} (hd : decode r.2.1 pc = .ok (.invokestatic idx, 3)) (ho : r.2.2.2.2.2.1 = o) (hf : (tBI o).lookup idx = some q) (hg : ∀ cs ss, dbi (yEn C) (yb C) d o 3 idx st0 (zH C κ) cs ss = some (st', zH C κ1, cs, ss)) (hc : zc κ1 = zc κ ∧ zs κ1 = zs κ) (hM : zM n0 κ κ1) (K : zG C n0 d r (pc + 3) L st' κ1 Q) : zG C n0 d r pc L st0 κ Q := by
  refine y_h0 hd rfl (fun _ => rfl) (fun cs ss => ?_) hc hM K
  show dbi (yEn C) (yb C) d r.2.2.2.2.2.1 3 idx st0 (zH C κ) cs ss = _
  rw [ho]; exact hg cs ss
theorem y_min {o idx : Nat} {x y : Int32} (hd : decode r.2.1 pc = .ok (.invokestatic idx, 3)) (ho : r.2.2.2.2.2.1 = o) (hf : (tBI o).lookup idx = some 1) (hd1 : 1 ≤ d) (hc : (st.map fun v => v.category).sum ≤ 8) (K : zG C n0 d r (pc + 3) L (.int (if y < x then y else x) :: st) κ Q) : zG C n0 d r pc L (.int y :: .int x :: st) κ Q := by
  refine y_bi hd ho hf (fun cs ss => ?_) ⟨rfl, rfl⟩ zM.rf K
  have hb' : eBI (yEn C) o idx = some 1 := hf
  unfold dbi
  rw [hb']
  show dmin 3 d (.int y :: .int x :: st) (zH C κ) cs ss = _
  unfold dmin
  simp [hd1, hc]
theorem y_max {o idx : Nat} {x y : Int32} (hd : decode r.2.1 pc = .ok (.invokestatic idx, 3)) (ho : r.2.2.2.2.2.1 = o) (hf : (tBI o).lookup idx = some 2) (hd1 : 1 ≤ d) (hc : (st.map fun v => v.category).sum ≤ 8) (K : zG C n0 d r (pc + 3) L (.int (if x < y then y else x) :: st) κ Q) : zG C n0 d r pc L (.int y :: .int x :: st) κ Q := by
  refine y_bi hd ho hf (fun cs ss => ?_) ⟨rfl, rfl⟩ zM.rf K
  have hb' : eBI (yEn C) o idx = some 2 := hf
  unfold dbi
  rw [hb']
  show dmax 3 d (.int y :: .int x :: st) (zH C κ) cs ss = _
  unfold dmax
  simp [hd1, hc]
theorem y_minL {o idx : Nat} {x y : Int64} (hd : decode r.2.1 pc = .ok (.invokestatic idx, 3)) (ho : r.2.2.2.2.2.1 = o) (hf : (tBI o).lookup idx = some 3) (hd1 : 1 ≤ d) (hc : (st.map fun v => v.category).sum ≤ 8) (K : zG C n0 d r (pc + 3) L (.long (if y < x then y else x) :: st) κ Q) : zG C n0 d r pc L (.long y :: .long x :: st) κ Q := by
  refine y_bi hd ho hf (fun cs ss => ?_) ⟨rfl, rfl⟩ zM.rf K
  have hb' : eBI (yEn C) o idx = some 3 := hf
  unfold dbi
  rw [hb']
  show dminL 3 d (.long y :: .long x :: st) (zH C κ) cs ss = _
  unfold dminL
  simp [hd1, hc]
theorem y_absL {o idx : Nat} {x : Int64} (hd : decode r.2.1 pc = .ok (.invokestatic idx, 3)) (ho : r.2.2.2.2.2.1 = o) (hf : (tBI o).lookup idx = some 4) (hd1 : 1 ≤ d) (hc : (st.map fun v => v.category).sum ≤ 8) (K : zG C n0 d r (pc + 3) L (.long (if 0 < x then x else -x) :: st) κ Q) : zG C n0 d r pc L (.long x :: st) κ Q := by
  refine y_bi hd ho hf (fun cs ss => ?_) ⟨rfl, rfl⟩ zM.rf K
  have hb' : eBI (yEn C) o idx = some 4 := hf
  unfold dbi
  rw [hb']
  show dabsL 3 d (.long x :: st) (zH C κ) cs ss = _
  unfold dabsL
  simp [hd1, hc]
/-- so many of one row from a place on into another from a place on -/
def cpo (κ : zS) (s a : Nat) (sp dp n : Int32) : Prop := 0 ≤ sp ∧ 0 ≤ dp ∧ 0 ≤ n ∧ sp.toNatClampNeg + n.toNatClampNeg ≤ zN κ s ∧ dp.toNatClampNeg + n.toNatClampNeg ≤ zN κ a
theorem y_cpy {o idx s a t : Nat} {sp dp n : Int32} (W : zW C n0 κ) (hd : decode r.2.1 pc = .ok (.invokestatic idx, 3)) (ho : r.2.2.2.2.2.1 = o) (hf : (tBI o).lookup idx = some 5) (hs : zT κ s = 20 + t) (ha : zT κ a = 20 + t) (ht : t = 0 ∨ t = 1) (hd1 : 1 ≤ d) (hc : (st.map fun v => v.category).sum ≤ 8) (hp : cpo κ s a sp dp n) (K : ∀ κ1, κ1 = uc κ s a sp.toNatClampNeg dp.toNatClampNeg n.toNatClampNeg → zG C n0 d r (pc + 3) L st κ1 Q) : zG C n0 d r pc L (.int n :: .int dp :: .ref a :: .int sp :: .ref s :: st) κ Q := by
  refine y_bi (κ1 := uc κ s a sp.toNatClampNeg dp.toNatClampNeg n.toNatClampNeg) hd ho hf (fun cs ss => ?_) ⟨rfl, rfl⟩ (zM.of rfl rfl rfl) (K _ rfl)
  have hb' : eBI (yEn C) o idx = some 5 := hf
  have t3 : t = 0 ∨ t = 1 ∨ t = 3 := by omega
  obtain ⟨p1, p2, p3, p4, p5⟩ := hp
  have q1 : ¬ sp < 0 := by grind
  have q2 : ¬ dp < 0 := by grind
  have q3 : ¬ n < 0 := by grind
  have hb := (zW_b W (a := a) (by omega)).1
  have he : dupd (zH C κ) a (.inl (t, zN κ a, .inl (va_cpy (zA κ s) (zA κ a) sp.toNatClampNeg dp.toNatClampNeg n.toNatClampNeg))) = zH C (uc κ s a sp.toNatClampNeg dp.toNatClampNeg n.toNatClampNeg) := by
    refine zH_ast rfl rfl rfl rfl rfl (by omega) ?_ (fun b hb => ⟨if_neg hb, rfl, rfl⟩)
    rw [zCell_i (C := C) (κ := uc κ s a sp.toNatClampNeg dp.toNatClampNeg n.toNatClampNeg) ha t3]
    show (Sum.inl (t, zN κ a, .inl (if a = a then _ else _)) : dC) = _
    rw [if_pos rfl]
  have hfit : dfit t (zA κ s) sp.toNatClampNeg n.toNatClampNeg = true := by
    unfold dfit
    rcases ht with rfl | rfl
    · rfl
    · show ((List.range n.toNatClampNeg).all fun i => fits .byte (.int (zA κ s (sp.toNatClampNeg + i)))) = true
      rw [List.all_eq_true]
      exact fun i _ => W.2.2.2.2.2.2.2.1 s _ hs
  unfold dbi
  rw [hb']
  show dcpy (yb C) 3 d (.int n :: .int dp :: .ref a :: .int sp :: .ref s :: st) (zH C κ) cs ss = _
  unfold dcpy
  simp only [zH_i hs t3, zH_i ha t3]
  simp [hd1, hb, hfit, q1, q2, q3, p4, p5, he]
  exact hc
theorem zW_uc {s a sp dp n : Nat} {κ1 : zS} (W : zW C n0 κ) (e : κ1 = uc κ s a sp dp n) (hs : zT κ s = zT κ a) : zW C n0 κ1 := by
  subst e
  obtain ⟨w1, w2, w3, w4, w5, w6, w7, w8, w9⟩ := W
  refine ⟨w1, w2, w3, w4, w5, w6, fun b j hb => ?_, fun b j hb => ?_, w9⟩
  · show nb ((if b = a then va_cpy (zA κ s) (zA κ a) sp dp n else zA κ b) j)
    by_cases e : b = a
    · rw [if_pos e]
      have hb : zT κ b = 23 := hb
      unfold va_cpy
      split
      · exact w7 s _ (by rw [hs, ← e]; exact hb)
      · exact w7 a _ (by rw [← e]; exact hb)
    · rw [if_neg e]; exact w7 b j hb
  · show fits .byte (.int ((if b = a then va_cpy (zA κ s) (zA κ a) sp dp n else zA κ b) j)) = true
    by_cases e : b = a
    · rw [if_pos e]
      have hb : zT κ b = 21 := hb
      unfold va_cpy
      split
      · exact w8 s _ (by rw [hs, ← e]; exact hb)
      · exact w8 a _ (by rw [← e]; exact hb)
    · rw [if_neg e]; exact w8 b j hb
/-- ends -/
theorem y_end {v : Option Value} (W : zW C n0 κ) {i : Instr} {len : Nat} (hd : decode r.2.1 pc = .ok (i, len)) (hp : ∀ lo, dpure i len pc r.2.2.1 lo st = none) (hh : ∀ cs ss, dheap (yEn C) (yb C) d r i len st (zH C κ) cs ss = none) (hv : dret r i len st = some v) (K : Q (.inl v) κ) : zG C n0 d r pc L st κ Q := fun lo cs ss hl => ⟨.inl v, κ, 0, 0, go_ret hd (hp lo) (hh cs ss) hv, rfl, rfl, W, zM.rf, K⟩
theorem y_ri {Q : Int32 → zS → Prop} {X : zXp} {x : Int32} {ty : FieldType} (W : zW C n0 κ) (hd : decode r.2.1 pc = .ok (.ireturn, 1)) (ht : r.2.2.2.1 = some ty) (hn : narrow ty (.int x) = .int x ∧ fits ty (.int x) = true) (K : Q x κ) : zG C n0 d r pc L [.int x] κ (oI Q X) := y_end W hd (fun _ => rfl) (fun _ _ => rfl) (v := some (.int x)) (by unfold dret; simp [ht, hn.1]) (Or.inl ⟨x, rfl, K⟩)
theorem y_rl {Q : Int64 → zS → Prop} {X : zXp} {x : Int64} (W : zW C n0 κ) (hd : decode r.2.1 pc = .ok (.lreturn, 1)) (ht : r.2.2.2.1 = some .long) (K : Q x κ) : zG C n0 d r pc L [.long x] κ (oJ Q X) := y_end W hd (fun _ => rfl) (fun _ _ => rfl) (v := some (.long x)) (by unfold dret; simp [ht]) (Or.inl ⟨x, rfl, K⟩)
theorem y_rv {Q : zS → Prop} {X : zXp} (W : zW C n0 κ) (hd : decode r.2.1 pc = .ok (.return_, 1)) (ht : r.2.2.2.1 = none) (K : Q κ) : zG C n0 d r pc L [] κ (oV Q X) := y_end W hd (fun _ => rfl) (fun _ _ => rfl) (v := none) (by unfold dret; simp [ht]) (Or.inl ⟨rfl, K⟩)
theorem y_ro {Q : Nat → zS → Prop} {X : zXp} {x t : Nat} {s : String} (W : zW C n0 κ) (hd : decode r.2.1 pc = .ok (.areturn, 1)) (ht : r.2.2.2.1 = some (.object s)) (hT : zT κ x = t) (K : Q x κ) : zG C n0 d r pc L [.ref x] κ (oR t Q X) := y_end W hd (fun _ => rfl) (fun _ _ => rfl) (v := some (.ref x)) (by unfold dret; simp [ht]) (Or.inl ⟨x, rfl, hT, K⟩)
theorem y_ra {Q : Nat → zS → Prop} {X : zXp} {x t : Nat} {ty : FieldType} (W : zW C n0 κ) (hd : decode r.2.1 pc = .ok (.areturn, 1)) (ht : r.2.2.2.1 = some (.array ty)) (hT : zT κ x = t) (K : Q x κ) : zG C n0 d r pc L [.ref x] κ (oR t Q X) := y_end W hd (fun _ => rfl) (fun _ _ => rfl) (v := some (.ref x)) (by unfold dret; simp [ht]) (Or.inl ⟨x, rfl, hT, K⟩)
theorem y_rq {Q : Option Nat → zS → Prop} {X : zXp} {x : Option Nat} {t : Nat} {s : String} (W : zW C n0 κ) (hd : decode r.2.1 pc = .ok (.areturn, 1)) (ht : r.2.2.2.1 = some (.object s)) (hT : ∀ v, x = some v → zT κ v = t) (K : Q x κ) : zG C n0 d r pc L [va_rf x] κ (oQ t Q X) := y_end W hd (fun _ => rfl) (fun _ _ => rfl) (v := some (va_rf x)) (by cases x <;> (unfold dret; simp [ht, va_rf])) (Or.inl ⟨x, rfl, hT, K⟩)
theorem y_thr {cls : String} (W : zW C n0 κ) (hx : dxat (yEn C) dXX r pc = some cls) (h8 : 8 ≤ d) (hc : (st.map fun v => v.category).sum ≤ 8) (K : ∀ κ1, κ1 = ut κ → Q (.inr cls) κ1) : zG C n0 d r pc L st κ Q := fun lo cs ss hl => ⟨.inr cls, ut κ, 1, 6, gg_thr hx h8 hc, rfl, rfl, W, zM.of rfl rfl rfl, K _ rfl⟩
end SK
theorem z_run {C : zC} {d : Nat} {m : dM} {as : List Value} {κ : zS} {Q : zU → zS → Prop} {L : List (Option Value)} (hL : lA (dent as) L) (h : zG C (zn κ) d m 0 L [] κ Q) : zRun C d m as κ Q := by
  obtain ⟨o, κ', x, y, h1, h2⟩ := h _ 0 0 hL
  rw [Nat.zero_add, Nat.zero_add] at h1
  exact ⟨o, κ', x, y, h1, h2⟩
theorem zRun.up {C : zC} {d d' : Nat} {m : dM} {as : List Value} {κ : zS} {Q : zU → zS → Prop} (hle : d ≤ d') (h : zRun C d m as κ Q) : zRun C d' m as κ Q := by
  obtain ⟨o, κ', x, y, h1, h2⟩ := h
  exact ⟨o, κ', x, y, gg_up (yap C) hle h1, h2⟩
theorem zRun.mono {C : zC} {d : Nat} {m : dM} {as : List Value} {κ : zS} {Q Q' : zU → zS → Prop} (h : zRun C d m as κ Q) (hq : ∀ o κ', Q o κ' → Q' o κ') : zRun C d m as κ Q' := by
  obtain ⟨o, κ', x, y, h1, h2, h3, h4, h5, h6⟩ := h
  exact ⟨o, κ', x, y, h1, h2, h3, h4, h5, hq o κ' h6⟩
/-! small rows that the methods' proofs use -/
theorem ztm {C : zC} {n0 : Nat} {κ κ' : zS} {a c : Nat} (W : zW C n0 κ) (M : zM (zn κ) κ κ') (h : zT κ a = c + 1) : zT κ' a = c + 1 := M.1 a c (Or.inl (W.2.1 a (by omega)).2) h
theorem ztf {κ κ' : zS} {a c w q : Nat} (e : κ' = nff κ w) (R : zT κ w = q) (hq : 40 ≤ q) (h : zT κ a = c + 1) (hc : c + 1 < 40) : zT κ' a = c + 1 := by
  subst e
  exact (if_neg (fun z => by rw [z, R] at h; omega)).trans h
theorem ztg {κ κ' : zS} {a c w : Nat} (e : κ' = nff κ w) (hne : a ≠ w) (h : zT κ a = c) : zT κ' a = c := by
  subst e
  exact (if_neg hne).trans h
theorem cat_q {x : Option Nat} : (va_rf x).category = 1 := by cases x <;> rfl
section UQ
variable {C : zC} {n0 d : Nat} {r : dM} {pc : Nat} {L : List (Option Value)} {st : List Value} {κ : zS} {Q : zU → zS → Prop} {e : Option Nat} {u : Nat} {v0 v1 v2 : Value}
theorem y_uq0 (E : e = some u) (K : zG C n0 d r pc L (.ref u :: st) κ Q) : zG C n0 d r pc L (va_rf e :: st) κ Q := by subst E; exact K
theorem y_uq1 (E : e = some u) (K : zG C n0 d r pc L (v0 :: .ref u :: st) κ Q) : zG C n0 d r pc L (v0 :: va_rf e :: st) κ Q := by subst E; exact K
theorem y_uq2 (E : e = some u) (K : zG C n0 d r pc L (v0 :: v1 :: .ref u :: st) κ Q) : zG C n0 d r pc L (v0 :: v1 :: va_rf e :: st) κ Q := by subst E; exact K
theorem y_uq3 (E : e = some u) (K : zG C n0 d r pc L (v0 :: v1 :: v2 :: .ref u :: st) κ Q) : zG C n0 d r pc L (v0 :: v1 :: v2 :: va_rf e :: st) κ Q := by subst E; exact K
end UQ
section ENDS
variable {C : zC} {n0 d : Nat} {r : dM} {pc : Nat} {L : List (Option Value)} {st : List Value} {κ κ' : zS} {Q : zU → zS → Prop} {X : zXp} {v : Option Value} {cls : String} {t : Nat} {M : zS → Prop}
theorem ezI {F : Int32 → zS → Prop} (K : ∀ (x : Int32) κ', zW C n0 κ' → M κ' → F x κ' → zG C n0 d r pc L (.int x :: st) κ' Q) (w : zW C n0 κ') (m : M κ') (p : oI F X (.inl v) κ') : zG C n0 d r pc L (v.toList ++ st) κ' Q := by
  rcases p with ⟨x, e, h⟩ | ⟨c, e, -⟩
  · cases e; exact K x κ' w m h
  · cases e
theorem ezJ {F : Int64 → zS → Prop} (K : ∀ (x : Int64) κ', zW C n0 κ' → M κ' → F x κ' → zG C n0 d r pc L (.long x :: st) κ' Q) (w : zW C n0 κ') (m : M κ') (p : oJ F X (.inl v) κ') : zG C n0 d r pc L (v.toList ++ st) κ' Q := by
  rcases p with ⟨x, e, h⟩ | ⟨c, e, -⟩
  · cases e; exact K x κ' w m h
  · cases e
theorem ezV {F : zS → Prop} (K : ∀ κ', zW C n0 κ' → M κ' → F κ' → zG C n0 d r pc L st κ' Q) (w : zW C n0 κ') (m : M κ') (p : oV F X (.inl v) κ') : zG C n0 d r pc L (v.toList ++ st) κ' Q := by
  rcases p with ⟨e, h⟩ | ⟨c, e, -⟩
  · cases e; exact K κ' w m h
  · cases e
theorem ezR {F : Nat → zS → Prop} (K : ∀ (x : Nat) κ', zW C n0 κ' → M κ' → zT κ' x = t → F x κ' → zG C n0 d r pc L (.ref x :: st) κ' Q) (w : zW C n0 κ') (m : M κ') (p : oR t F X (.inl v) κ') : zG C n0 d r pc L (v.toList ++ st) κ' Q := by
  rcases p with ⟨x, e, h1, h⟩ | ⟨c, e, -⟩
  · cases e; exact K x κ' w m h1 h
  · cases e
theorem ezQ {F : Option Nat → zS → Prop} (K : ∀ (x : Option Nat) κ', zW C n0 κ' → M κ' → (∀ v, x = some v → zT κ' v = t) → F x κ' → zG C n0 d r pc L (va_rf x :: st) κ' Q) (w : zW C n0 κ') (m : M κ') (p : oQ t F X (.inl v) κ') : zG C n0 d r pc L (v.toList ++ st) κ' Q := by
  rcases p with ⟨x, e, h1, h⟩ | ⟨c, e, -⟩
  · cases e; exact K x κ' w m h1 h
  · cases e
theorem thrI {F : Int32 → zS → Prop} (p : oI F X (.inr cls) κ') : X cls κ' := by
  rcases p with ⟨x, e, -⟩ | ⟨c, e, h⟩
  · cases e
  · cases e; exact h
theorem thrJ {F : Int64 → zS → Prop} (p : oJ F X (.inr cls) κ') : X cls κ' := by
  rcases p with ⟨x, e, -⟩ | ⟨c, e, h⟩
  · cases e
  · cases e; exact h
theorem thrV {F : zS → Prop} (p : oV F X (.inr cls) κ') : X cls κ' := by
  rcases p with ⟨e, -⟩ | ⟨c, e, h⟩
  · cases e
  · cases e; exact h
theorem thrR {F : Nat → zS → Prop} (p : oR t F X (.inr cls) κ') : X cls κ' := by
  rcases p with ⟨x, e, -, -⟩ | ⟨c, e, h⟩
  · cases e
  · cases e; exact h
theorem thrQ {F : Option Nat → zS → Prop} (p : oQ t F X (.inr cls) κ') : X cls κ' := by
  rcases p with ⟨x, e, -, -⟩ | ⟨c, e, h⟩
  · cases e
  · cases e; exact h
end ENDS
theorem dxat_yes {E : dE} {X : dX} {r : dM} {pc ik is ic : Nat} {cls : String} (h1 : decode r.2.1 pc = .ok (.new ik, 3)) (h2 : decode r.2.1 (pc + 3) = .ok (.dup, 1)) (h3 : decode r.2.1 (pc + 4) = .ok (.ldc is, 2)) (h4 : decode r.2.1 (pc + 6) = .ok (.invokespecial ic, 3)) (h5 : decode r.2.1 (pc + 9) = .ok (.athrow, 1)) (hx : X.1 r.2.2.2.2.2.1 ik = some cls) (hy : X.2 r.2.2.2.2.2.1 ic = some cls) (hs : (eSR E r.2.2.2.2.2.1 is).isSome = true) : dxat E X r pc = some cls := by
  unfold dxat
  simp only [h1, hx, h2, h3, h4, h5, hy, hs, and_self, if_true]
theorem dxat_yesw {E : dE} {X : dX} {r : dM} {pc ik is ic : Nat} {cls : String} (h1 : decode r.2.1 pc = .ok (.new ik, 3)) (h2 : decode r.2.1 (pc + 3) = .ok (.dup, 1)) (h3 : decode r.2.1 (pc + 4) = .ok (.ldc_w is, 3)) (h4 : decode r.2.1 (pc + 7) = .ok (.invokespecial ic, 3)) (h5 : decode r.2.1 (pc + 10) = .ok (.athrow, 1)) (hx : X.1 r.2.2.2.2.2.1 ik = some cls) (hy : X.2 r.2.2.2.2.2.1 ic = some cls) (hs : (eSR E r.2.2.2.2.2.1 is).isSome = true) : dxat E X r pc = some cls := by
  unfold dxat
  simp only [h1, hx, h2, h3, h4, h5, hy, hs, and_self, if_true]
theorem lk_at {pc t : Nat} {lo : dL0} {st : List Value} {dflt v off : Int} {ps : Array (Int × Int)} {x : Int32} {len nL : Nat} (hs : ((ps.toList.zip (ps.toList.drop 1)).all (fun (a, next) => a.1 < next.1)) = true) (hx : x.toInt = v) (hk : Op.lookupswitch.offset ps.toList dflt v = off) (ht : dto pc off = some t) : dpure (.lookupswitch dflt ps) len pc nL lo (.int x :: st) = some (t, lo, st) := by
  show dlk pc lo st dflt ps x = _
  unfold dlk
  rw [if_pos hs, hx, hk, ht]; rfl
theorem lk_no {pc t : Nat} {lo : dL0} {st : List Value} {dflt : Int} {ps : Array (Int × Int)} {x : Int32} {len nL : Nat} (hs : ((ps.toList.zip (ps.toList.drop 1)).all (fun (a, next) => a.1 < next.1)) = true) (hk : Op.lookupswitch.offset ps.toList dflt x.toInt = dflt) (ht : dto pc dflt = some t) : dpure (.lookupswitch dflt ps) len pc nL lo (.int x :: st) = some (t, lo, st) := by
  show dlk pc lo st dflt ps x = _
  unfold dlk
  rw [if_pos hs, hk, ht]; rfl

end
