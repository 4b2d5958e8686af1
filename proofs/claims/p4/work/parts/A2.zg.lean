/-! conditions for the class's runs -/
def iNew (i : Instr) : Bool := match i with
  | .new _ => true
  | _ => false
/-- a thing that is thrown is made -/
def ut (κ : zS) : zS := (κ.1, κ.2.1, κ.2.2.1, κ.2.2.2.1, κ.2.2.2.2.1, κ.2.2.2.2.2.1, κ.2.2.2.2.2.2.1, κ.2.2.2.2.2.2.2.1, zn κ, zc κ + 1, zs κ + 6)
/-- a text of the setting -/
def isTx (C : zC) (a : Nat) : Prop := ((C.2.1).find? (fun x => x.1 == a)).isSome = true ∧ (a < yb C ∧ ∃ x y, (C.2.1).find? (fun x => x.1 == a) = some x ∧ (C.2.1).find? (fun z => z.2.1 == x.2.1) = some y ∧ x.2.1 < yb C ∧ (yh C).2 x.2.1 = none ∧ y.2.2.length ≤ 65536) ∧ (yh C).2 a = none
def cTx (C : zC) : Prop := ∀ k, k = 0 ∨ k = 1 ∨ k = 3 → isTx C (C.1 k)
/-- what is in order all through: addresses, types of what is referred to, booleans, bytes, whose each row is -/
def zW (C : zC) (n0 : Nat) (κ : zS) : Prop := ((0 < yb C ∧ cTx C) ∧ yb C ≤ n0 ∧ n0 ≤ zn κ) ∧ (∀ a, zT κ a ≠ 0 → (yb C ≤ a ∧ zN κ a ≤ 67108864) ∧ a < zn κ) ∧ (∀ f t a, zr f = some t → zT κ a = f / 100 → zT κ (zR κ f a) = t) ∧ (∀ a i v, zT κ a = 24 → zQ κ a i = some v → zT κ v = 8) ∧ (∀ a i v, zT κ a = 25 → zQ κ a i = some v → zT κ v = 11) ∧ (∀ f a, f ∈ zZT → zT κ a = f / 100 → nb (zI κ f a)) ∧ (∀ a i, zT κ a = 23 → nb (zA κ a i)) ∧ (∀ a i, zT κ a = 21 → fits .byte (.int (zA κ a i)) = true) ∧ (∀ f t a, zr f = some t → 20 ≤ t → zT κ a = f / 100 → zO κ (zR κ f a) = (f, a))
/-- what only grows: types, lengths, the number of cells -/
def zM (n0 : Nat) (κ κ' : zS) : Prop := (∀ a c, (a < n0 ∨ c + 1 < 40) → zT κ a = c + 1 → zT κ' a = c + 1) ∧ (∀ a, zT κ a ≠ 0 → zT κ' a ≠ 0 ∧ zN κ' a = zN κ a) ∧ zn κ ≤ zn κ'
theorem zM.rf {n0 : Nat} {κ : zS} : zM n0 κ κ := ⟨fun _ _ _ h => h, fun _ h => ⟨h, rfl⟩, Nat.le_refl _⟩
theorem zM.tr {n0 : Nat} {κ κ1 κ2 : zS} (h : zM n0 κ κ1) (g : zM n0 κ1 κ2) : zM n0 κ κ2 := ⟨fun a c z e => g.1 a c z (h.1 a c z e), fun a e => ⟨(g.2.1 a (h.2.1 a e).1).1, (g.2.1 a (h.2.1 a e).1).2.trans (h.2.1 a e).2⟩, Nat.le_trans h.2.2 g.2.2⟩
theorem zM.t {n0 : Nat} {κ κ' : zS} (h : zM n0 κ κ') {a c : Nat} (e : zT κ a = c + 1) (hc : (c + 1 < 40) = True) : zT κ' a = c + 1 := h.1 a c (Or.inr (of_eq_true hc)) e
theorem zM.of {n0 : Nat} {κ κ' : zS} (h1 : zT κ' = zT κ) (h2 : zN κ' = zN κ) (h3 : zn κ' = zn κ) : zM n0 κ κ' := ⟨fun a c _ e => by rw [h1]; exact e, fun a e => ⟨by rw [h1]; exact e, by rw [h2]⟩, by rw [h3]; exact Nat.le_refl _⟩
abbrev zU : Type := Option Value ⊕ String
def zOut (C : zC) (o : zU) (κ : zS) (c s : Nat) : dW := match o with
  | .inl v => .inl (v, zH C κ, c, s)
  | .inr cls => .inr (cls, (none, (zH C κ).2), c, s)
def zG (C : zC) (n0 d : Nat) (r : dM) (pc : Nat) (L : List (Option Value)) (st : List Value) (κ : zS) (Q : zU → zS → Prop) : Prop :=
  ∀ lo cs ss, lA lo L → ∃ o κ' x y, dGG (yEn C) dXX (yb C) d r pc lo st (zH C κ) cs ss (zOut C o κ' (cs + x) (ss + y)) ∧ zc κ' = zc κ + x ∧ zs κ' = zs κ + y ∧ zW C n0 κ' ∧ zM n0 κ κ' ∧ Q o κ'
abbrev zXp : Type := String → zS → Prop
def oI (Q : Int32 → zS → Prop) (X : zXp) (o : zU) (κ : zS) : Prop := (∃ x, o = .inl (some (.int x)) ∧ Q x κ) ∨ ∃ cls, o = .inr cls ∧ X cls κ
def oJ (Q : Int64 → zS → Prop) (X : zXp) (o : zU) (κ : zS) : Prop := (∃ x, o = .inl (some (.long x)) ∧ Q x κ) ∨ ∃ cls, o = .inr cls ∧ X cls κ
def oV (Q : zS → Prop) (X : zXp) (o : zU) (κ : zS) : Prop := (o = .inl none ∧ Q κ) ∨ ∃ cls, o = .inr cls ∧ X cls κ
/-- a reference of the type t; one that may be null -/
def oR (t : Nat) (Q : Nat → zS → Prop) (X : zXp) (o : zU) (κ : zS) : Prop := (∃ x, o = .inl (some (.ref x)) ∧ zT κ x = t ∧ Q x κ) ∨ ∃ cls, o = .inr cls ∧ X cls κ
def oQ (t : Nat) (Q : Option Nat → zS → Prop) (X : zXp) (o : zU) (κ : zS) : Prop := (∃ x, o = .inl (some (va_rf x)) ∧ (∀ v, x = some v → zT κ v = t) ∧ Q x κ) ∨ ∃ cls, o = .inr cls ∧ X cls κ
/-- no throw -/
def noX : zXp := fun _ _ => False
/-- a call: the method runs from here -/
def zRun (C : zC) (d : Nat) (m : dM) (as : List Value) (κ : zS) (Q : zU → zS → Prop) : Prop := ∃ o κ' x y, dGG (yEn C) dXX (yb C) d m 0 (dent as) [] (zH C κ) 0 0 (zOut C o κ' x y) ∧ zc κ' = zc κ + x ∧ zs κ' = zs κ + y ∧ zW C (zn κ) κ' ∧ zM (zn κ) κ κ' ∧ Q o κ'
section SY
variable {C : zC} {n0 d : Nat} {r : dM} {pc : Nat} {L : List (Option Value)} {st : List Value} {κ : zS} {Q : zU → zS → Prop}
theorem dx_no {E : dE} {X : dX} {i : Instr} {len : Nat} (hd : decode r.2.1 pc = .ok (i, len)) (hi : iNew i = false) : dxat E X r pc = none := dxat_no hd (fun ik e => by subst e; cases hi)
theorem y_pl {i : Instr} {len pc' : Nat} {F : dL0 → dL0} {L' : List (Option Value)} {st' : List Value} (hd : decode r.2.1 pc = .ok (i, len)) (hi : iNew i = false) (hw : ∀ lo, lA lo L → dpure i len pc r.2.2.1 lo st = some (pc', F lo, st')) (hL : ∀ lo, lA lo L → lA (F lo) L') (K : zG C n0 d r pc' L' st' κ Q) : zG C n0 d r pc L st κ Q := by
  intro lo cs ss hl
  obtain ⟨o, κ', x9, y9, h1, h2⟩ := K (F lo) cs ss (hL lo hl)
  exact ⟨o, κ', x9, y9, gg_pure (dx_no hd hi) hd (hw lo hl) h1, h2⟩
theorem y_p {i : Instr} {len pc' : Nat} {st' : List Value} (hd : decode r.2.1 pc = .ok (i, len)) (hi : iNew i = false) (hw : ∀ lo, dpure i len pc r.2.2.1 lo st = some (pc', lo, st')) (K : zG C n0 d r pc' L st' κ Q) : zG C n0 d r pc L st κ Q := y_pl (F := fun lo => lo) hd hi (fun lo _ => hw lo) (fun _ h => h) K
theorem y_w {L' : List (Option Value)} (hs : lsub L' L) (K : zG C n0 d r pc L' st κ Q) : zG C n0 d r pc L st κ Q := fun lo cs ss hl => K lo cs ss (lA_sub hs hl)
theorem y_k {L' : List (Option Value)} (K : zG C n0 d r pc L' st κ Q) (hs : lsub L' L) : zG C n0 d r pc L st κ Q := y_w hs K
theorem y_iln {k} {x : Int32} (hd : decode r.2.1 pc = .ok (.iload_n k, 1)) (hk : L[(k : Nat)]? = some (some (.int x))) (K : zG C n0 d r (pc + 1) L (.int x :: st) κ Q) : zG C n0 d r pc L st κ Q := y_pl (F := fun lo => lo) hd rfl (fun lo hl => by
  show dldI 1 1 pc (k : Nat) lo st = _
  unfold dldI
  rw [hl _ _ hk]; rfl) (fun _ h => h) K
theorem y_il {k : Nat} {x : Int32} (hd : decode r.2.1 pc = .ok (.iload k, 2)) (hk : L[k]? = some (some (.int x))) (K : zG C n0 d r (pc + 2) L (.int x :: st) κ Q) : zG C n0 d r pc L st κ Q := y_pl (F := fun lo => lo) hd rfl (fun lo hl => by
  show dldI 2 2 pc k lo st = _
  unfold dldI
  rw [hl _ _ hk]; rfl) (fun _ h => h) K
theorem y_lln {k} {x : Int64} (hd : decode r.2.1 pc = .ok (.lload_n k, 1)) (hk : L[(k : Nat)]? = some (some (.long x))) (K : zG C n0 d r (pc + 1) L (.long x :: st) κ Q) : zG C n0 d r pc L st κ Q := y_pl (F := fun lo => lo) hd rfl (fun lo hl => by
  show dldL 1 1 pc (k : Nat) lo st = _
  unfold dldL
  rw [hl _ _ hk]; rfl) (fun _ h => h) K
theorem y_ll {k : Nat} {x : Int64} (hd : decode r.2.1 pc = .ok (.lload k, 2)) (hk : L[k]? = some (some (.long x))) (K : zG C n0 d r (pc + 2) L (.long x :: st) κ Q) : zG C n0 d r pc L st κ Q := y_pl (F := fun lo => lo) hd rfl (fun lo hl => by
  show dldL 2 2 pc k lo st = _
  unfold dldL
  rw [hl _ _ hk]; rfl) (fun _ h => h) K
theorem y_aln {k} {x : Nat} (hd : decode r.2.1 pc = .ok (.aload_n k, 1)) (hk : L[(k : Nat)]? = some (some (.ref x))) (K : zG C n0 d r (pc + 1) L (.ref x :: st) κ Q) : zG C n0 d r pc L st κ Q := y_pl (F := fun lo => lo) hd rfl (fun lo hl => by
  show dldA 1 1 pc (k : Nat) lo st = _
  unfold dldA
  rw [hl _ _ hk]; rfl) (fun _ h => h) K
theorem y_al {k : Nat} {x : Nat} (hd : decode r.2.1 pc = .ok (.aload k, 2)) (hk : L[k]? = some (some (.ref x))) (K : zG C n0 d r (pc + 2) L (.ref x :: st) κ Q) : zG C n0 d r pc L st κ Q := y_pl (F := fun lo => lo) hd rfl (fun lo hl => by
  show dldA 2 2 pc k lo st = _
  unfold dldA
  rw [hl _ _ hk]; rfl) (fun _ h => h) K
theorem y_qln {k} {x : Option Nat} (hd : decode r.2.1 pc = .ok (.aload_n k, 1)) (hk : L[(k : Nat)]? = some (some (va_rf x))) (K : zG C n0 d r (pc + 1) L (va_rf x :: st) κ Q) : zG C n0 d r pc L st κ Q := y_pl (F := fun lo => lo) hd rfl (fun lo hl => by
  show dldA 1 1 pc (k : Nat) lo st = _
  unfold dldA
  rw [hl _ _ hk]
  cases x <;> rfl) (fun _ h => h) K
theorem y_ql {k : Nat} {x : Option Nat} (hd : decode r.2.1 pc = .ok (.aload k, 2)) (hk : L[k]? = some (some (va_rf x))) (K : zG C n0 d r (pc + 2) L (va_rf x :: st) κ Q) : zG C n0 d r pc L st κ Q := y_pl (F := fun lo => lo) hd rfl (fun lo hl => by
  show dldA 2 2 pc k lo st = _
  unfold dldA
  rw [hl _ _ hk]
  cases x <;> rfl) (fun _ h => h) K
theorem y_isn {k} {x : Int32} {L' : List (Option Value)} (hd : decode r.2.1 pc = .ok (.istore_n k, 1)) (hk : (k : Nat) < r.2.2.1) (hL : lset1 L (k : Nat) (.int x) = L') (K : zG C n0 d r (pc + 1) L' st κ Q) : zG C n0 d r pc L (.int x :: st) κ Q := y_pl (F := fun lo => dset1 lo (k : Nat) (.int x)) hd rfl (fun lo hl => by
  show dstI 1 1 pc (k : Nat) r.2.2.1 lo (.int x :: st) = _
  unfold dstI
  simp only [hk, and_self, if_true]) (fun lo hl => by rw [← hL]; exact lA_set1 hl) K
theorem y_isnb {k} {x : Int32} (hd : decode r.2.1 pc = .ok (.istore_n k, 1)) (hk : (k : Nat) < r.2.2.1) (K : ∀ y, y = x → zG C n0 d r (pc + 1) (lset1 L (k : Nat) (.int y)) st κ Q) : zG C n0 d r pc L (.int x :: st) κ Q := y_isn hd hk rfl (K x rfl)
theorem y_is {k : Nat} {x : Int32} {L' : List (Option Value)} (hd : decode r.2.1 pc = .ok (.istore k, 2)) (hk : k < r.2.2.1) (hL : lset1 L k (.int x) = L') (K : zG C n0 d r (pc + 2) L' st κ Q) : zG C n0 d r pc L (.int x :: st) κ Q := y_pl (F := fun lo => dset1 lo k (.int x)) hd rfl (fun lo hl => by
  show dstI 2 2 pc k r.2.2.1 lo (.int x :: st) = _
  unfold dstI
  simp only [hk, and_self, if_true]) (fun lo hl => by rw [← hL]; exact lA_set1 hl) K
theorem y_isb {k : Nat} {x : Int32} (hd : decode r.2.1 pc = .ok (.istore k, 2)) (hk : k < r.2.2.1) (K : ∀ y, y = x → zG C n0 d r (pc + 2) (lset1 L k (.int y)) st κ Q) : zG C n0 d r pc L (.int x :: st) κ Q := y_is hd hk rfl (K x rfl)
theorem y_lsn {k} {x : Int64} {L' : List (Option Value)} (hd : decode r.2.1 pc = .ok (.lstore_n k, 1)) (hk : (k : Nat) + 1 < r.2.2.1) (hL : lset2 L (k : Nat) (.long x) = L') (K : zG C n0 d r (pc + 1) L' st κ Q) : zG C n0 d r pc L (.long x :: st) κ Q := y_pl (F := fun lo => dset2 lo (k : Nat) (.long x)) hd rfl (fun lo hl => by
  show dstL 1 1 pc (k : Nat) r.2.2.1 lo (.long x :: st) = _
  unfold dstL
  simp only [hk, and_self, if_true]) (fun lo hl => by rw [← hL]; exact lA_set2 hl) K
theorem y_lsnb {k} {x : Int64} (hd : decode r.2.1 pc = .ok (.lstore_n k, 1)) (hk : (k : Nat) + 1 < r.2.2.1) (K : ∀ y, y = x → zG C n0 d r (pc + 1) (lset2 L (k : Nat) (.long y)) st κ Q) : zG C n0 d r pc L (.long x :: st) κ Q := y_lsn hd hk rfl (K x rfl)
theorem y_ls {k : Nat} {x : Int64} {L' : List (Option Value)} (hd : decode r.2.1 pc = .ok (.lstore k, 2)) (hk : k + 1 < r.2.2.1) (hL : lset2 L k (.long x) = L') (K : zG C n0 d r (pc + 2) L' st κ Q) : zG C n0 d r pc L (.long x :: st) κ Q := y_pl (F := fun lo => dset2 lo k (.long x)) hd rfl (fun lo hl => by
  show dstL 2 2 pc k r.2.2.1 lo (.long x :: st) = _
  unfold dstL
  simp only [hk, and_self, if_true]) (fun lo hl => by rw [← hL]; exact lA_set2 hl) K
theorem y_lsb {k : Nat} {x : Int64} (hd : decode r.2.1 pc = .ok (.lstore k, 2)) (hk : k + 1 < r.2.2.1) (K : ∀ y, y = x → zG C n0 d r (pc + 2) (lset2 L k (.long y)) st κ Q) : zG C n0 d r pc L (.long x :: st) κ Q := y_ls hd hk rfl (K x rfl)
theorem y_asn {k} {x : Nat} {L' : List (Option Value)} (hd : decode r.2.1 pc = .ok (.astore_n k, 1)) (hk : (k : Nat) < r.2.2.1) (hL : lset1 L (k : Nat) (.ref x) = L') (K : zG C n0 d r (pc + 1) L' st κ Q) : zG C n0 d r pc L (.ref x :: st) κ Q := y_pl (F := fun lo => dset1 lo (k : Nat) (.ref x)) hd rfl (fun lo hl => by
  show dstA 1 1 pc (k : Nat) r.2.2.1 lo (.ref x :: st) = _
  unfold dstA
  simp only [hk, and_self, if_true]) (fun lo hl => by rw [← hL]; exact lA_set1 hl) K
theorem y_asnb {k} {x : Nat} (hd : decode r.2.1 pc = .ok (.astore_n k, 1)) (hk : (k : Nat) < r.2.2.1) (K : ∀ y, y = x → zG C n0 d r (pc + 1) (lset1 L (k : Nat) (.ref y)) st κ Q) : zG C n0 d r pc L (.ref x :: st) κ Q := y_asn hd hk rfl (K x rfl)
theorem y_as {k : Nat} {x : Nat} {L' : List (Option Value)} (hd : decode r.2.1 pc = .ok (.astore k, 2)) (hk : k < r.2.2.1) (hL : lset1 L k (.ref x) = L') (K : zG C n0 d r (pc + 2) L' st κ Q) : zG C n0 d r pc L (.ref x :: st) κ Q := y_pl (F := fun lo => dset1 lo k (.ref x)) hd rfl (fun lo hl => by
  show dstA 2 2 pc k r.2.2.1 lo (.ref x :: st) = _
  unfold dstA
  simp only [hk, and_self, if_true]) (fun lo hl => by rw [← hL]; exact lA_set1 hl) K
theorem y_asb {k : Nat} {x : Nat} (hd : decode r.2.1 pc = .ok (.astore k, 2)) (hk : k < r.2.2.1) (K : ∀ y, y = x → zG C n0 d r (pc + 2) (lset1 L k (.ref y)) st κ Q) : zG C n0 d r pc L (.ref x :: st) κ Q := y_as hd hk rfl (K x rfl)
theorem y_qsn {k} {x : Option Nat} {L' : List (Option Value)} (hd : decode r.2.1 pc = .ok (.astore_n k, 1)) (hk : (k : Nat) < r.2.2.1) (hL : lset1 L (k : Nat) (va_rf x) = L') (K : zG C n0 d r (pc + 1) L' st κ Q) : zG C n0 d r pc L (va_rf x :: st) κ Q := y_pl (F := fun lo => dset1 lo (k : Nat) (va_rf x)) hd rfl (fun lo hl => by
  show dstA 1 1 pc (k : Nat) r.2.2.1 lo (va_rf x :: st) = _
  unfold dstA
  cases x <;> simp only [va_rf, hk, and_self, if_true]) (fun lo hl => by rw [← hL]; exact lA_set1 hl) K
theorem y_qsnb {k} {x : Option Nat} (hd : decode r.2.1 pc = .ok (.astore_n k, 1)) (hk : (k : Nat) < r.2.2.1) (K : ∀ y, y = x → zG C n0 d r (pc + 1) (lset1 L (k : Nat) (va_rf y)) st κ Q) : zG C n0 d r pc L (va_rf x :: st) κ Q := y_qsn hd hk rfl (K x rfl)
theorem y_qs {k : Nat} {x : Option Nat} {L' : List (Option Value)} (hd : decode r.2.1 pc = .ok (.astore k, 2)) (hk : k < r.2.2.1) (hL : lset1 L k (va_rf x) = L') (K : zG C n0 d r (pc + 2) L' st κ Q) : zG C n0 d r pc L (va_rf x :: st) κ Q := y_pl (F := fun lo => dset1 lo k (va_rf x)) hd rfl (fun lo hl => by
  show dstA 2 2 pc k r.2.2.1 lo (va_rf x :: st) = _
  unfold dstA
  cases x <;> simp only [va_rf, hk, and_self, if_true]) (fun lo hl => by rw [← hL]; exact lA_set1 hl) K
theorem y_qsb {k : Nat} {x : Option Nat} (hd : decode r.2.1 pc = .ok (.astore k, 2)) (hk : k < r.2.2.1) (K : ∀ y, y = x → zG C n0 d r (pc + 2) (lset1 L k (va_rf y)) st κ Q) : zG C n0 d r pc L (va_rf x :: st) κ Q := y_qs hd hk rfl (K x rfl)
theorem y_inc {k : Nat} {n : Int} {x y : Int32} {L' : List (Option Value)} (hd : decode r.2.1 pc = .ok (.iinc k n, 3)) (hx : L[k]? = some (some (.int x))) (hk : k < r.2.2.1) (hy : x + Int32.ofInt n = y) (hL : lset1 L k (.int y) = L') (K : zG C n0 d r (pc + 3) L' st κ Q) : zG C n0 d r pc L st κ Q := y_pl (F := fun lo => dset1 lo k (.int y)) hd rfl (fun lo hl => by
  show dinc 3 pc r.2.2.1 k n lo st = _
  unfold dinc
  rw [hl _ _ hx]
  simp only [hk, and_self, if_true, hy]) (fun lo hl => by rw [← hL]; exact lA_set1 hl) K
theorem y_incb {k : Nat} {n : Int} {x m : Int32} (hd : decode r.2.1 pc = .ok (.iinc k n, 3)) (hm : Int32.ofInt n = m) (hx : L[k]? = some (some (.int x))) (hk : k < r.2.2.1) (K : ∀ y, y = x + m → zG C n0 d r (pc + 3) (lset1 L k (.int y)) st κ Q) : zG C n0 d r pc L st κ Q := y_inc hd hx hk (by rw [hm]) rfl (K (x + m) rfl)
theorem y_ii {c : ClassFile.Cond} {off : Int} {t : Nat} {x y : Int32} (P : Prop) [Decidable P] (hd : decode r.2.1 pc = .ok (.if_icmp c off, 3)) (ht : dto pc off = some t) (hP : dcnd c x y = decide P) (K1 : P → zG C n0 d r t L st κ Q) (K2 : ¬ P → zG C n0 d r (pc + 3) L st κ Q) : zG C n0 d r pc L (.int y :: .int x :: st) κ Q := by
  by_cases h : P
  · refine y_p hd rfl (fun lo => ?_) (K1 h)
    show dif 3 pc lo st off (dcnd c x y) = _
    unfold dif
    rw [hP, ht, decide_eq_true h]; rfl
  · refine y_p hd rfl (fun lo => ?_) (K2 h)
    show dif 3 pc lo st off (dcnd c x y) = _
    unfold dif
    rw [hP, ht, decide_eq_false h]; rfl
theorem y_iin {c : ClassFile.Cond} {off : Int} {t : Nat} {x y : Int32} (P : Prop) [Decidable P] (hd : decode r.2.1 pc = .ok (.if_icmp c off, 3)) (ht : dto pc off = some t) (hP : dcnd c x y = decide (¬ P)) (K1 : ¬ P → zG C n0 d r t L st κ Q) (K2 : P → zG C n0 d r (pc + 3) L st κ Q) : zG C n0 d r pc L (.int y :: .int x :: st) κ Q := y_ii (¬ P) hd ht hP K1 (fun h => K2 (Decidable.not_not.mp h))
theorem y_i {c : ClassFile.Cond} {off : Int} {t : Nat} {x : Int32} (P : Prop) [Decidable P] (hd : decode r.2.1 pc = .ok (.ifCond c off, 3)) (ht : dto pc off = some t) (hP : dcnd c x 0 = decide P) (K1 : P → zG C n0 d r t L st κ Q) (K2 : ¬ P → zG C n0 d r (pc + 3) L st κ Q) : zG C n0 d r pc L (.int x :: st) κ Q := by
  by_cases h : P
  · refine y_p hd rfl (fun lo => ?_) (K1 h)
    show dif 3 pc lo st off (dcnd c x 0) = _
    unfold dif
    rw [hP, ht, decide_eq_true h]; rfl
  · refine y_p hd rfl (fun lo => ?_) (K2 h)
    show dif 3 pc lo st off (dcnd c x 0) = _
    unfold dif
    rw [hP, ht, decide_eq_false h]; rfl
theorem y_in {c : ClassFile.Cond} {off : Int} {t : Nat} {x : Int32} (P : Prop) [Decidable P] (hd : decode r.2.1 pc = .ok (.ifCond c off, 3)) (ht : dto pc off = some t) (hP : dcnd c x 0 = decide (¬ P)) (K1 : ¬ P → zG C n0 d r t L st κ Q) (K2 : P → zG C n0 d r (pc + 3) L st κ Q) : zG C n0 d r pc L (.int x :: st) κ Q := y_i (¬ P) hd ht hP K1 (fun h => K2 (Decidable.not_not.mp h))
theorem y_nl {off : Int} {t : Nat} {x : Option Nat} (hd : decode r.2.1 pc = .ok (.ifnull off, 3)) (ht : dto pc off = some t) (K1 : x = none → zG C n0 d r t L st κ Q) (K2 : ∀ v, x = some v → zG C n0 d r (pc + 3) L st κ Q) : zG C n0 d r pc L (va_rf x :: st) κ Q := by
  cases x with
  | none =>
    refine y_p hd rfl (fun lo => ?_) (K1 rfl)
    show dif 3 pc lo st off true = _
    unfold dif; rw [ht]; rfl
  | some v =>
    refine y_p hd rfl (fun lo => ?_) (K2 v rfl)
    show dif 3 pc lo st off (!true) = _
    unfold dif; rw [ht]; rfl
theorem y_nn {off : Int} {t : Nat} {x : Option Nat} (hd : decode r.2.1 pc = .ok (.ifnonnull off, 3)) (ht : dto pc off = some t) (K1 : ∀ v, x = some v → zG C n0 d r t L st κ Q) (K2 : x = none → zG C n0 d r (pc + 3) L st κ Q) : zG C n0 d r pc L (va_rf x :: st) κ Q := by
  cases x with
  | none =>
    refine y_p hd rfl (fun lo => ?_) (K2 rfl)
    show dif 3 pc lo st off false = _
    unfold dif; rw [ht]; rfl
  | some v =>
    refine y_p hd rfl (fun lo => ?_) (K1 v rfl)
    show dif 3 pc lo st off (!false) = _
    unfold dif; rw [ht]; rfl
theorem y_swd {dflt low hi : Int} {offs : Array Int} {len t : Nat} {x : Int32} (hd : decode r.2.1 pc = .ok (.tableswitch dflt low hi offs, len)) (hx : x.toInt < low ∨ hi < x.toInt) (ht : dto pc dflt = some t) (K : zG C n0 d r t L st κ Q) : zG C n0 d r pc L (.int x :: st) κ Q := by
  refine y_p hd rfl (fun lo => ?_) K
  show dsw pc lo st dflt low hi offs x = _
  unfold dsw
  rw [if_pos hx, ht]; rfl
theorem y_div {x y : Int32} (hd : decode r.2.1 pc = .ok (.idiv, 1)) (hy : ¬ y = 0) (K : zG C n0 d r (pc + 1) L (.int (x / y) :: st) κ Q) : zG C n0 d r pc L (.int y :: .int x :: st) κ Q := by
  refine y_p hd rfl (fun lo => ?_) K
  show dbin 1 pc lo (.int y :: .int x :: st) (fun x y => if y = 0 then none else some (x / y)) = _
  unfold dbin
  simp only [hy, if_false, if_true, Option.map]
theorem y_rem {x y : Int32} (hd : decode r.2.1 pc = .ok (.irem, 1)) (hy : ¬ y = 0) (K : zG C n0 d r (pc + 1) L (.int (x - x / y * y) :: st) κ Q) : zG C n0 d r pc L (.int y :: .int x :: st) κ Q := by
  refine y_p hd rfl (fun lo => ?_) K
  show dbin 1 pc lo (.int y :: .int x :: st) (fun x y => if y = 0 then none else some (x - x / y * y)) = _
  unfold dbin
  simp only [hy, if_false, if_true, Option.map]
theorem y_ldiv {x y : Int64} (hd : decode r.2.1 pc = .ok (.ldiv, 1)) (hy : ¬ y = 0) (K : zG C n0 d r (pc + 1) L (.long (x / y) :: st) κ Q) : zG C n0 d r pc L (.long y :: .long x :: st) κ Q := by
  refine y_p hd rfl (fun lo => ?_) K
  show dbinL 1 pc lo (.long y :: .long x :: st) (fun x y => if y = 0 then none else some (x / y)) = _
  unfold dbinL
  simp only [hy, if_false, if_true, Option.map]
theorem y_lrem {x y : Int64} (hd : decode r.2.1 pc = .ok (.lrem, 1)) (hy : ¬ y = 0) (K : zG C n0 d r (pc + 1) L (.long (x - x / y * y) :: st) κ Q) : zG C n0 d r pc L (.long y :: .long x :: st) κ Q := by
  refine y_p hd rfl (fun lo => ?_) K
  show dbinL 1 pc lo (.long y :: .long x :: st) (fun x y => if y = 0 then none else some (x - x / y * y)) = _
  unfold dbinL
  simp only [hy, if_false, if_true, Option.map]
theorem y_ic {n : Int} {x : Int32} (hd : decode r.2.1 pc = .ok (.iconst n, 1)) (hx : Int32.ofInt n = x) (K : zG C n0 d r (pc + 1) L (.int x :: st) κ Q) : zG C n0 d r pc L st κ Q := by
  subst hx; exact y_p hd rfl (fun _ => rfl) K
theorem y_bi1 {n : Int} {x : Int32} (hd : decode r.2.1 pc = .ok (.bipush n, 2)) (hx : (Int8.ofInt n).toInt32 = x) (K : zG C n0 d r (pc + 2) L (.int x :: st) κ Q) : zG C n0 d r pc L st κ Q := by
  subst hx; exact y_p hd rfl (fun _ => rfl) K
theorem y_si {n : Int} {x : Int32} (hd : decode r.2.1 pc = .ok (.sipush n, 3)) (hx : (Int16.ofInt n).toInt32 = x) (K : zG C n0 d r (pc + 3) L (.int x :: st) κ Q) : zG C n0 d r pc L st κ Q := by
  subst hx; exact y_p hd rfl (fun _ => rfl) K
theorem y_lc {n} {x : Int64} (hd : decode r.2.1 pc = .ok (.lconst n, 1)) (hx : Int64.ofNat (n : Nat) = x) (K : zG C n0 d r (pc + 1) L (.long x :: st) κ Q) : zG C n0 d r pc L st κ Q := by
  subst hx; exact y_p hd rfl (fun _ => rfl) K
theorem y_iadd {x y : Int32} (hd : decode r.2.1 pc = .ok (.iadd, 1)) (K : zG C n0 d r (pc + 1) L (.int (x + y) :: st) κ Q) : zG C n0 d r pc L (.int y :: .int x :: st) κ Q := y_p hd rfl (fun _ => rfl) K
theorem y_isub {x y : Int32} (hd : decode r.2.1 pc = .ok (.isub, 1)) (K : zG C n0 d r (pc + 1) L (.int (x - y) :: st) κ Q) : zG C n0 d r pc L (.int y :: .int x :: st) κ Q := y_p hd rfl (fun _ => rfl) K
theorem y_imul {x y : Int32} (hd : decode r.2.1 pc = .ok (.imul, 1)) (K : zG C n0 d r (pc + 1) L (.int (x * y) :: st) κ Q) : zG C n0 d r pc L (.int y :: .int x :: st) κ Q := y_p hd rfl (fun _ => rfl) K
theorem y_iand {x y : Int32} (hd : decode r.2.1 pc = .ok (.iand, 1)) (K : zG C n0 d r (pc + 1) L (.int (x &&& y) :: st) κ Q) : zG C n0 d r pc L (.int y :: .int x :: st) κ Q := y_p hd rfl (fun _ => rfl) K
theorem y_ior {x y : Int32} (hd : decode r.2.1 pc = .ok (.ior, 1)) (K : zG C n0 d r (pc + 1) L (.int (x ||| y) :: st) κ Q) : zG C n0 d r pc L (.int y :: .int x :: st) κ Q := y_p hd rfl (fun _ => rfl) K
theorem y_ishl {x y : Int32} (hd : decode r.2.1 pc = .ok (.ishl, 1)) (K : zG C n0 d r (pc + 1) L (.int (x <<< (y &&& 31)) :: st) κ Q) : zG C n0 d r pc L (.int y :: .int x :: st) κ Q := y_p hd rfl (fun _ => rfl) K
theorem y_ishr {x y : Int32} (hd : decode r.2.1 pc = .ok (.ishr, 1)) (K : zG C n0 d r (pc + 1) L (.int (x >>> (y &&& 31)) :: st) κ Q) : zG C n0 d r pc L (.int y :: .int x :: st) κ Q := y_p hd rfl (fun _ => rfl) K
theorem y_iushr {x y : Int32} (hd : decode r.2.1 pc = .ok (.iushr, 1)) (K : zG C n0 d r (pc + 1) L (.int (x.toUInt32 >>> (y.toUInt32 &&& Int32.toUInt32 31)).toInt32 :: st) κ Q) : zG C n0 d r pc L (.int y :: .int x :: st) κ Q := y_p hd rfl (fun _ => rfl) K
theorem y_ineg {x : Int32} (hd : decode r.2.1 pc = .ok (.ineg, 1)) (K : zG C n0 d r (pc + 1) L (.int (-x) :: st) κ Q) : zG C n0 d r pc L (.int x :: st) κ Q := y_p hd rfl (fun _ => rfl) K
theorem y_i2l {x : Int32} (hd : decode r.2.1 pc = .ok (.i2l, 1)) (K : zG C n0 d r (pc + 1) L (.long x.toInt64 :: st) κ Q) : zG C n0 d r pc L (.int x :: st) κ Q := y_p hd rfl (fun _ => rfl) K
theorem y_i2b {x : Int32} (hd : decode r.2.1 pc = .ok (.i2b, 1)) (K : zG C n0 d r (pc + 1) L (.int x.toInt8.toInt32 :: st) κ Q) : zG C n0 d r pc L (.int x :: st) κ Q := y_p hd rfl (fun _ => rfl) K
theorem y_l2i {x : Int64} (hd : decode r.2.1 pc = .ok (.l2i, 1)) (K : zG C n0 d r (pc + 1) L (.int x.toInt32 :: st) κ Q) : zG C n0 d r pc L (.long x :: st) κ Q := y_p hd rfl (fun _ => rfl) K
theorem y_lneg {x : Int64} (hd : decode r.2.1 pc = .ok (.lneg, 1)) (K : zG C n0 d r (pc + 1) L (.long (-x) :: st) κ Q) : zG C n0 d r pc L (.long x :: st) κ Q := y_p hd rfl (fun _ => rfl) K
theorem y_ladd {x y : Int64} (hd : decode r.2.1 pc = .ok (.ladd, 1)) (K : zG C n0 d r (pc + 1) L (.long (x + y) :: st) κ Q) : zG C n0 d r pc L (.long y :: .long x :: st) κ Q := y_p hd rfl (fun _ => rfl) K
theorem y_lsub {x y : Int64} (hd : decode r.2.1 pc = .ok (.lsub, 1)) (K : zG C n0 d r (pc + 1) L (.long (x - y) :: st) κ Q) : zG C n0 d r pc L (.long y :: .long x :: st) κ Q := y_p hd rfl (fun _ => rfl) K
theorem y_lmul {x y : Int64} (hd : decode r.2.1 pc = .ok (.lmul, 1)) (K : zG C n0 d r (pc + 1) L (.long (x * y) :: st) κ Q) : zG C n0 d r pc L (.long y :: .long x :: st) κ Q := y_p hd rfl (fun _ => rfl) K
theorem y_land {x y : Int64} (hd : decode r.2.1 pc = .ok (.land, 1)) (K : zG C n0 d r (pc + 1) L (.long (x &&& y) :: st) κ Q) : zG C n0 d r pc L (.long y :: .long x :: st) κ Q := y_p hd rfl (fun _ => rfl) K
theorem y_lor {x y : Int64} (hd : decode r.2.1 pc = .ok (.lor, 1)) (K : zG C n0 d r (pc + 1) L (.long (x ||| y) :: st) κ Q) : zG C n0 d r pc L (.long y :: .long x :: st) κ Q := y_p hd rfl (fun _ => rfl) K
theorem y_lshl {x : Int64} {y : Int32} (hd : decode r.2.1 pc = .ok (.lshl, 1)) (K : zG C n0 d r (pc + 1) L (.long (x <<< (y.toInt64 &&& 63)) :: st) κ Q) : zG C n0 d r pc L (.int y :: .long x :: st) κ Q := y_p hd rfl (fun _ => rfl) K
theorem y_lushr {x : Int64} {y : Int32} (hd : decode r.2.1 pc = .ok (.lushr, 1)) (K : zG C n0 d r (pc + 1) L (.long (x.toUInt64 >>> (y.toInt64.toUInt64 &&& Int64.toUInt64 63)).toInt64 :: st) κ Q) : zG C n0 d r pc L (.int y :: .long x :: st) κ Q := y_p hd rfl (fun _ => rfl) K
theorem y_lcmp {x y : Int64} (hd : decode r.2.1 pc = .ok (.lcmp, 1)) (K : zG C n0 d r (pc + 1) L (.int (lg_cmp x y) :: st) κ Q) : zG C n0 d r pc L (.long y :: .long x :: st) κ Q := y_p hd rfl (fun _ => rfl) K
theorem y_dup {v : Value} (hd : decode r.2.1 pc = .ok (.dup, 1)) (hv : v.category = 1) (K : zG C n0 d r (pc + 1) L (v :: v :: st) κ Q) : zG C n0 d r pc L (v :: st) κ Q := y_p hd rfl (fun lo => by show ddup 1 pc lo (v :: st) = _; unfold ddup; simp only [hv, and_self, if_true]) K
theorem y_pop {v : Value} (hd : decode r.2.1 pc = .ok (.pop, 1)) (hv : v.category = 1) (K : zG C n0 d r (pc + 1) L st κ Q) : zG C n0 d r pc L (v :: st) κ Q := y_p hd rfl (fun lo => by show dpop 1 pc lo (v :: st) = _; unfold dpop; simp only [hv, and_self, if_true]) K
theorem y_dup2 {v w : Value} (hd : decode r.2.1 pc = .ok (.dup2, 1)) (hv : v.category = 1) (hw : w.category = 1) (K : zG C n0 d r (pc + 1) L (v :: w :: v :: w :: st) κ Q) : zG C n0 d r pc L (v :: w :: st) κ Q := y_p hd rfl (fun lo => by show ddup2 1 pc lo (v :: w :: st) = _; unfold ddup2; simp only [hv, hw, and_self, if_true]) K
theorem y_goto {off : Int} {t : Nat} (hd : decode r.2.1 pc = .ok (.goto off, 3)) (ht : dto pc off = some t) (K : zG C n0 d r t L st κ Q) : zG C n0 d r pc L st κ Q := y_p hd rfl (fun lo => by show dif 3 pc lo st off true = _; unfold dif; rw [ht]; rfl) K
theorem y_ixor {x y : Int32} (hd : decode r.2.1 pc = .ok (.ixor, 1)) (K : zG C n0 d r (pc + 1) L (.int (x ^^^ y) :: st) κ Q) : zG C n0 d r pc L (.int y :: .int x :: st) κ Q := y_p hd rfl (fun _ => rfl) K
theorem y_i2c {x : Int32} (hd : decode r.2.1 pc = .ok (.i2c, 1)) (K : zG C n0 d r (pc + 1) L (.int (x.toUInt32 % 65536).toInt32 :: st) κ Q) : zG C n0 d r pc L (.int x :: st) κ Q := y_p hd rfl (fun _ => rfl) K
theorem y_lshr {x : Int64} {y : Int32} (hd : decode r.2.1 pc = .ok (.lshr, 1)) (K : zG C n0 d r (pc + 1) L (.long (x >>> (y.toInt64 &&& 63)) :: st) κ Q) : zG C n0 d r pc L (.int y :: .long x :: st) κ Q := y_p hd rfl (fun _ => rfl) K
theorem y_null (hd : decode r.2.1 pc = .ok (.aconst_null, 1)) (K : zG C n0 d r (pc + 1) L (va_rf none :: st) κ Q) : zG C n0 d r pc L st κ Q := y_p hd rfl (fun _ => rfl) K
end SY
