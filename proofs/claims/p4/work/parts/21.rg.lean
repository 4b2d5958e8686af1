/-! the rows of the reference: field, type, length -/
def ROWS13 : List (Nat × Nat × Nat) := [(1, 1, 65536), (5, 1, 131074), (6, 0, 131074), (7, 0, 131074), (8, 2, 131074), (9, 0, 131074), (20, 0, 10), (21, 0, 10), (22, 0, 3), (23, 0, 3), (24, 0, 3), (25, 0, 10), (26, 0, 10), (27, 0, 10), (28, 0, 80), (29, 0, 10), (30, 0, 150), (31, 0, 150), (32, 0, 150), (33, 0, 150), (34, 0, 150), (35, 0, 150), (36, 0, 150), (37, 0, 150), (38, 0, 150), (39, 0, 131074), (43, 0, 64), (44, 0, 64), (45, 3, 64), (50, 0, 66000), (51, 0, 66000), (52, 0, 66000), (54, 0, 2048), (56, 0, 8), (57, 0, 34), (59, 0, 12), (60, 0, 96), (64, 0, 64), (65, 0, 64), (68, 0, 4), (73, 0, 143000), (74, 0, 1000), (75, 0, 35000), (76, 0, 1001), (77, 0, 20000), (78, 0, 20000), (79, 0, 20000), (80, 0, 1000), (81, 3, 1000), (82, 0, 1000), (83, 0, 1000), (84, 0, 143), (86, 2, 16000), (87, 3, 1000), (90, 0, 1200000), (91, 0, 30), (93, 0, 566000), (95, 3, 1000), (96, 3, 1000), (97, 0, 1000), (98, 0, 1000), (99, 0, 1000), (101, 0, 1000), (102, 0, 34000), (105, 0, 200), (111, 0, 34), (115, 0, 34000), (116, 0, 1000), (117, 0, 34000), (118, 0, 1000), (119, 0, 1000), (120, 3, 1000), (121, 0, 1000), (122, 0, 1000), (123, 0, 1000)]
/-! the reference's object and its rows in one form: scalars, longs, rows of ints (bytes, booleans too), rows of longs; the object at o, row k at ad k -/
abbrev rS : Type := (Nat → Int32) × (Nat → Int64) × (Nat → Nat → Int32) × (Nat → Nat → Int64)
/-- the type of row k (as the small machine numbers types), and its length -/
def rT : Nat → Option (Nat × Nat) := fun k => (ROWS13.lookup k)
def rV (ad : Nat → Nat) (σ : rS) (k : Nat) : Value := if (rT k).isSome then .ref (ad k) else if k = 110 ∨ k = 112 then .long (σ.2.1 k) else .int (σ.1 k)
def rF (ad : Nat → Nat) (σ : rS) : List Value := (List.range 126).map (rV ad σ)
def rRow (σ : rS) (k : Nat) (q : Nat × Nat) : dC := if q.1 = 2 then .inl (2, q.2, .inr (.inl (σ.2.2.2 k))) else .inl (q.1, q.2, .inl (σ.2.2.1 k))
/-- the heap: hb beside -/
def rH (hb : dH) (o : Nat) (ad : Nat → Nat) (σ : rS) : dH := (hb.1, fun a => if a = o then some (.inr (16, rF ad σ)) else match (ROWS13.find? fun q => ad q.1 == a) with
  | some q => some (rRow σ q.1 q.2)
  | none => hb.2 a)
/-- addresses apart, from b on -/
def rA (b o : Nat) (ad : Nat → Nat) : Prop := b ≤ o ∧ (∀ k q, rT k = some q → b ≤ ad k ∧ ad k ≠ o) ∧ ∀ k k' q q', rT k = some q → rT k' = some q' → ad k = ad k' → k = k'
theorem r_lk {l : List (Nat × Nat × Nat)} {k : Nat} {q : Nat × Nat} (h : l.lookup k = some q) : (k, q) ∈ l := d_lk h
theorem r_nodup : (ROWS13.map fun q => q.1).Nodup := by decide +kernel
theorem r_lk2 : ∀ q ∈ ROWS13, rT q.1 = some q.2 := by decide +kernel
theorem rH_row {b o : Nat} {ad : Nat → Nat} (hA : rA b o ad) {hb : dH} {σ : rS} {k : Nat} {q : Nat × Nat} (hk : rT k = some q) : (rH hb o ad σ).2 (ad k) = some (rRow σ k q) := by
  have hne : ¬ ad k = o := (hA.2.1 k q hk).2
  show (if ad k = o then _ else _) = _
  rw [if_neg hne]
  have hm : (k, q) ∈ ROWS13 := r_lk hk
  cases hf : ROWS13.find? (fun z => ad z.1 == ad k) with
  | none =>
    have := List.find?_eq_none.mp hf (k, q) hm
    simp at this
  | some z =>
    have h1 : z ∈ ROWS13 := List.mem_of_find?_eq_some hf
    have h2 : ad z.1 = ad k := by simpa using List.find?_some hf
    have h3 := r_lk2 z h1
    have h4 := hA.2.2 z.1 k z.2 q h3 hk h2
    have h5 : z.2 = q := by rw [h4, hk] at h3; exact (Option.some.inj h3).symm
    dsimp only
    rw [h4, h5]
theorem rH_obj {hb : dH} {o : Nat} {ad : Nat → Nat} {σ : rS} : (rH hb o ad σ).2 o = some (.inr (16, rF ad σ)) := by
  show (if o = o then _ else _) = _
  rw [if_pos rfl]
theorem rF_at {ad : Nat → Nat} {σ : rS} {k : Nat} (hk : k < 126) : (rF ad σ)[k]? = some (rV ad σ k) := by
  unfold rF
  rw [List.getElem?_map, List.getElem?_range hk]
  rfl
def siU (σ : rS) (k : Nat) (x : Int32) : rS := (fun j => if j = k then x else σ.1 j, σ.2)
def slU (σ : rS) (k : Nat) (x : Int64) : rS := (σ.1, fun j => if j = k then x else σ.2.1 j, σ.2.2)
def riU (σ : rS) (k i : Nat) (x : Int32) : rS := (σ.1, σ.2.1, fun j => if j = k then upd (σ.2.2.1 k) i x else σ.2.2.1 j, σ.2.2.2)
def rlU (σ : rS) (k i : Nat) (x : Int64) : rS := (σ.1, σ.2.1, σ.2.2.1, fun j => if j = k then vp_updL (σ.2.2.2 k) i x else σ.2.2.2 j)
theorem rF_set {ad : Nat → Nat} {σ σ' : rS} {k : Nat} {v : Value} (hv : rV ad σ' k = v) (ho : ∀ j, j ≠ k → rV ad σ' j = rV ad σ j) : (rF ad σ).set k v = rF ad σ' := by
  apply List.ext_getElem?
  intro j
  by_cases hj : j < 126
  · by_cases e : j = k
    · subst e
      rw [List.getElem?_set_self (by unfold rF; simp; exact hj), rF_at hj, hv]
    · rw [List.getElem?_set_ne (fun h => e h.symm), rF_at hj, rF_at hj, ho j e]
  · rw [List.getElem?_eq_none (by unfold rF; simp; omega), List.getElem?_eq_none (by unfold rF; simp; omega)]
theorem rH_eq {h1 h2 : dH} (h : h1.1 = h2.1) (h' : ∀ a, h1.2 a = h2.2 a) : h1 = h2 := Prod.ext h (funext h')
theorem rH_put {b o : Nat} {ad : Nat → Nat} {hb : dH} {σ σ' : rS} {k : Nat} {v : Value} (hv : rV ad σ' k = v) (ho : ∀ j, j ≠ k → rV ad σ' j = rV ad σ j) (hr : σ'.2.2 = σ.2.2) : dupd (rH hb o ad σ) o (.inr (16, (rF ad σ).set k v)) = rH hb o ad σ' := by
  refine rH_eq rfl (fun a => ?_)
  show (if a = o then _ else (rH hb o ad σ).2 a) = _
  by_cases e : a = o
  · rw [if_pos e, e, rH_obj, rF_set hv ho]
  · rw [if_neg e]
    show (if a = o then _ else _) = (if a = o then _ else _)
    rw [if_neg e, if_neg e]
    cases ROWS13.find? (fun z => ad z.1 == a) with
    | none => rfl
    | some z => show some (rRow σ z.1 z.2) = some (rRow σ' z.1 z.2); unfold rRow; rw [hr]
theorem rH_ast {b o : Nat} {ad : Nat → Nat} (hA : rA b o ad) {hb : dH} {σ σ' : rS} {k : Nat} {q : Nat × Nat} (hk : rT k = some q) (h1 : σ'.1 = σ.1) (h2 : σ'.2.1 = σ.2.1) (ho : ∀ j, j ≠ k → σ'.2.2.1 j = σ.2.2.1 j ∧ σ'.2.2.2 j = σ.2.2.2 j) : dupd (rH hb o ad σ) (ad k) (rRow σ' k q) = rH hb o ad σ' := by
  have hf : rF ad σ' = rF ad σ := by
    unfold rF
    have : rV ad σ' = rV ad σ := by funext j; unfold rV; rw [h1, h2]
    rw [this]
  refine rH_eq rfl (fun a => ?_)
  show (if a = ad k then _ else (rH hb o ad σ).2 a) = _
  by_cases e : a = ad k
  · rw [if_pos e, e, rH_row hA hk]
  · rw [if_neg e]
    show (if a = o then _ else _) = (if a = o then _ else _)
    by_cases e2 : a = o
    · rw [if_pos e2, if_pos e2, hf]
    · rw [if_neg e2, if_neg e2]
      cases hz : ROWS13.find? (fun z => ad z.1 == a) with
      | none => rfl
      | some z =>
        have h3 : ad z.1 = a := by simpa using List.find?_some hz
        have h4 : z.1 ≠ k := fun h => e (by rw [← h3, h])
        obtain ⟨g1, g2⟩ := ho z.1 h4
        show some (rRow σ z.1 z.2) = some (rRow σ' z.1 z.2)
        unfold rRow
        rw [g1, g2]
