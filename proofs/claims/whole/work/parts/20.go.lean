section
/-! runs without their fuel -/
def dGo (E : dE) (b d : Nat) (r : dM) (pc : Nat) (lo : dL0) (st : List Value) (h : dH) (cs ss : Nat) (z : dZ) : Prop := ∃ n, drun E b n d r pc lo st h cs ss = some z
section DGO
variable {E : dE} {b d : Nat} {r : dM} {pc : Nat} {lo : dL0} {st : List Value} {h : dH} {cs ss : Nat} {z : dZ} {i : Instr} {len : Nat}
theorem drun_pure {n : Nat} {w : dP} (hd : decode r.2.1 pc = .ok (i, len)) (hw : dpure i len pc r.2.2.1 lo st = some w) : drun E b (n + 1) d r pc lo st h cs ss = drun E b n d r w.1 w.2.1 w.2.2 h cs ss := by
  rw [drun, hd]; dsimp only; rw [hw]
theorem drun_heap {n : Nat} {g : dG} (hd : decode r.2.1 pc = .ok (i, len)) (h0 : dpure i len pc r.2.2.1 lo st = none) (hg : dheap E b d r i len st h cs ss = some g) : drun E b (n + 1) d r pc lo st h cs ss = drun E b n d r (pc + len) lo g.1 g.2.1 g.2.2.1 g.2.2.2 := by
  rw [drun, hd]; dsimp only; rw [h0]; dsimp only; rw [hg]
theorem drun_ret {n : Nat} {v : Option Value} (hd : decode r.2.1 pc = .ok (i, len)) (h0 : dpure i len pc r.2.2.1 lo st = none) (h1 : dheap E b d r i len st h cs ss = none) (hv : dret r i len st = some v) : drun E b (n + 1) d r pc lo st h cs ss = some (v, h, cs, ss) := by
  rw [drun, hd]; dsimp only; rw [h0]; dsimp only; rw [h1]; dsimp only; rw [hv]
theorem drun_call {n : Nat} {y : dV} {w : dZ} (hd : decode r.2.1 pc = .ok (i, len)) (h0 : dpure i len pc r.2.2.1 lo st = none) (h1 : dheap E b (d + 1) r i len st h cs ss = none) (h2 : dret r i len st = none) (hy : dinv E r.2.2.2.2.2.1 i len st h = some y) (hw : drun E b n d y.1 0 (dent y.2.1) [] h 0 0 = some w) : drun E b (n + 1) (d + 1) r pc lo st h cs ss = drun E b n (d + 1) r (pc + 3) lo (w.1.toList ++ y.2.2) w.2.1 (cs + w.2.2.1) (ss + w.2.2.2) := by
  rw [drun, hd]; dsimp only; rw [h0]; dsimp only; rw [h1]; dsimp only; rw [h2]; dsimp only; rw [hy]; dsimp only; rw [hw]
end DGO
theorem drun_split {E : dE} {b n d : Nat} {r : dM} {pc : Nat} {lo : dL0} {st : List Value} {h : dH} {cs ss : Nat} {z : dZ} (hh : drun E b (n + 1) d r pc lo st h cs ss = some z) : ∃ i len, decode r.2.1 pc = .ok (i, len) ∧
    ((∃ w, dpure i len pc r.2.2.1 lo st = some w ∧ drun E b n d r w.1 w.2.1 w.2.2 h cs ss = some z) ∨
     (∃ g, dpure i len pc r.2.2.1 lo st = none ∧ dheap E b d r i len st h cs ss = some g ∧ drun E b n d r (pc + len) lo g.1 g.2.1 g.2.2.1 g.2.2.2 = some z) ∨
     (∃ v, dpure i len pc r.2.2.1 lo st = none ∧ dheap E b d r i len st h cs ss = none ∧ dret r i len st = some v ∧ z = (v, h, cs, ss)) ∨
     (∃ d' y w, d = d' + 1 ∧ dpure i len pc r.2.2.1 lo st = none ∧ dheap E b (d' + 1) r i len st h cs ss = none ∧ dret r i len st = none ∧ dinv E r.2.2.2.2.2.1 i len st h = some y ∧ drun E b n d' y.1 0 (dent y.2.1) [] h 0 0 = some w ∧ drun E b n (d' + 1) r (pc + 3) lo (w.1.toList ++ y.2.2) w.2.1 (cs + w.2.2.1) (ss + w.2.2.2) = some z)) := by
  rw [drun] at hh
  cases hd : decode r.2.1 pc with
  | error x => rw [hd] at hh; cases hh
  | ok x =>
    obtain ⟨i, len⟩ := x
    rw [hd] at hh
    refine ⟨i, len, rfl, ?_⟩
    dsimp only at hh
    cases h1 : dpure i len pc r.2.2.1 lo st with
    | some w => rw [h1] at hh; exact Or.inl ⟨w, rfl, hh⟩
    | none =>
      rw [h1] at hh
      dsimp only at hh
      cases h2 : dheap E b d r i len st h cs ss with
      | some g => rw [h2] at hh; exact Or.inr (Or.inl ⟨g, rfl, rfl, hh⟩)
      | none =>
        rw [h2] at hh
        dsimp only at hh
        cases h3 : dret r i len st with
        | some v => rw [h3] at hh; cases hh; exact Or.inr (Or.inr (Or.inl ⟨v, rfl, rfl, rfl, rfl⟩))
        | none =>
          rw [h3] at hh
          dsimp only at hh
          cases d with
          | zero => cases hh
          | succ d =>
            dsimp only at hh
            cases h4 : dinv E r.2.2.2.2.2.1 i len st h with
            | none => rw [h4] at hh; cases hh
            | some y =>
              rw [h4] at hh
              dsimp only at hh
              cases h5 : drun E b n d y.1 0 (dent y.2.1) [] h 0 0 with
              | none => rw [h5] at hh; cases hh
              | some w => rw [h5] at hh; exact Or.inr (Or.inr (Or.inr ⟨d, y, w, rfl, rfl, h2, rfl, rfl, h5, hh⟩))
theorem drun_more {E : dE} {b : Nat} : ∀ (n d : Nat) (r : dM) (pc : Nat) (lo : dL0) (st : List Value) (h : dH) (cs ss : Nat) (z : dZ), drun E b n d r pc lo st h cs ss = some z → drun E b (n + 1) d r pc lo st h cs ss = some z := by
  intro n
  induction n with
  | zero => intro d r pc lo st h cs ss z hh; cases hh
  | succ n ih =>
    intro d r pc lo st h cs ss z hh
    obtain ⟨i, len, hd, ⟨w, h1, h2⟩ | ⟨g, h0, h1, h2⟩ | ⟨v, h0, h1, h2, rfl⟩ | ⟨d', y, w, rfl, h0, h1, h2, h3, h4, h5⟩⟩ := drun_split hh
    · rw [drun_pure hd h1]; exact ih _ _ _ _ _ _ _ _ _ h2
    · rw [drun_heap hd h0 h1]; exact ih _ _ _ _ _ _ _ _ _ h2
    · exact drun_ret hd h0 h1 h2
    · rw [drun_call hd h0 h1 h2 h3 (ih _ _ _ _ _ _ _ _ _ h4)]; exact ih _ _ _ _ _ _ _ _ _ h5
theorem drun_le {E : dE} {b n m d : Nat} {r : dM} {pc : Nat} {lo : dL0} {st : List Value} {h : dH} {cs ss : Nat} {z : dZ} (hle : n ≤ m) (hh : drun E b n d r pc lo st h cs ss = some z) : drun E b m d r pc lo st h cs ss = some z := by
  induction m with
  | zero => obtain rfl : n = 0 := by omega
            exact hh
  | succ m ih =>
    by_cases e : n = m + 1
    · subst e; exact hh
    · exact drun_more _ _ _ _ _ _ _ _ _ _ (ih (by omega))
section DGO2
variable {E : dE} {b d : Nat} {r : dM} {pc : Nat} {lo : dL0} {st : List Value} {h : dH} {cs ss : Nat} {z : dZ} {i : Instr} {len : Nat}
theorem go_pure {w : dP} (hd : decode r.2.1 pc = .ok (i, len)) (hw : dpure i len pc r.2.2.1 lo st = some w) (k : dGo E b d r w.1 w.2.1 w.2.2 h cs ss z) : dGo E b d r pc lo st h cs ss z := by
  obtain ⟨n, hn⟩ := k; exact ⟨n + 1, by rw [drun_pure hd hw]; exact hn⟩
theorem go_heap {g : dG} (hd : decode r.2.1 pc = .ok (i, len)) (h0 : dpure i len pc r.2.2.1 lo st = none) (hg : dheap E b d r i len st h cs ss = some g) (k : dGo E b d r (pc + len) lo g.1 g.2.1 g.2.2.1 g.2.2.2 z) : dGo E b d r pc lo st h cs ss z := by
  obtain ⟨n, hn⟩ := k; exact ⟨n + 1, by rw [drun_heap hd h0 hg]; exact hn⟩
theorem go_ret {v : Option Value} (hd : decode r.2.1 pc = .ok (i, len)) (h0 : dpure i len pc r.2.2.1 lo st = none) (h1 : dheap E b d r i len st h cs ss = none) (hv : dret r i len st = some v) : dGo E b d r pc lo st h cs ss (v, h, cs, ss) := ⟨1, drun_ret hd h0 h1 hv⟩
theorem go_call {y : dV} {w : dZ} (hd : decode r.2.1 pc = .ok (i, len)) (h0 : dpure i len pc r.2.2.1 lo st = none) (h1 : dheap E b (d + 1) r i len st h cs ss = none) (h2 : dret r i len st = none) (hy : dinv E r.2.2.2.2.2.1 i len st h = some y) (hw : dGo E b d y.1 0 (dent y.2.1) [] h 0 0 w) (k : dGo E b (d + 1) r (pc + 3) lo (w.1.toList ++ y.2.2) w.2.1 (cs + w.2.2.1) (ss + w.2.2.2) z) : dGo E b (d + 1) r pc lo st h cs ss z := by
  obtain ⟨n, hn⟩ := hw
  obtain ⟨n2, hn2⟩ := k
  refine ⟨max n n2 + 1, ?_⟩
  rw [drun_call hd h0 h1 h2 hy (drun_le (Nat.le_max_left _ _) hn)]
  exact drun_le (Nat.le_max_right _ _) hn2
end DGO2

end
section
/-! the rows of the reference: field, type, length -/
def ROWS13 : List (Nat × Nat × Nat) := [(1, 1, 65536), (5, 1, 131074), (6, 0, 131074), (7, 0, 131074), (8, 2, 131074), (9, 0, 131074), (20, 0, 10), (21, 0, 10), (22, 0, 3), (23, 0, 3), (24, 0, 3), (25, 0, 10), (26, 0, 10), (27, 0, 10), (28, 0, 80), (29, 0, 10), (30, 0, 150), (31, 0, 150), (32, 0, 150), (33, 0, 150), (34, 0, 150), (35, 0, 150), (36, 0, 150), (37, 0, 150), (38, 0, 150), (39, 0, 131074), (43, 0, 64), (44, 0, 64), (45, 3, 64), (50, 0, 66000), (51, 0, 66000), (52, 0, 66000), (54, 0, 2048), (56, 0, 8), (57, 0, 34), (59, 0, 12), (60, 0, 96), (64, 0, 64), (65, 0, 64), (68, 0, 4), (73, 0, 143000), (74, 0, 1000), (75, 0, 35000), (76, 0, 1001), (77, 0, 20000), (78, 0, 20000), (79, 0, 20000), (80, 0, 1000), (81, 3, 1000), (82, 0, 1000), (83, 0, 1000), (84, 0, 143), (86, 2, 16000), (87, 3, 1000), (90, 0, 1200000), (91, 0, 30), (93, 0, 566000), (95, 3, 1000), (96, 3, 1000), (97, 0, 1000), (98, 0, 1000), (99, 0, 1000), (101, 0, 1000), (102, 0, 34000), (105, 0, 200), (111, 0, 34), (115, 0, 34000), (116, 0, 1000), (117, 0, 34000), (118, 0, 1000), (119, 0, 1000), (120, 3, 1000), (121, 0, 1000), (122, 0, 1000), (123, 0, 1000)]
/-! the reference's object and its rows in one form: scalars, longs, rows of ints (bytes, booleans too), rows of longs; the object at o, row k at ad k -/
abbrev rS : Type := (Nat → Int32) × (Nat → Int64) × (Nat → Nat → Int32) × (Nat → Nat → Int64)
/-- the type of row k (as the small machine numbers types), and its length -/
def rT : Nat → Option (Nat × Nat) := fun k => (ROWS13.lookup k)
def rV (ad : Nat → Nat) (σ : rS) (k : Nat) : Value := if (rT k).isSome then .ref (ad k) else if k = 110 ∨ k = 112 then .long (σ.2.1 k) else .int (σ.1 k)
def rF (ad : Nat → Nat) (σ : rS) : List Value := (List.range 126).map (rV ad σ)
def rRow (σ : rS) (k : Nat) (q : Nat × Nat) : dC := if q.1 = 2 then .inl (2, q.2, .inr (.inl (σ.2.2.2 k))) else .inl (q.1, q.2, .inl (σ.2.2.1 k))
/-- the heap: hb beside -/
def rH (hb : dH) (o : Nat) (ad : Nat → Nat) (σ : rS) : dH := (hb.1, fun a => if a = o then some (.inr (16, rF ad σ)) else match (ROWS13.find? fun q => ad q.1 == a) with
  | some q => some (rRow σ q.1 q.2)
  | none => hb.2 a)
/-- addresses apart, from b on -/
def rA (b o : Nat) (ad : Nat → Nat) : Prop := b ≤ o ∧ (∀ k q, rT k = some q → b ≤ ad k ∧ ad k ≠ o) ∧ ∀ k k' q q', rT k = some q → rT k' = some q' → ad k = ad k' → k = k'
theorem r_lk {l : List (Nat × Nat × Nat)} {k : Nat} {q : Nat × Nat} (h : l.lookup k = some q) : (k, q) ∈ l := d_lk h
theorem r_nodup : (ROWS13.map fun q => q.1).Nodup := by decide +kernel
theorem r_lk2 : ∀ q ∈ ROWS13, rT q.1 = some q.2 := by decide +kernel
theorem rH_row {b o : Nat} {ad : Nat → Nat} (hA : rA b o ad) {hb : dH} {σ : rS} {k : Nat} {q : Nat × Nat} (hk : rT k = some q) : (rH hb o ad σ).2 (ad k) = some (rRow σ k q) := by
  have hne : ¬ ad k = o := (hA.2.1 k q hk).2
  show (if ad k = o then _ else _) = _
  rw [if_neg hne]
  have hm : (k, q) ∈ ROWS13 := r_lk hk
  cases hf : ROWS13.find? (fun z => ad z.1 == ad k) with
  | none =>
    have := List.find?_eq_none.mp hf (k, q) hm
    simp at this
  | some z =>
    have h1 : z ∈ ROWS13 := List.mem_of_find?_eq_some hf
    have h2 : ad z.1 = ad k := by simpa using List.find?_some hf
    have h3 := r_lk2 z h1
    have h4 := hA.2.2 z.1 k z.2 q h3 hk h2
    have h5 : z.2 = q := by rw [h4, hk] at h3; exact (Option.some.inj h3).symm
    dsimp only
    rw [h4, h5]
theorem rH_obj {hb : dH} {o : Nat} {ad : Nat → Nat} {σ : rS} : (rH hb o ad σ).2 o = some (.inr (16, rF ad σ)) := by
  show (if o = o then _ else _) = _
  rw [if_pos rfl]
theorem rF_at {ad : Nat → Nat} {σ : rS} {k : Nat} (hk : k < 126) : (rF ad σ)[k]? = some (rV ad σ k) := by
  unfold rF
  rw [List.getElem?_map, List.getElem?_range hk]
  rfl
def siU (σ : rS) (k : Nat) (x : Int32) : rS := (fun j => if j = k then x else σ.1 j, σ.2)
def slU (σ : rS) (k : Nat) (x : Int64) : rS := (σ.1, fun j => if j = k then x else σ.2.1 j, σ.2.2)
def riU (σ : rS) (k i : Nat) (x : Int32) : rS := (σ.1, σ.2.1, fun j => if j = k then upd (σ.2.2.1 k) i x else σ.2.2.1 j, σ.2.2.2)
def rlU (σ : rS) (k i : Nat) (x : Int64) : rS := (σ.1, σ.2.1, σ.2.2.1, fun j => if j = k then vp_updL (σ.2.2.2 k) i x else σ.2.2.2 j)
theorem rF_set {ad : Nat → Nat} {σ σ' : rS} {k : Nat} {v : Value} (hv : rV ad σ' k = v) (ho : ∀ j, j ≠ k → rV ad σ' j = rV ad σ j) : (rF ad σ).set k v = rF ad σ' := by
  apply List.ext_getElem?
  intro j
  by_cases hj : j < 126
  · by_cases e : j = k
    · subst e
      rw [List.getElem?_set_self (by unfold rF; simp; exact hj), rF_at hj, hv]
    · rw [List.getElem?_set_ne (fun h => e h.symm), rF_at hj, rF_at hj, ho j e]
  · rw [List.getElem?_eq_none (by unfold rF; simp; omega), List.getElem?_eq_none (by unfold rF; simp; omega)]
theorem rH_eq {h1 h2 : dH} (h : h1.1 = h2.1) (h' : ∀ a, h1.2 a = h2.2 a) : h1 = h2 := Prod.ext h (funext h')
theorem rH_put {b o : Nat} {ad : Nat → Nat} {hb : dH} {σ σ' : rS} {k : Nat} {v : Value} (hv : rV ad σ' k = v) (ho : ∀ j, j ≠ k → rV ad σ' j = rV ad σ j) (hr : σ'.2.2 = σ.2.2) : dupd (rH hb o ad σ) o (.inr (16, (rF ad σ).set k v)) = rH hb o ad σ' := by
  refine rH_eq rfl (fun a => ?_)
  show (if a = o then _ else (rH hb o ad σ).2 a) = _
  by_cases e : a = o
  · rw [if_pos e, e, rH_obj, rF_set hv ho]
  · rw [if_neg e]
    show (if a = o then _ else _) = (if a = o then _ else _)
    rw [if_neg e, if_neg e]
    cases ROWS13.find? (fun z => ad z.1 == a) with
    | none => rfl
    | some z => show some (rRow σ z.1 z.2) = some (rRow σ' z.1 z.2); unfold rRow; rw [hr]
theorem rH_ast {b o : Nat} {ad : Nat → Nat} (hA : rA b o ad) {hb : dH} {σ σ' : rS} {k : Nat} {q : Nat × Nat} (hk : rT k = some q) (h1 : σ'.1 = σ.1) (h2 : σ'.2.1 = σ.2.1) (ho : ∀ j, j ≠ k → σ'.2.2.1 j = σ.2.2.1 j ∧ σ'.2.2.2 j = σ.2.2.2 j) : dupd (rH hb o ad σ) (ad k) (rRow σ' k q) = rH hb o ad σ' := by
  have hf : rF ad σ' = rF ad σ := by
    unfold rF
    have : rV ad σ' = rV ad σ := by funext j; unfold rV; rw [h1, h2]
    rw [this]
  refine rH_eq rfl (fun a => ?_)
  show (if a = ad k then _ else (rH hb o ad σ).2 a) = _
  by_cases e : a = ad k
  · rw [if_pos e, e, rH_row hA hk]
  · rw [if_neg e]
    show (if a = o then _ else _) = (if a = o then _ else _)
    by_cases e2 : a = o
    · rw [if_pos e2, if_pos e2, hf]
    · rw [if_neg e2, if_neg e2]
      cases hz : ROWS13.find? (fun z => ad z.1 == a) with
      | none => rfl
      | some z =>
        have h3 : ad z.1 = a := by simpa using List.find?_some hz
        have h4 : z.1 ≠ k := fun h => e (by rw [← h3, h])
        obtain ⟨g1, g2⟩ := ho z.1 h4
        show some (rRow σ z.1 z.2) = some (rRow σ' z.1 z.2)
        unfold rRow
        rw [g1, g2]

end
section
/-! steps of the reference's methods over its own state -/
section RR
variable {sa : Nat → Nat} {TL : List (Nat × Nat × List Int32)} {b d : Nat} {r : dM} {pc : Nat} {lo : dL0} {st : List Value} {hb : dH} {o : Nat} {ad : Nat → Nat} {σ : rS} {cs ss : Nat} {z : dZ}
theorem rg_p {i : Instr} {len : Nat} {w : dP} (hd : decode r.2.1 pc = .ok (i, len)) (hw : dpure i len pc r.2.2.1 lo st = some w) (K : dGo (dEE sa TL) b d r w.1 w.2.1 w.2.2 (rH hb o ad σ) cs ss z) : dGo (dEE sa TL) b d r pc lo st (rH hb o ad σ) cs ss z := go_pure hd hw K
theorem rg_get {idx k : Nat} (hd : decode r.2.1 pc = .ok (.getfield idx, 3)) (ho : r.2.2.2.2.2.1 = 16) (hf : (tFL 16).lookup idx = some (16, k)) (hk : k < 126) {v : Value} (hv : rV ad σ k = v) (K : dGo (dEE sa TL) b d r (pc + 3) lo (v :: st) (rH hb o ad σ) cs ss z) : dGo (dEE sa TL) b d r pc lo (.ref o :: st) (rH hb o ad σ) cs ss z := by
  have h1 : dgetf (dEE sa TL) r.2.2.2.2.2.1 3 idx (.ref o :: st) (rH hb o ad σ) cs ss = some (v :: st, rH hb o ad σ, cs, ss) := by
    have hf' : eFL (dEE sa TL) 16 idx = some (16, k) := hf
    unfold dgetf
    simp only [rH_obj, ho, hf', rF_at hk, hv]
    rfl
  refine go_heap hd rfl (g := (v :: st, rH hb o ad σ, cs, ss)) ?_ K
  show dor (dgetf _ _ _ _ _ _ _ _) _ = _
  rw [h1]
  rfl
theorem rg_puti {idx k : Nat} {x : Int32} {ty : FieldType} (hA : rA b o ad) (hd : decode r.2.1 pc = .ok (.putfield idx, 3)) (ho : r.2.2.2.2.2.1 = 16) (hf : (tFL 16).lookup idx = some (16, k)) (hk : k < 126) (hT : rT k = none) (hl : ¬ (k = 110 ∨ k = 112)) (ht : tFT 16 k = some (ty, false)) (hn : narrow ty (.int x) = .int x) (hfit : fits ty (.int x) = true) (K : dGo (dEE sa TL) b d r (pc + 3) lo st (rH hb o ad (siU σ k x)) cs ss z) : dGo (dEE sa TL) b d r pc lo (.int x :: .ref o :: st) (rH hb o ad σ) cs ss z := by
  have he : dupd (rH hb o ad σ) o (.inr (16, (rF ad σ).set k (.int x))) = rH hb o ad (siU σ k x) := rH_put (b := b) (by unfold rV siU; rw [hT]; simp [hl]) (fun j hj => by unfold rV siU; simp [hj]) rfl
  have hlen : k < (rF ad σ).length := by unfold rF; simp; exact hk
  refine go_heap hd rfl (g := (st, rH hb o ad (siU σ k x), cs, ss)) ?_ K
  show dputf (dEE sa TL) b r.2.2.2.2.2.1 3 idx _ (.int x :: .ref o :: st) (rH hb o ad σ) cs ss = _
  have hf' : eFL (dEE sa TL) 16 idx = some (16, k) := hf
  have ht' : eFT (dEE sa TL) 16 k = some (ty, false) := ht
  unfold dputf
  simp only [rH_obj, ho, hf', ht']
  rw [if_pos ⟨trivial, hA.1, trivial, Or.inl trivial, hn, hfit, hlen⟩, he]
theorem rg_ild {k n : Nat} {i : Int32} (hA : rA b o ad) (hd : decode r.2.1 pc = .ok (.iaload, 1)) (hT : rT k = some (0, n)) (hin : ¬ (i < 0 ∨ n ≤ i.toNatClampNeg)) (K : dGo (dEE sa TL) b d r (pc + 1) lo (.int (σ.2.2.1 k i.toNatClampNeg) :: st) (rH hb o ad σ) cs ss z) : dGo (dEE sa TL) b d r pc lo (.int i :: .ref (ad k) :: st) (rH hb o ad σ) cs ss z := by
  refine go_heap hd rfl (g := (.int (σ.2.2.1 k i.toNatClampNeg) :: st, rH hb o ad σ, cs, ss)) ?_ K
  show daldI 0 1 (.int i :: .ref (ad k) :: st) (rH hb o ad σ) cs ss = _
  unfold daldI
  simp only [rH_row hA hT, rRow]
  simp [hin]
theorem rg_bld {k n : Nat} {i : Int32} (hA : rA b o ad) (hd : decode r.2.1 pc = .ok (.baload, 1)) (hT : rT k = some (1, n)) (hin : ¬ (i < 0 ∨ n ≤ i.toNatClampNeg)) (K : dGo (dEE sa TL) b d r (pc + 1) lo (.int (σ.2.2.1 k i.toNatClampNeg) :: st) (rH hb o ad σ) cs ss z) : dGo (dEE sa TL) b d r pc lo (.int i :: .ref (ad k) :: st) (rH hb o ad σ) cs ss z := by
  refine go_heap hd rfl (g := (.int (σ.2.2.1 k i.toNatClampNeg) :: st, rH hb o ad σ, cs, ss)) ?_ K
  show dor (daldI 1 1 (.int i :: .ref (ad k) :: st) (rH hb o ad σ) cs ss) _ = _
  have h1 : daldI 1 1 (.int i :: .ref (ad k) :: st) (rH hb o ad σ) cs ss = some (.int (σ.2.2.1 k i.toNatClampNeg) :: st, rH hb o ad σ, cs, ss) := by
    unfold daldI
    simp only [rH_row hA hT, rRow]
    simp [hin]
  rw [h1]
  rfl
theorem rg_ist {k n : Nat} {i x : Int32} (hA : rA b o ad) (hd : decode r.2.1 pc = .ok (.iastore, 1)) (hT : rT k = some (0, n)) (hin : ¬ (i < 0 ∨ n ≤ i.toNatClampNeg)) (K : dGo (dEE sa TL) b d r (pc + 1) lo st (rH hb o ad (riU σ k i.toNatClampNeg x)) cs ss z) : dGo (dEE sa TL) b d r pc lo (.int x :: .int i :: .ref (ad k) :: st) (rH hb o ad σ) cs ss z := by
  have he : dupd (rH hb o ad σ) (ad k) (rRow (riU σ k i.toNatClampNeg x) k (0, n)) = rH hb o ad (riU σ k i.toNatClampNeg x) := rH_ast hA hT rfl rfl (fun j hj => by unfold riU; simp [hj])
  have he2 : rRow (riU σ k i.toNatClampNeg x) k (0, n) = .inl (0, n, .inl (upd (σ.2.2.1 k) i.toNatClampNeg x)) := by unfold rRow riU; simp
  refine go_heap hd rfl (g := (st, rH hb o ad (riU σ k i.toNatClampNeg x), cs, ss)) ?_ K
  show dastI b 0 1 (fun x => x) (.int x :: .int i :: .ref (ad k) :: st) (rH hb o ad σ) cs ss = _
  have hb9 := (hA.2.1 k _ hT).1
  unfold dastI
  simp only [rH_row hA hT, rRow]
  rw [he2] at he
  simp [hin, hb9, he]
theorem rg_iret {x : Int32} {ty : FieldType} (hd : decode r.2.1 pc = .ok (.ireturn, 1)) (ht : r.2.2.2.1 = some ty) (hn : narrow ty (.int x) = .int x) : dGo (dEE sa TL) b d r pc lo [.int x] (rH hb o ad σ) cs ss (some (.int x), rH hb o ad σ, cs, ss) := by
  refine go_ret hd rfl rfl ?_
  unfold dret
  simp [ht, hn]
theorem rg_vret (hd : decode r.2.1 pc = .ok (.return_, 1)) (ht : r.2.2.2.1 = none) : dGo (dEE sa TL) b d r pc lo [] (rH hb o ad σ) cs ss (none, rH hb o ad σ, cs, ss) := by
  refine go_ret hd rfl rfl ?_
  unfold dret
  simp [ht]
/-- a method of the reference: from σ with these numbers it comes to v and σ', and makes nothing -/
def rM (sa : Nat → Nat) (TL : List (Nat × Nat × List Int32)) (b : Nat) (hb : dH) (o : Nat) (ad : Nat → Nat) (d : Nat) (r : dM) (as : List Value) (σ : rS) (v : Option Value) (σ' : rS) : Prop := dGo (dEE sa TL) b d r 0 (dent as) [] (rH hb o ad σ) 0 0 (v, rH hb o ad σ', 0, 0)
theorem rg_call {idx j : Nat} {r' : dM} {As rest : List Value} {v : Option Value} {σ' : rS} (hd : decode r.2.1 pc = .ok (.invokevirtual idx, 3)) (ho : r.2.2.2.2.2.1 = 16) (hm : (tML 16 ++ tMX 16).lookup idx = some j) (hj : MTs[j]? = some r') (hq : r'.2.2.2.2.1 = false ∧ r'.1.name ≠ "<init>" ∧ r'.2.2.2.2.2.1 = 16) (hn : As.length = r'.2.2.2.2.2.2) (hc : (rest.map fun v => v.category).sum ≤ 8) (hl : (lg_sl (.ref o :: As)).length ≤ r'.2.2.1) (hM : rM sa TL b hb o ad d r' (.ref o :: As) σ v σ') (K : dGo (dEE sa TL) b (d + 1) r (pc + 3) lo (v.toList ++ rest) (rH hb o ad σ') cs ss z) : dGo (dEE sa TL) b (d + 1) r pc lo (As.reverse ++ .ref o :: rest) (rH hb o ad σ) cs ss z := by
  have hdr : (As.reverse ++ Value.ref o :: rest).drop r'.2.2.2.2.2.2 = .ref o :: rest := by rw [← hn, ← List.length_reverse]; simp
  have htk : (As.reverse ++ Value.ref o :: rest).take r'.2.2.2.2.2.2 = As.reverse := by rw [← hn, ← List.length_reverse]; simp
  have hy : dinv (dEE sa TL) r.2.2.2.2.2.1 (.invokevirtual idx) 3 (As.reverse ++ .ref o :: rest) (rH hb o ad σ) = some (r', .ref o :: As, rest) := by
    show dinvV (dEE sa TL) r.2.2.2.2.2.1 3 idx _ _ = _
    have hm' : eML (dEE sa TL) 16 idx = some j := hm
    have hj' : eMT (dEE sa TL) j = some r' := hj
    unfold dinvV
    simp only [ho, hm', hj', hdr, htk, List.reverse_reverse]
    rw [if_pos ⟨trivial, hq.1, hq.2.1, by unfold drec; rw [rH_obj, hq.2.2]; rfl, hc, hl⟩]
  have K' : dGo (dEE sa TL) b (d + 1) r (pc + 3) lo (v.toList ++ rest) (rH hb o ad σ') (cs + 0) (ss + 0) z := K
  exact go_call hd rfl rfl rfl hy hM K'
end RR

end
section
/-! runs with more room for calls are the same -/
theorem dheap_up {E : dE} {b d : Nat} {r : dM} {i : Instr} {len : Nat} {st : List Value} {h : dH} {cs ss : Nat} : dheap E b (d + 1) r i len st h cs ss = dheap E b (d + 2) r i len st h cs ss := by
  have h1 : (1 ≤ d + 1) = True := eq_true (by omega)
  have h2 : (1 ≤ d + 2) = True := eq_true (by omega)
  cases i <;> try rfl
  all_goals (unfold dheap; dsimp only)
  · unfold doi doi0
    simp only [h1, h2]
  · unfold dbi dmin dmax dminL dabsL dcpy
    simp only [h1, h2]
theorem dheap_up0 {E : dE} {b : Nat} {r : dM} {i : Instr} {len : Nat} {st : List Value} {h : dH} {cs ss : Nat} {g : dG} (hh : dheap E b 0 r i len st h cs ss = some g) : dheap E b 1 r i len st h cs ss = some g := by
  have h1 : (1 ≤ 0) = False := eq_false (by omega)
  cases i <;> try exact hh
  · unfold dheap doi doi0 at hh
    simp only [h1, false_and, and_false, if_false] at hh
    split at hh
    · split at hh <;> cases hh
    · cases hh
  · unfold dheap dbi dmin dmax dminL dabsL dcpy at hh
    simp only [h1, false_and, and_false, if_false] at hh
    split at hh
    all_goals first
      | cases hh; done
      | (split at hh <;> first | (cases hh; done) | (split at hh <;> first | (cases hh; done) | (split at hh <;> cases hh)))
theorem drun_up {E : dE} {b : Nat} : ∀ (n d : Nat) (r : dM) (pc : Nat) (lo : dL0) (st : List Value) (h : dH) (cs ss : Nat) (z : dZ), drun E b n d r pc lo st h cs ss = some z → drun E b n (d + 1) r pc lo st h cs ss = some z := by
  intro n
  induction n with
  | zero => intro d r pc lo st h cs ss z hh; cases hh
  | succ n ih =>
    intro d r pc lo st h cs ss z hh
    obtain ⟨i, len, hd, ⟨w, h1, h2⟩ | ⟨g, h0, h1, h2⟩ | ⟨v, h0, h1, h2, rfl⟩ | ⟨d', y, w, rfl, h0, h1, h2, h3, h4, h5⟩⟩ := drun_split hh
    · rw [drun_pure hd h1]; exact ih _ _ _ _ _ _ _ _ _ h2
    · have h1' : dheap E b (d + 1) r i len st h cs ss = some g := by
        cases d with
        | zero => exact dheap_up0 h1
        | succ d => rw [← dheap_up]; exact h1
      rw [drun_heap hd h0 h1']; exact ih _ _ _ _ _ _ _ _ _ h2
    · have h1' : dheap E b (d + 1) r i len st h cs ss = none := by
        have hi : i = .ireturn ∨ i = .lreturn ∨ i = .areturn ∨ i = .return_ := by
          cases i <;> first | (cases h2; done) | simp
        rcases hi with rfl | rfl | rfl | rfl <;> rfl
      exact drun_ret hd h0 h1' h2
    · rw [drun_call hd h0 (by rw [← dheap_up]; exact h1) h2 h3 (ih _ _ _ _ _ _ _ _ _ h4)]; exact ih _ _ _ _ _ _ _ _ _ h5
theorem go_up {E : dE} {b d d' : Nat} {r : dM} {pc : Nat} {lo : dL0} {st : List Value} {h : dH} {cs ss : Nat} {z : dZ} (hle : d ≤ d') (hh : dGo E b d r pc lo st h cs ss z) : dGo E b d' r pc lo st h cs ss z := by
  induction d' with
  | zero => obtain rfl : d = 0 := by omega
            exact hh
  | succ m ih =>
    by_cases e : d = m + 1
    · subst e; exact hh
    · obtain ⟨n, hn⟩ := ih (by omega)
      exact ⟨n, drun_up _ _ _ _ _ _ _ _ _ _ hn⟩
/-! what is known of the locals -/
def lA (lo : dL0) (L : List (Option Value)) : Prop := ∀ j v, L[j]? = some (some v) → lo j = some v
def lkill (L : List (Option Value)) (i : Nat) : List (Option Value) := match i with
  | 0 => L
  | j + 1 => match L[j]? with
    | some (some w) => if w.category = 2 then L.set j none else L
    | _ => L
def lset1 (L : List (Option Value)) (i : Nat) (v : Value) : List (Option Value) := (lkill L i).set i (some v)
def lset2 (L : List (Option Value)) (i : Nat) (v : Value) : List (Option Value) := ((lkill L i).set i (some v)).set (i + 1) none
theorem lkill_at {L : List (Option Value)} {i j : Nat} {v : Value} (h : (lkill L i)[j]? = some (some v)) : L[j]? = some (some v) ∧ ¬ (j + 1 = i ∧ v.category = 2) := by
  cases i with
  | zero => exact ⟨h, by omega⟩
  | succ k =>
    unfold lkill at h
    dsimp only at h
    split at h
    next w hw =>
      by_cases e : w.category = 2
      · rw [if_pos e] at h
        by_cases ej : j = k
        · subst ej
          rw [List.getElem?_set_self' , hw] at h
          simp at h
        · rw [List.getElem?_set_ne (fun q => ej q.symm)] at h
          exact ⟨h, by omega⟩
      · rw [if_neg e] at h
        refine ⟨h, fun ⟨q1, q2⟩ => ?_⟩
        obtain rfl : j = k := by omega
        rw [hw] at h
        obtain rfl : w = v := by simpa using h
        exact e q2
    next hw =>
      refine ⟨h, fun ⟨q1, q2⟩ => ?_⟩
      obtain rfl : j = k := by omega
      exact hw v h
theorem lA_set1 {lo : dL0} {L : List (Option Value)} {i : Nat} {v : Value} (h : lA lo L) : lA (dset1 lo i v) (lset1 L i v) := by
  intro j w hw
  unfold lset1 at hw
  unfold dset1
  by_cases e : j = i
  · subst e
    rw [if_pos rfl]
    rw [List.getElem?_set_self'] at hw
    cases hq : (lkill L j)[j]? with
    | none => rw [hq] at hw; cases hw
    | some q => rw [hq] at hw; simpa using hw
  · rw [if_neg e]
    rw [List.getElem?_set_ne (fun q => e q.symm)] at hw
    obtain ⟨h1, h2⟩ := lkill_at hw
    rw [h j w h1]
    dsimp only
    rw [if_neg h2]
theorem lA_set2 {lo : dL0} {L : List (Option Value)} {i : Nat} {v : Value} (h : lA lo L) : lA (dset2 lo i v) (lset2 L i v) := by
  intro j w hw
  unfold lset2 at hw
  unfold dset2
  by_cases e2 : j = i + 1
  · subst e2
    rw [List.getElem?_set_self'] at hw
    cases hq : ((lkill L i).set i (some v))[i + 1]? with
    | none => rw [hq] at hw; cases hw
    | some q => rw [hq] at hw; simp at hw
  · rw [List.getElem?_set_ne (fun q => e2 q.symm)] at hw
    by_cases e : j = i
    · subst e
      rw [if_pos rfl]
      rw [List.getElem?_set_self'] at hw
      cases hq : (lkill L j)[j]? with
      | none => rw [hq] at hw; cases hw
      | some q => rw [hq] at hw; simpa using hw
    · rw [if_neg e, if_neg e2]
      rw [List.getElem?_set_ne (fun q => e q.symm)] at hw
      obtain ⟨h1, h2⟩ := lkill_at hw
      rw [h j w h1]
      dsimp only
      rw [if_neg h2]
/-- less is known -/
def lsub : List (Option Value) → List (Option Value) → Prop
  | [], _ => True
  | none :: t, L => lsub t L.tail
  | some v :: t, L => L.head? = some (some v) ∧ lsub t L.tail
theorem lsub_at : ∀ {A B : List (Option Value)}, lsub A B → ∀ {j : Nat} {v : Value}, A[j]? = some (some v) → B[j]? = some (some v)
  | [], _, _, j, v, h => by cases h
  | none :: t, B, hs, j, v, h => by
    cases j with
    | zero => cases h
    | succ j =>
      have := lsub_at (A := t) (B := B.tail) hs (j := j) (v := v) h
      rw [List.getElem?_tail] at this
      exact this
  | some w :: t, B, hs, j, v, h => by
    cases j with
    | zero =>
      obtain rfl : w = v := by simpa using h
      have := hs.1
      rw [List.head?_eq_getElem?] at this
      exact this
    | succ j =>
      have := lsub_at (A := t) (B := B.tail) hs.2 (j := j) (v := v) h
      rw [List.getElem?_tail] at this
      exact this
theorem lA_sub {lo : dL0} {A B : List (Option Value)} (hs : lsub A B) (h : lA lo B) : lA lo A := fun j v hv => h j v (lsub_at hs hv)

end
section
/-! steps of the reference's methods as conditions: (texts' places, texts, b, what lies beside, the object, its rows) -/
abbrev rCx : Type := (Nat → Nat) × List (Nat × Nat × List Int32) × Nat × dH × Nat × (Nat → Nat)
abbrev cE (C : rCx) : dE := dEE C.1 C.2.1
abbrev cb (C : rCx) : Nat := C.2.2.1
abbrev co (C : rCx) : Nat := C.2.2.2.2.1
abbrev cad (C : rCx) : Nat → Nat := C.2.2.2.2.2
def cOK (C : rCx) : Prop := rA (cb C) (co C) (cad C)
abbrev cH (C : rCx) (σ : rS) : dH := rH C.2.2.2.1 (co C) (cad C) σ
def wG (C : rCx) (d : Nat) (r : dM) (pc : Nat) (L : List (Option Value)) (st : List Value) (σ : rS) (Q : Option Value → rS → Prop) : Prop :=
  ∀ lo, lA lo L → ∃ v σ', dGo (cE C) (cb C) d r pc lo st (cH C σ) 0 0 (v, cH C σ', 0, 0) ∧ Q v σ'
def qI (Q : Int32 → rS → Prop) (v : Option Value) (σ : rS) : Prop := ∃ x, v = some (.int x) ∧ Q x σ
def qL (Q : Int64 → rS → Prop) (v : Option Value) (σ : rS) : Prop := ∃ x, v = some (.long x) ∧ Q x σ
def qV (Q : rS → Prop) (v : Option Value) (σ : rS) : Prop := v = none ∧ Q σ
/-- a number that is a boolean; a place within a row -/
def nb (x : Int32) : Prop := x = 0 ∨ x = 1
def inb (i : Int32) (n : Nat) : Prop := ¬ (i < 0 ∨ n ≤ i.toNatClampNeg)
/-- a method's run from its beginning -/
def rMM (C : rCx) (d : Nat) (m : dM) (as : List Value) (σ : rS) (v : Option Value) (σ' : rS) : Prop := dGo (cE C) (cb C) d m 0 (dent as) [] (cH C σ) 0 0 (v, cH C σ', 0, 0)
def cI (C : rCx) (d : Nat) (m : dM) (as : List Value) (σ : rS) (K : Int32 → rS → Prop) : Prop := ∃ x σ', rMM C d m as σ (some (.int x)) σ' ∧ K x σ'
def cJ (C : rCx) (d : Nat) (m : dM) (as : List Value) (σ : rS) (K : Int64 → rS → Prop) : Prop := ∃ x σ', rMM C d m as σ (some (.long x)) σ' ∧ K x σ'
def cV (C : rCx) (d : Nat) (m : dM) (as : List Value) (σ : rS) (K : rS → Prop) : Prop := ∃ σ', rMM C d m as σ none σ' ∧ K σ'
section SR
variable {C : rCx} {d : Nat} {r : dM} {pc : Nat} {L : List (Option Value)} {st : List Value} {σ : rS} {Q : Option Value → rS → Prop}
theorem s_p {i : Instr} {len pc' : Nat} {st' : List Value} (hd : decode r.2.1 pc = .ok (i, len)) (hw : ∀ lo, dpure i len pc r.2.2.1 lo st = some (pc', lo, st')) (K : wG C d r pc' L st' σ Q) : wG C d r pc L st σ Q := by
  intro lo hl
  obtain ⟨v, σ', h1, h2⟩ := K lo hl
  exact ⟨v, σ', go_pure hd (hw lo) h1, h2⟩
theorem s_w {L' : List (Option Value)} (hs : lsub L' L) (K : wG C d r pc L' st σ Q) : wG C d r pc L st σ Q := fun lo hl => K lo (lA_sub hs hl)
theorem s_iln {k} {x : Int32} (hd : decode r.2.1 pc = .ok (.iload_n k, 1)) (hk : L[(k : Nat)]? = some (some (.int x))) (K : wG C d r (pc + 1) L (.int x :: st) σ Q) : wG C d r pc L st σ Q := by
  intro lo hl
  obtain ⟨v, σ', h1, h2⟩ := K lo hl
  refine ⟨v, σ', go_pure hd (w := (pc + 1, lo, .int x :: st)) ?_ h1, h2⟩
  show dldI 1 1 pc (k : Nat) lo st = _
  unfold dldI
  rw [hl _ _ hk]; rfl
theorem s_il {k : Nat} {x : Int32} (hd : decode r.2.1 pc = .ok (.iload k, 2)) (hk : L[k]? = some (some (.int x))) (K : wG C d r (pc + 2) L (.int x :: st) σ Q) : wG C d r pc L st σ Q := by
  intro lo hl
  obtain ⟨v, σ', h1, h2⟩ := K lo hl
  refine ⟨v, σ', go_pure hd (w := (pc + 2, lo, .int x :: st)) ?_ h1, h2⟩
  show dldI 2 2 pc k lo st = _
  unfold dldI
  rw [hl _ _ hk]; rfl
theorem s_lln {k} {x : Int64} (hd : decode r.2.1 pc = .ok (.lload_n k, 1)) (hk : L[(k : Nat)]? = some (some (.long x))) (K : wG C d r (pc + 1) L (.long x :: st) σ Q) : wG C d r pc L st σ Q := by
  intro lo hl
  obtain ⟨v, σ', h1, h2⟩ := K lo hl
  refine ⟨v, σ', go_pure hd (w := (pc + 1, lo, .long x :: st)) ?_ h1, h2⟩
  show dldL 1 1 pc (k : Nat) lo st = _
  unfold dldL
  rw [hl _ _ hk]; rfl
theorem s_ll {k : Nat} {x : Int64} (hd : decode r.2.1 pc = .ok (.lload k, 2)) (hk : L[k]? = some (some (.long x))) (K : wG C d r (pc + 2) L (.long x :: st) σ Q) : wG C d r pc L st σ Q := by
  intro lo hl
  obtain ⟨v, σ', h1, h2⟩ := K lo hl
  refine ⟨v, σ', go_pure hd (w := (pc + 2, lo, .long x :: st)) ?_ h1, h2⟩
  show dldL 2 2 pc k lo st = _
  unfold dldL
  rw [hl _ _ hk]; rfl
theorem s_aln {k} {x : Nat} (hd : decode r.2.1 pc = .ok (.aload_n k, 1)) (hk : L[(k : Nat)]? = some (some (.ref x))) (K : wG C d r (pc + 1) L (.ref x :: st) σ Q) : wG C d r pc L st σ Q := by
  intro lo hl
  obtain ⟨v, σ', h1, h2⟩ := K lo hl
  refine ⟨v, σ', go_pure hd (w := (pc + 1, lo, .ref x :: st)) ?_ h1, h2⟩
  show dldA 1 1 pc (k : Nat) lo st = _
  unfold dldA
  rw [hl _ _ hk]; rfl
theorem s_isn {k} {x : Int32} {L' : List (Option Value)} (hd : decode r.2.1 pc = .ok (.istore_n k, 1)) (hk : (k : Nat) < r.2.2.1) (hL : lset1 L (k : Nat) (.int x) = L') (K : wG C d r (pc + 1) L' st σ Q) : wG C d r pc L (.int x :: st) σ Q := by
  intro lo hl
  obtain ⟨v, σ', h1, h2⟩ := K _ (by rw [← hL]; exact lA_set1 hl)
  refine ⟨v, σ', go_pure hd (w := (pc + 1, dset1 lo (k : Nat) (.int x), st)) ?_ h1, h2⟩
  show dstI 1 1 pc (k : Nat) r.2.2.1 lo (.int x :: st) = _
  unfold dstI
  simp only [hk, and_self, if_true]
theorem s_is {k : Nat} {x : Int32} {L' : List (Option Value)} (hd : decode r.2.1 pc = .ok (.istore k, 2)) (hk : k < r.2.2.1) (hL : lset1 L k (.int x) = L') (K : wG C d r (pc + 2) L' st σ Q) : wG C d r pc L (.int x :: st) σ Q := by
  intro lo hl
  obtain ⟨v, σ', h1, h2⟩ := K _ (by rw [← hL]; exact lA_set1 hl)
  refine ⟨v, σ', go_pure hd (w := (pc + 2, dset1 lo k (.int x), st)) ?_ h1, h2⟩
  show dstI 2 2 pc k r.2.2.1 lo (.int x :: st) = _
  unfold dstI
  simp only [hk, and_self, if_true]
theorem s_lsn {k} {x : Int64} {L' : List (Option Value)} (hd : decode r.2.1 pc = .ok (.lstore_n k, 1)) (hk : (k : Nat) + 1 < r.2.2.1) (hL : lset2 L (k : Nat) (.long x) = L') (K : wG C d r (pc + 1) L' st σ Q) : wG C d r pc L (.long x :: st) σ Q := by
  intro lo hl
  obtain ⟨v, σ', h1, h2⟩ := K _ (by rw [← hL]; exact lA_set2 hl)
  refine ⟨v, σ', go_pure hd (w := (pc + 1, dset2 lo (k : Nat) (.long x), st)) ?_ h1, h2⟩
  show dstL 1 1 pc (k : Nat) r.2.2.1 lo (.long x :: st) = _
  unfold dstL
  simp only [hk, and_self, if_true]
theorem s_ls {k : Nat} {x : Int64} {L' : List (Option Value)} (hd : decode r.2.1 pc = .ok (.lstore k, 2)) (hk : k + 1 < r.2.2.1) (hL : lset2 L k (.long x) = L') (K : wG C d r (pc + 2) L' st σ Q) : wG C d r pc L (.long x :: st) σ Q := by
  intro lo hl
  obtain ⟨v, σ', h1, h2⟩ := K _ (by rw [← hL]; exact lA_set2 hl)
  refine ⟨v, σ', go_pure hd (w := (pc + 2, dset2 lo k (.long x), st)) ?_ h1, h2⟩
  show dstL 2 2 pc k r.2.2.1 lo (.long x :: st) = _
  unfold dstL
  simp only [hk, and_self, if_true]
theorem s_inc {k : Nat} {n : Int} {x y : Int32} {L' : List (Option Value)} (hd : decode r.2.1 pc = .ok (.iinc k n, 3)) (hx : L[k]? = some (some (.int x))) (hk : k < r.2.2.1) (hy : x + Int32.ofInt n = y) (hL : lset1 L k (.int y) = L') (K : wG C d r (pc + 3) L' st σ Q) : wG C d r pc L st σ Q := by
  intro lo hl
  subst hy
  obtain ⟨v, σ', h1, h2⟩ := K _ (by rw [← hL]; exact lA_set1 hl)
  refine ⟨v, σ', go_pure hd (w := (pc + 3, dset1 lo k (.int (x + Int32.ofInt n)), st)) ?_ h1, h2⟩
  show dinc 3 pc r.2.2.1 k n lo st = _
  unfold dinc
  rw [hl _ _ hx]
  simp only [hk, and_self, if_true]
theorem s_ii {c : ClassFile.Cond} {off : Int} {t : Nat} {x y : Int32} (P : Prop) [Decidable P] (hd : decode r.2.1 pc = .ok (.if_icmp c off, 3)) (ht : dto pc off = some t) (hP : dcnd c x y = decide P) (K1 : P → wG C d r t L st σ Q) (K2 : ¬ P → wG C d r (pc + 3) L st σ Q) : wG C d r pc L (.int y :: .int x :: st) σ Q := by
  by_cases h : P
  · refine s_p hd (fun lo => ?_) (K1 h)
    show dif 3 pc lo st off (dcnd c x y) = _
    unfold dif
    rw [hP, ht, decide_eq_true h]; rfl
  · refine s_p hd (fun lo => ?_) (K2 h)
    show dif 3 pc lo st off (dcnd c x y) = _
    unfold dif
    rw [hP, ht, decide_eq_false h]; rfl
theorem s_iin {c : ClassFile.Cond} {off : Int} {t : Nat} {x y : Int32} (P : Prop) [Decidable P] (hd : decode r.2.1 pc = .ok (.if_icmp c off, 3)) (ht : dto pc off = some t) (hP : dcnd c x y = decide (¬ P)) (K1 : ¬ P → wG C d r t L st σ Q) (K2 : P → wG C d r (pc + 3) L st σ Q) : wG C d r pc L (.int y :: .int x :: st) σ Q := s_ii (¬ P) hd ht hP K1 (fun h => K2 (Decidable.not_not.mp h))
theorem s_i {c : ClassFile.Cond} {off : Int} {t : Nat} {x : Int32} (P : Prop) [Decidable P] (hd : decode r.2.1 pc = .ok (.ifCond c off, 3)) (ht : dto pc off = some t) (hP : dcnd c x 0 = decide P) (K1 : P → wG C d r t L st σ Q) (K2 : ¬ P → wG C d r (pc + 3) L st σ Q) : wG C d r pc L (.int x :: st) σ Q := by
  by_cases h : P
  · refine s_p hd (fun lo => ?_) (K1 h)
    show dif 3 pc lo st off (dcnd c x 0) = _
    unfold dif
    rw [hP, ht, decide_eq_true h]; rfl
  · refine s_p hd (fun lo => ?_) (K2 h)
    show dif 3 pc lo st off (dcnd c x 0) = _
    unfold dif
    rw [hP, ht, decide_eq_false h]; rfl
theorem s_in {c : ClassFile.Cond} {off : Int} {t : Nat} {x : Int32} (P : Prop) [Decidable P] (hd : decode r.2.1 pc = .ok (.ifCond c off, 3)) (ht : dto pc off = some t) (hP : dcnd c x 0 = decide (¬ P)) (K1 : ¬ P → wG C d r t L st σ Q) (K2 : P → wG C d r (pc + 3) L st σ Q) : wG C d r pc L (.int x :: st) σ Q := s_i (¬ P) hd ht hP K1 (fun h => K2 (Decidable.not_not.mp h))
theorem s_swd {dflt low hi : Int} {offs : Array Int} {len t : Nat} {x : Int32} (hd : decode r.2.1 pc = .ok (.tableswitch dflt low hi offs, len)) (hx : x.toInt < low ∨ hi < x.toInt) (ht : dto pc dflt = some t) (K : wG C d r t L st σ Q) : wG C d r pc L (.int x :: st) σ Q := by
  refine s_p hd (fun lo => ?_) K
  show dsw pc lo st dflt low hi offs x = _
  unfold dsw
  rw [if_pos hx, ht]; rfl
theorem s_div {x y : Int32} (hd : decode r.2.1 pc = .ok (.idiv, 1)) (hy : ¬ y = 0) (K : wG C d r (pc + 1) L (.int (x / y) :: st) σ Q) : wG C d r pc L (.int y :: .int x :: st) σ Q := by
  refine s_p hd (fun lo => ?_) K
  show dbin 1 pc lo (.int y :: .int x :: st) (fun x y => if y = 0 then none else some (x / y)) = _
  unfold dbin
  simp only [hy, if_false, if_true, Option.map]
theorem s_rem {x y : Int32} (hd : decode r.2.1 pc = .ok (.irem, 1)) (hy : ¬ y = 0) (K : wG C d r (pc + 1) L (.int (x - x / y * y) :: st) σ Q) : wG C d r pc L (.int y :: .int x :: st) σ Q := by
  refine s_p hd (fun lo => ?_) K
  show dbin 1 pc lo (.int y :: .int x :: st) (fun x y => if y = 0 then none else some (x - x / y * y)) = _
  unfold dbin
  simp only [hy, if_false, if_true, Option.map]
theorem s_ldiv {x y : Int64} (hd : decode r.2.1 pc = .ok (.ldiv, 1)) (hy : ¬ y = 0) (K : wG C d r (pc + 1) L (.long (x / y) :: st) σ Q) : wG C d r pc L (.long y :: .long x :: st) σ Q := by
  refine s_p hd (fun lo => ?_) K
  show dbinL 1 pc lo (.long y :: .long x :: st) (fun x y => if y = 0 then none else some (x / y)) = _
  unfold dbinL
  simp only [hy, if_false, if_true, Option.map]
theorem s_lrem {x y : Int64} (hd : decode r.2.1 pc = .ok (.lrem, 1)) (hy : ¬ y = 0) (K : wG C d r (pc + 1) L (.long (x - x / y * y) :: st) σ Q) : wG C d r pc L (.long y :: .long x :: st) σ Q := by
  refine s_p hd (fun lo => ?_) K
  show dbinL 1 pc lo (.long y :: .long x :: st) (fun x y => if y = 0 then none else some (x - x / y * y)) = _
  unfold dbinL
  simp only [hy, if_false, if_true, Option.map]
/-- a step that reads or writes the object or its rows -/
theorem s_h {i : Instr} {len : Nat} {st' : List Value} {σ1 : rS} (hd : decode r.2.1 pc = .ok (i, len)) (h0 : ∀ lo, dpure i len pc r.2.2.1 lo st = none) (hg : dheap (cE C) (cb C) d r i len st (cH C σ) 0 0 = some (st', cH C σ1, 0, 0)) (K : wG C d r (pc + len) L st' σ1 Q) : wG C d r pc L st σ Q := by
  intro lo hl
  obtain ⟨v, σ', h1, h2⟩ := K lo hl
  exact ⟨v, σ', go_heap hd (h0 lo) hg h1, h2⟩
theorem s_get {idx k : Nat} (hd : decode r.2.1 pc = .ok (.getfield idx, 3)) (ho : r.2.2.2.2.2.1 = 16) (hf : (tFL 16).lookup idx = some (16, k)) (hk : k < 126) {v : Value} (hv : rV (cad C) σ k = v) (K : wG C d r (pc + 3) L (v :: st) σ Q) : wG C d r pc L (.ref (co C) :: st) σ Q := by
  intro lo hl
  obtain ⟨w, σ', h1, h2⟩ := K lo hl
  exact ⟨w, σ', rg_get hd ho hf hk hv h1, h2⟩
theorem s_put {idx k : Nat} {x : Int32} {ty : FieldType} (hC : cOK C) (hd : decode r.2.1 pc = .ok (.putfield idx, 3)) (ho : r.2.2.2.2.2.1 = 16) (hf : (tFL 16).lookup idx = some (16, k)) (hk : k < 126 ∧ rT k = none ∧ ¬ (k = 110 ∨ k = 112)) (ht : tFT 16 k = some (ty, false)) (hn : narrow ty (.int x) = .int x ∧ fits ty (.int x) = true) (K : wG C d r (pc + 3) L st (siU σ k x) Q) : wG C d r pc L (.int x :: .ref (co C) :: st) σ Q := by
  intro lo hl
  obtain ⟨w, σ', h1, h2⟩ := K lo hl
  exact ⟨w, σ', rg_puti hC hd ho hf hk.1 hk.2.1 hk.2.2 ht hn.1 hn.2 h1, h2⟩
theorem s_putl {idx k : Nat} {x : Int64} (hC : cOK C) (hd : decode r.2.1 pc = .ok (.putfield idx, 3)) (ho : r.2.2.2.2.2.1 = 16) (hf : (tFL 16).lookup idx = some (16, k)) (hk : k < 126 ∧ rT k = none ∧ (k = 110 ∨ k = 112)) (ht : tFT 16 k = some (.long, false)) (K : wG C d r (pc + 3) L st (slU σ k x) Q) : wG C d r pc L (.long x :: .ref (co C) :: st) σ Q := by
  have he : dupd (cH C σ) (co C) (.inr (16, (rF (cad C) σ).set k (.long x))) = cH C (slU σ k x) := rH_put (b := cb C) (by unfold rV slU; rw [hk.2.1]; simp [hk.2.2]) (fun j hj => by unfold rV slU; simp [hj]) rfl
  have hlen : k < (rF (cad C) σ).length := by unfold rF; simp; exact hk.1
  refine s_h hd (fun _ => rfl) ?_ K
  show dputf (cE C) (cb C) r.2.2.2.2.2.1 3 idx _ (.long x :: .ref (co C) :: st) (cH C σ) 0 0 = _
  have hf' : eFL (cE C) 16 idx = some (16, k) := hf
  have ht' : eFT (cE C) 16 k = some (.long, false) := ht
  unfold dputf
  simp only [rH_obj, ho, hf', ht']
  rw [if_pos ⟨trivial, hC.1, trivial, Or.inl trivial, rfl, rfl, hlen⟩, he]
theorem s_ald {k n : Nat} {i : Int32} (hC : cOK C) (hd : decode r.2.1 pc = .ok (.iaload, 1)) (hT : rT k = some (0, n)) (hin : inb i n) (K : wG C d r (pc + 1) L (.int (σ.2.2.1 k i.toNatClampNeg) :: st) σ Q) : wG C d r pc L (.int i :: .ref (cad C k) :: st) σ Q := by
  intro lo hl
  obtain ⟨w, σ', h1, h2⟩ := K lo hl
  exact ⟨w, σ', rg_ild hC hd hT hin h1, h2⟩
theorem s_bld {k n : Nat} {i : Int32} (hC : cOK C) (hd : decode r.2.1 pc = .ok (.baload, 1)) (hT : rT k = some (1, n)) (hin : inb i n) (K : wG C d r (pc + 1) L (.int (σ.2.2.1 k i.toNatClampNeg) :: st) σ Q) : wG C d r pc L (.int i :: .ref (cad C k) :: st) σ Q := by
  intro lo hl
  obtain ⟨w, σ', h1, h2⟩ := K lo hl
  exact ⟨w, σ', rg_bld hC hd hT hin h1, h2⟩
theorem s_zld {k n : Nat} {i : Int32} (hC : cOK C) (hd : decode r.2.1 pc = .ok (.baload, 1)) (hT : rT k = some (3, n)) (hin : inb i n) (K : wG C d r (pc + 1) L (.int (σ.2.2.1 k i.toNatClampNeg) :: st) σ Q) : wG C d r pc L (.int i :: .ref (cad C k) :: st) σ Q := by
  refine s_h hd (fun _ => rfl) ?_ K
  have hin : ¬ (i < 0 ∨ n ≤ i.toNatClampNeg) := hin
  show dor (daldI 1 1 (.int i :: .ref (cad C k) :: st) (cH C σ) 0 0) (dor (daldI 3 1 (.int i :: .ref (cad C k) :: st) (cH C σ) 0 0) _) = _
  have h1 : daldI 1 1 (.int i :: .ref (cad C k) :: st) (cH C σ) 0 0 = none := by
    unfold daldI
    simp only [rH_row hC hT, rRow]
    simp
  have h2 : daldI 3 1 (.int i :: .ref (cad C k) :: st) (cH C σ) 0 0 = some (.int (σ.2.2.1 k i.toNatClampNeg) :: st, cH C σ, 0, 0) := by
    unfold daldI
    simp only [rH_row hC hT, rRow]
    simp [hin]
  rw [h1, h2]
  rfl
theorem s_lld {k n : Nat} {i : Int32} (hC : cOK C) (hd : decode r.2.1 pc = .ok (.laload, 1)) (hT : rT k = some (2, n)) (hin : inb i n) (K : wG C d r (pc + 1) L (.long (σ.2.2.2 k i.toNatClampNeg) :: st) σ Q) : wG C d r pc L (.int i :: .ref (cad C k) :: st) σ Q := by
  refine s_h hd (fun _ => rfl) ?_ K
  have hin : ¬ (i < 0 ∨ n ≤ i.toNatClampNeg) := hin
  show daldL 1 (.int i :: .ref (cad C k) :: st) (cH C σ) 0 0 = _
  unfold daldL
  simp only [rH_row hC hT, rRow]
  simp [hin]
theorem s_ast {k n : Nat} {i x : Int32} (hC : cOK C) (hd : decode r.2.1 pc = .ok (.iastore, 1)) (hT : rT k = some (0, n)) (hin : inb i n) (K : wG C d r (pc + 1) L st (riU σ k i.toNatClampNeg x) Q) : wG C d r pc L (.int x :: .int i :: .ref (cad C k) :: st) σ Q := by
  intro lo hl
  obtain ⟨w, σ', h1, h2⟩ := K lo hl
  exact ⟨w, σ', rg_ist hC hd hT hin h1, h2⟩
theorem s_bst {k n : Nat} {i x : Int32} (hC : cOK C) (hd : decode r.2.1 pc = .ok (.bastore, 1)) (hT : rT k = some (1, n)) (hin : inb i n) (K : wG C d r (pc + 1) L st (riU σ k i.toNatClampNeg (vp_nar .byte x)) Q) : wG C d r pc L (.int x :: .int i :: .ref (cad C k) :: st) σ Q := by
  have hin : ¬ (i < 0 ∨ n ≤ i.toNatClampNeg) := hin
  have he : dupd (cH C σ) (cad C k) (rRow (riU σ k i.toNatClampNeg (vp_nar .byte x)) k (1, n)) = cH C (riU σ k i.toNatClampNeg (vp_nar .byte x)) := rH_ast hC hT rfl rfl (fun j hj => by unfold riU; simp [hj])
  have he2 : rRow (riU σ k i.toNatClampNeg (vp_nar .byte x)) k (1, n) = .inl (1, n, .inl (upd (σ.2.2.1 k) i.toNatClampNeg (vp_nar .byte x))) := by unfold rRow riU; simp
  have hb9 := (hC.2.1 k _ hT).1
  rw [he2] at he
  have h1 : dastI (cb C) 1 1 (vp_nar .byte) (.int x :: .int i :: .ref (cad C k) :: st) (cH C σ) 0 0 = some (st, cH C (riU σ k i.toNatClampNeg (vp_nar .byte x)), 0, 0) := by
    unfold dastI
    simp only [rH_row hC hT, rRow]
    simp [hin, hb9, he]
  refine s_h hd (fun _ => rfl) ?_ K
  show (match dastI (cb C) 1 1 (vp_nar .byte) (.int x :: .int i :: .ref (cad C k) :: st) (cH C σ) 0 0 with | some g => some g | none => _) = _
  rw [h1]
theorem s_zst {k n : Nat} {i x : Int32} (hC : cOK C) (hd : decode r.2.1 pc = .ok (.bastore, 1)) (hT : rT k = some (3, n)) (hin : inb i n) (K : wG C d r (pc + 1) L st (riU σ k i.toNatClampNeg (vp_nar .boolean x)) Q) : wG C d r pc L (.int x :: .int i :: .ref (cad C k) :: st) σ Q := by
  have hin : ¬ (i < 0 ∨ n ≤ i.toNatClampNeg) := hin
  have he : dupd (cH C σ) (cad C k) (rRow (riU σ k i.toNatClampNeg (vp_nar .boolean x)) k (3, n)) = cH C (riU σ k i.toNatClampNeg (vp_nar .boolean x)) := rH_ast hC hT rfl rfl (fun j hj => by unfold riU; simp [hj])
  have he2 : rRow (riU σ k i.toNatClampNeg (vp_nar .boolean x)) k (3, n) = .inl (3, n, .inl (upd (σ.2.2.1 k) i.toNatClampNeg (vp_nar .boolean x))) := by unfold rRow riU; simp
  have hb9 := (hC.2.1 k _ hT).1
  rw [he2] at he
  have h0 : dastI (cb C) 1 1 (vp_nar .byte) (.int x :: .int i :: .ref (cad C k) :: st) (cH C σ) 0 0 = none := by
    unfold dastI
    simp only [rH_row hC hT, rRow]
    simp
  have h1 : dastI (cb C) 3 1 (vp_nar .boolean) (.int x :: .int i :: .ref (cad C k) :: st) (cH C σ) 0 0 = some (st, cH C (riU σ k i.toNatClampNeg (vp_nar .boolean x)), 0, 0) := by
    unfold dastI
    simp only [rH_row hC hT, rRow]
    simp [hin, hb9, he]
  refine s_h hd (fun _ => rfl) ?_ K
  show (match dastI (cb C) 1 1 (vp_nar .byte) (.int x :: .int i :: .ref (cad C k) :: st) (cH C σ) 0 0 with | some g => some g | none => _) = _
  rw [h0]
  exact h1
theorem s_lst {k n : Nat} {i : Int32} {x : Int64} (hC : cOK C) (hd : decode r.2.1 pc = .ok (.lastore, 1)) (hT : rT k = some (2, n)) (hin : inb i n) (K : wG C d r (pc + 1) L st (rlU σ k i.toNatClampNeg x) Q) : wG C d r pc L (.long x :: .int i :: .ref (cad C k) :: st) σ Q := by
  have hin : ¬ (i < 0 ∨ n ≤ i.toNatClampNeg) := hin
  have he : dupd (cH C σ) (cad C k) (rRow (rlU σ k i.toNatClampNeg x) k (2, n)) = cH C (rlU σ k i.toNatClampNeg x) := rH_ast hC hT rfl rfl (fun j hj => by unfold rlU; simp [hj])
  have he2 : rRow (rlU σ k i.toNatClampNeg x) k (2, n) = .inl (2, n, .inr (.inl (vp_updL (σ.2.2.2 k) i.toNatClampNeg x))) := by unfold rRow rlU; simp
  have hb9 := (hC.2.1 k _ hT).1
  rw [he2] at he
  refine s_h hd (fun _ => rfl) ?_ K
  show dastL (cb C) 1 (.long x :: .int i :: .ref (cad C k) :: st) (cH C σ) 0 0 = _
  unfold dastL
  simp only [rH_row hC hT, rRow]
  simp [hin, hb9, he]
theorem s_ldc {idx : Nat} {x : Int32} (hd : decode r.2.1 pc = .ok (.ldc idx, 2)) (ho : r.2.2.2.2.2.1 = 16) (hf : (tCN 16).lookup idx = some x) (K : wG C d r (pc + 2) L (.int x :: st) σ Q) : wG C d r pc L st σ Q := by
  refine s_h hd (fun _ => rfl) ?_ K
  show (match dldc 2 2 ((eCN (cE C) r.2.2.2.2.2.1 idx).map Value.int) st (cH C σ) 0 0 with | some g => some g | none => _) = _
  have hf' : eCN (cE C) 16 idx = some x := hf
  rw [ho, hf']; rfl
theorem s_ldcw {idx : Nat} {x : Int32} (hd : decode r.2.1 pc = .ok (.ldc_w idx, 3)) (ho : r.2.2.2.2.2.1 = 16) (hf : (tCN 16).lookup idx = some x) (K : wG C d r (pc + 3) L (.int x :: st) σ Q) : wG C d r pc L st σ Q := by
  refine s_h hd (fun _ => rfl) ?_ K
  show dldc 3 3 ((eCN (cE C) r.2.2.2.2.2.1 idx).map Value.int) st (cH C σ) 0 0 = _
  have hf' : eCN (cE C) 16 idx = some x := hf
  rw [ho, hf']; rfl
theorem s_ldcl {idx : Nat} {x : Int64} (hd : decode r.2.1 pc = .ok (.ldc2_w idx, 3)) (ho : r.2.2.2.2.2.1 = 16) (hf : (tCL 16).lookup idx = some x) (K : wG C d r (pc + 3) L (.long x :: st) σ Q) : wG C d r pc L st σ Q := by
  refine s_h hd (fun _ => rfl) ?_ K
  show dldc 3 3 ((eCL (cE C) r.2.2.2.2.2.1 idx).map Value.long) st (cH C σ) 0 0 = _
  have hf' : eCL (cE C) 16 idx = some x := hf
  rw [ho, hf']; rfl
theorem nb_nar {x : Int32} (h : nb x) : narrow .boolean (.int x) = .int x ∧ fits .boolean (.int x) = true := by
  rcases h with rfl | rfl <;> exact ⟨rfl, rfl⟩
theorem in_nar {x : Int32} : narrow .int (.int x) = .int x ∧ fits .int (.int x) = true := ⟨rfl, rfl⟩
theorem s_ri {Q : Int32 → rS → Prop} {x : Int32} {ty : FieldType} (hd : decode r.2.1 pc = .ok (.ireturn, 1)) (ht : r.2.2.2.1 = some ty) (hn : narrow ty (.int x) = .int x ∧ fits ty (.int x) = true) (K : Q x σ) : wG C d r pc L [.int x] σ (qI Q) := fun lo hl => ⟨_, σ, rg_iret hd ht hn.1, x, rfl, K⟩
theorem s_rl {Q : Int64 → rS → Prop} {x : Int64} (hd : decode r.2.1 pc = .ok (.lreturn, 1)) (ht : r.2.2.2.1 = some .long) (K : Q x σ) : wG C d r pc L [.long x] σ (qL Q) := fun lo hl => ⟨_, σ, by
  refine go_ret hd rfl rfl ?_
  unfold dret
  simp [ht], x, rfl, K⟩
theorem s_rv {Q : rS → Prop} (hd : decode r.2.1 pc = .ok (.return_, 1)) (ht : r.2.2.2.1 = none) (K : Q σ) : wG C d r pc L [] σ (qV Q) := fun lo hl => ⟨_, σ, rg_vret hd ht, rfl, K⟩
theorem rMM_up {d' : Nat} {m : dM} {as : List Value} {v : Option Value} {σ' : rS} (hle : d ≤ d') (h : rMM C d m as σ v σ') : rMM C d' m as σ v σ' := go_up hle h
theorem s_call {idx j d0 : Nat} {r' : dM} {As rest : List Value} {v : Option Value} {σ' : rS} (hd : decode r.2.1 pc = .ok (.invokevirtual idx, 3)) (ho : r.2.2.2.2.2.1 = 16) (hm : (tML 16 ++ tMX 16).lookup idx = some j) (hj : MTs[j]? = some r') (hq : r'.2.2.2.2.1 = false ∧ r'.1.name ≠ "<init>" ∧ r'.2.2.2.2.2.1 = 16) (hn : As.length = r'.2.2.2.2.2.2) (hl : (lg_sl (.ref (co C) :: As)).length ≤ r'.2.2.1) (h0 : d0 ≤ d) (hc : (rest.map fun v => v.category).sum ≤ 8) (hM : rMM C d0 r' (.ref (co C) :: As) σ v σ') (K : wG C (d + 1) r (pc + 3) L (v.toList ++ rest) σ' Q) : wG C (d + 1) r pc L (As.reverse ++ .ref (co C) :: rest) σ Q := by
  intro lo hlo
  obtain ⟨w, σ2, h1, h2⟩ := K lo hlo
  exact ⟨w, σ2, rg_call hd ho hm hj hq hn hc hl (rMM_up h0 hM) h1, h2⟩
theorem s_cals {idx j d0 : Nat} {r' : dM} {As rest : List Value} {v : Option Value} {σ' : rS} (hd : decode r.2.1 pc = .ok (.invokestatic idx, 3)) (ho : r.2.2.2.2.2.1 = 16) (hm : (tML 16 ++ tMX 16).lookup idx = some j) (hbi : (tBI 16).lookup idx = none) (hj : MTs[j]? = some r') (hq : r'.2.2.2.2.1 = true) (hn : As.length = r'.2.2.2.2.2.2) (hl : (lg_sl As).length ≤ r'.2.2.1) (h0 : d0 ≤ d) (hc : (rest.map fun v => v.category).sum ≤ 8) (hM : rMM C d0 r' As σ v σ') (K : wG C (d + 1) r (pc + 3) L (v.toList ++ rest) σ' Q) : wG C (d + 1) r pc L (As.reverse ++ rest) σ Q := by
  intro lo hlo
  obtain ⟨w, σ2, h1, h2⟩ := K lo hlo
  have hdr : (As.reverse ++ rest).drop r'.2.2.2.2.2.2 = rest := by rw [← hn, ← List.length_reverse]; simp
  have htk : (As.reverse ++ rest).take r'.2.2.2.2.2.2 = As.reverse := by rw [← hn, ← List.length_reverse]; simp
  have hle : r'.2.2.2.2.2.2 ≤ (As.reverse ++ rest).length := by rw [← hn]; simp
  have hy : dinv (cE C) r.2.2.2.2.2.1 (.invokestatic idx) 3 (As.reverse ++ rest) (cH C σ) = some (r', As, rest) := by
    show dinvS (cE C) r.2.2.2.2.2.1 3 idx _ = _
    have hm' : eML (cE C) 16 idx = some j := hm
    have hj' : eMT (cE C) j = some r' := hj
    unfold dinvS
    simp only [ho, hm', hj', hdr, htk, List.reverse_reverse]
    rw [if_pos ⟨trivial, hq, hle, hc, hl⟩]
  have hh : dheap (cE C) (cb C) (d + 1) r (.invokestatic idx) 3 (As.reverse ++ rest) (cH C σ) 0 0 = none := by
    show dbi (cE C) (cb C) (d + 1) r.2.2.2.2.2.1 3 idx _ _ 0 0 = none
    have hb' : eBI (cE C) 16 idx = none := hbi
    unfold dbi
    rw [ho, hb']
  have K' : dGo (cE C) (cb C) (d + 1) r (pc + 3) lo (v.toList ++ rest) (cH C σ') (0 + 0) (0 + 0) (w, cH C σ2, 0, 0) := h1
  exact ⟨w, σ2, go_call hd rfl hh rfl hy (rMM_up h0 hM) K', h2⟩
end SR
theorem m_I {C : rCx} {d : Nat} {m : dM} {as : List Value} {σ : rS} {Q : Int32 → rS → Prop} {L : List (Option Value)} (hL : lA (dent as) L) (h : wG C d m 0 L [] σ (qI Q)) : cI C d m as σ Q := by
  obtain ⟨v, σ', h1, x, rfl, h2⟩ := h _ hL
  exact ⟨x, σ', h1, h2⟩
theorem m_J {C : rCx} {d : Nat} {m : dM} {as : List Value} {σ : rS} {Q : Int64 → rS → Prop} {L : List (Option Value)} (hL : lA (dent as) L) (h : wG C d m 0 L [] σ (qL Q)) : cJ C d m as σ Q := by
  obtain ⟨v, σ', h1, x, rfl, h2⟩ := h _ hL
  exact ⟨x, σ', h1, h2⟩
theorem m_V {C : rCx} {d : Nat} {m : dM} {as : List Value} {σ : rS} {Q : rS → Prop} {L : List (Option Value)} (hL : lA (dent as) L) (h : wG C d m 0 L [] σ (qV Q)) : cV C d m as σ Q := by
  obtain ⟨v, σ', h1, rfl, h2⟩ := h _ hL
  exact ⟨σ', h1, h2⟩
/-- the locals at a method's beginning -/
def lent : List Value → List (Option Value)
  | [] => []
  | v :: t => if v.category = 2 then some v :: none :: lent t else some v :: lent t

end
section
/-! single steps, each with its own row -/
section SX
variable {C : rCx} {d : Nat} {r : dM} {pc : Nat} {L : List (Option Value)} {st : List Value} {σ : rS} {Q : Option Value → rS → Prop}
theorem s_ic {n : Int} {x : Int32} (hd : decode r.2.1 pc = .ok (.iconst n, 1)) (hx : Int32.ofInt n = x) (K : wG C d r (pc + 1) L (.int x :: st) σ Q) : wG C d r pc L st σ Q := by
  subst hx; exact s_p hd (fun _ => rfl) K
theorem s_bi {n : Int} {x : Int32} (hd : decode r.2.1 pc = .ok (.bipush n, 2)) (hx : (Int8.ofInt n).toInt32 = x) (K : wG C d r (pc + 2) L (.int x :: st) σ Q) : wG C d r pc L st σ Q := by
  subst hx; exact s_p hd (fun _ => rfl) K
theorem s_si {n : Int} {x : Int32} (hd : decode r.2.1 pc = .ok (.sipush n, 3)) (hx : (Int16.ofInt n).toInt32 = x) (K : wG C d r (pc + 3) L (.int x :: st) σ Q) : wG C d r pc L st σ Q := by
  subst hx; exact s_p hd (fun _ => rfl) K
theorem s_lc {n} {x : Int64} (hd : decode r.2.1 pc = .ok (.lconst n, 1)) (hx : Int64.ofNat (n : Nat) = x) (K : wG C d r (pc + 1) L (.long x :: st) σ Q) : wG C d r pc L st σ Q := by
  subst hx; exact s_p hd (fun _ => rfl) K
theorem s_iadd {x y : Int32} (hd : decode r.2.1 pc = .ok (.iadd, 1)) (K : wG C d r (pc + 1) L (.int (x + y) :: st) σ Q) : wG C d r pc L (.int y :: .int x :: st) σ Q := s_p hd (fun _ => rfl) K
theorem s_isub {x y : Int32} (hd : decode r.2.1 pc = .ok (.isub, 1)) (K : wG C d r (pc + 1) L (.int (x - y) :: st) σ Q) : wG C d r pc L (.int y :: .int x :: st) σ Q := s_p hd (fun _ => rfl) K
theorem s_imul {x y : Int32} (hd : decode r.2.1 pc = .ok (.imul, 1)) (K : wG C d r (pc + 1) L (.int (x * y) :: st) σ Q) : wG C d r pc L (.int y :: .int x :: st) σ Q := s_p hd (fun _ => rfl) K
theorem s_iand {x y : Int32} (hd : decode r.2.1 pc = .ok (.iand, 1)) (K : wG C d r (pc + 1) L (.int (x &&& y) :: st) σ Q) : wG C d r pc L (.int y :: .int x :: st) σ Q := s_p hd (fun _ => rfl) K
theorem s_ior {x y : Int32} (hd : decode r.2.1 pc = .ok (.ior, 1)) (K : wG C d r (pc + 1) L (.int (x ||| y) :: st) σ Q) : wG C d r pc L (.int y :: .int x :: st) σ Q := s_p hd (fun _ => rfl) K
theorem s_ishl {x y : Int32} (hd : decode r.2.1 pc = .ok (.ishl, 1)) (K : wG C d r (pc + 1) L (.int (x <<< (y &&& 31)) :: st) σ Q) : wG C d r pc L (.int y :: .int x :: st) σ Q := s_p hd (fun _ => rfl) K
theorem s_ishr {x y : Int32} (hd : decode r.2.1 pc = .ok (.ishr, 1)) (K : wG C d r (pc + 1) L (.int (x >>> (y &&& 31)) :: st) σ Q) : wG C d r pc L (.int y :: .int x :: st) σ Q := s_p hd (fun _ => rfl) K
theorem s_iushr {x y : Int32} (hd : decode r.2.1 pc = .ok (.iushr, 1)) (K : wG C d r (pc + 1) L (.int (x.toUInt32 >>> (y.toUInt32 &&& Int32.toUInt32 31)).toInt32 :: st) σ Q) : wG C d r pc L (.int y :: .int x :: st) σ Q := s_p hd (fun _ => rfl) K
theorem s_ineg {x : Int32} (hd : decode r.2.1 pc = .ok (.ineg, 1)) (K : wG C d r (pc + 1) L (.int (-x) :: st) σ Q) : wG C d r pc L (.int x :: st) σ Q := s_p hd (fun _ => rfl) K
theorem s_i2l {x : Int32} (hd : decode r.2.1 pc = .ok (.i2l, 1)) (K : wG C d r (pc + 1) L (.long x.toInt64 :: st) σ Q) : wG C d r pc L (.int x :: st) σ Q := s_p hd (fun _ => rfl) K
theorem s_i2b {x : Int32} (hd : decode r.2.1 pc = .ok (.i2b, 1)) (K : wG C d r (pc + 1) L (.int x.toInt8.toInt32 :: st) σ Q) : wG C d r pc L (.int x :: st) σ Q := s_p hd (fun _ => rfl) K
theorem s_l2i {x : Int64} (hd : decode r.2.1 pc = .ok (.l2i, 1)) (K : wG C d r (pc + 1) L (.int x.toInt32 :: st) σ Q) : wG C d r pc L (.long x :: st) σ Q := s_p hd (fun _ => rfl) K
theorem s_lneg {x : Int64} (hd : decode r.2.1 pc = .ok (.lneg, 1)) (K : wG C d r (pc + 1) L (.long (-x) :: st) σ Q) : wG C d r pc L (.long x :: st) σ Q := s_p hd (fun _ => rfl) K
theorem s_ladd {x y : Int64} (hd : decode r.2.1 pc = .ok (.ladd, 1)) (K : wG C d r (pc + 1) L (.long (x + y) :: st) σ Q) : wG C d r pc L (.long y :: .long x :: st) σ Q := s_p hd (fun _ => rfl) K
theorem s_lsub {x y : Int64} (hd : decode r.2.1 pc = .ok (.lsub, 1)) (K : wG C d r (pc + 1) L (.long (x - y) :: st) σ Q) : wG C d r pc L (.long y :: .long x :: st) σ Q := s_p hd (fun _ => rfl) K
theorem s_lmul {x y : Int64} (hd : decode r.2.1 pc = .ok (.lmul, 1)) (K : wG C d r (pc + 1) L (.long (x * y) :: st) σ Q) : wG C d r pc L (.long y :: .long x :: st) σ Q := s_p hd (fun _ => rfl) K
theorem s_land {x y : Int64} (hd : decode r.2.1 pc = .ok (.land, 1)) (K : wG C d r (pc + 1) L (.long (x &&& y) :: st) σ Q) : wG C d r pc L (.long y :: .long x :: st) σ Q := s_p hd (fun _ => rfl) K
theorem s_lor {x y : Int64} (hd : decode r.2.1 pc = .ok (.lor, 1)) (K : wG C d r (pc + 1) L (.long (x ||| y) :: st) σ Q) : wG C d r pc L (.long y :: .long x :: st) σ Q := s_p hd (fun _ => rfl) K
theorem s_lshl {x : Int64} {y : Int32} (hd : decode r.2.1 pc = .ok (.lshl, 1)) (K : wG C d r (pc + 1) L (.long (x <<< (y.toInt64 &&& 63)) :: st) σ Q) : wG C d r pc L (.int y :: .long x :: st) σ Q := s_p hd (fun _ => rfl) K
theorem s_lushr {x : Int64} {y : Int32} (hd : decode r.2.1 pc = .ok (.lushr, 1)) (K : wG C d r (pc + 1) L (.long (x.toUInt64 >>> (y.toInt64.toUInt64 &&& Int64.toUInt64 63)).toInt64 :: st) σ Q) : wG C d r pc L (.int y :: .long x :: st) σ Q := s_p hd (fun _ => rfl) K
theorem s_lcmp {x y : Int64} (hd : decode r.2.1 pc = .ok (.lcmp, 1)) (K : wG C d r (pc + 1) L (.int (lg_cmp x y) :: st) σ Q) : wG C d r pc L (.long y :: .long x :: st) σ Q := s_p hd (fun _ => rfl) K
theorem s_dup {v : Value} (hd : decode r.2.1 pc = .ok (.dup, 1)) (hv : v.category = 1) (K : wG C d r (pc + 1) L (v :: v :: st) σ Q) : wG C d r pc L (v :: st) σ Q := s_p hd (fun lo => by show ddup 1 pc lo (v :: st) = _; unfold ddup; simp only [hv, and_self, if_true]) K
theorem s_pop {v : Value} (hd : decode r.2.1 pc = .ok (.pop, 1)) (hv : v.category = 1) (K : wG C d r (pc + 1) L st σ Q) : wG C d r pc L (v :: st) σ Q := s_p hd (fun lo => by show dpop 1 pc lo (v :: st) = _; unfold dpop; simp only [hv, and_self, if_true]) K
theorem s_dup2 {v w : Value} (hd : decode r.2.1 pc = .ok (.dup2, 1)) (hv : v.category = 1) (hw : w.category = 1) (K : wG C d r (pc + 1) L (v :: w :: v :: w :: st) σ Q) : wG C d r pc L (v :: w :: st) σ Q := s_p hd (fun lo => by show ddup2 1 pc lo (v :: w :: st) = _; unfold ddup2; simp only [hv, hw, and_self, if_true]) K
theorem s_goto {off : Int} {t : Nat} (hd : decode r.2.1 pc = .ok (.goto off, 3)) (ht : dto pc off = some t) (K : wG C d r t L st σ Q) : wG C d r pc L st σ Q := s_p hd (fun lo => by show dif 3 pc lo st off true = _; unfold dif; rw [ht]; rfl) K
/-! stores, with a name for what is stored -/
theorem s_isnb {k} {x : Int32} (hd : decode r.2.1 pc = .ok (.istore_n k, 1)) (hk : (k : Nat) < r.2.2.1) (K : ∀ y, y = x → wG C d r (pc + 1) (lset1 L (k : Nat) (.int y)) st σ Q) : wG C d r pc L (.int x :: st) σ Q := s_isn hd hk rfl (K x rfl)
theorem s_isb {k : Nat} {x : Int32} (hd : decode r.2.1 pc = .ok (.istore k, 2)) (hk : k < r.2.2.1) (K : ∀ y, y = x → wG C d r (pc + 2) (lset1 L k (.int y)) st σ Q) : wG C d r pc L (.int x :: st) σ Q := s_is hd hk rfl (K x rfl)
theorem s_lsnb {k} {x : Int64} (hd : decode r.2.1 pc = .ok (.lstore_n k, 1)) (hk : (k : Nat) + 1 < r.2.2.1) (K : ∀ y, y = x → wG C d r (pc + 1) (lset2 L (k : Nat) (.long y)) st σ Q) : wG C d r pc L (.long x :: st) σ Q := s_lsn hd hk rfl (K x rfl)
theorem s_lsb {k : Nat} {x : Int64} (hd : decode r.2.1 pc = .ok (.lstore k, 2)) (hk : k + 1 < r.2.2.1) (K : ∀ y, y = x → wG C d r (pc + 2) (lset2 L k (.long y)) st σ Q) : wG C d r pc L (.long x :: st) σ Q := s_ls hd hk rfl (K x rfl)
theorem s_incb {k : Nat} {n : Int} {x m : Int32} (hd : decode r.2.1 pc = .ok (.iinc k n, 3)) (hm : Int32.ofInt n = m) (hx : L[k]? = some (some (.int x))) (hk : k < r.2.2.1) (K : ∀ y, y = x + m → wG C d r (pc + 3) (lset1 L k (.int y)) st σ Q) : wG C d r pc L st σ Q := s_inc hd hx hk (by rw [hm]) rfl (K (x + m) rfl)
theorem s_putb {idx k : Nat} {x : Int32} {ty : FieldType} (hC : cOK C) (hd : decode r.2.1 pc = .ok (.putfield idx, 3)) (ho : r.2.2.2.2.2.1 = 16) (hf : (tFL 16).lookup idx = some (16, k)) (hk : k < 126 ∧ rT k = none ∧ ¬ (k = 110 ∨ k = 112)) (ht : tFT 16 k = some (ty, false)) (hn : narrow ty (.int x) = .int x ∧ fits ty (.int x) = true) (K : ∀ σ1, σ1 = siU σ k x → wG C d r (pc + 3) L st σ1 Q) : wG C d r pc L (.int x :: .ref (co C) :: st) σ Q := s_put hC hd ho hf hk ht hn (K _ rfl)
theorem s_putlb {idx k : Nat} {x : Int64} (hC : cOK C) (hd : decode r.2.1 pc = .ok (.putfield idx, 3)) (ho : r.2.2.2.2.2.1 = 16) (hf : (tFL 16).lookup idx = some (16, k)) (hk : k < 126 ∧ rT k = none ∧ (k = 110 ∨ k = 112)) (ht : tFT 16 k = some (.long, false)) (K : ∀ σ1, σ1 = slU σ k x → wG C d r (pc + 3) L st σ1 Q) : wG C d r pc L (.long x :: .ref (co C) :: st) σ Q := s_putl hC hd ho hf hk ht (K _ rfl)
theorem s_astb {k n : Nat} {i x : Int32} (hC : cOK C) (hd : decode r.2.1 pc = .ok (.iastore, 1)) (hT : rT k = some (0, n)) (hin : inb i n) (K : ∀ σ1, σ1 = riU σ k i.toNatClampNeg x → wG C d r (pc + 1) L st σ1 Q) : wG C d r pc L (.int x :: .int i :: .ref (cad C k) :: st) σ Q := s_ast hC hd hT hin (K _ rfl)
theorem s_bstb {k n : Nat} {i x : Int32} (hC : cOK C) (hd : decode r.2.1 pc = .ok (.bastore, 1)) (hT : rT k = some (1, n)) (hin : inb i n) (K : ∀ σ1, σ1 = riU σ k i.toNatClampNeg (vp_nar .byte x) → wG C d r (pc + 1) L st σ1 Q) : wG C d r pc L (.int x :: .int i :: .ref (cad C k) :: st) σ Q := s_bst hC hd hT hin (K _ rfl)
theorem s_zstb {k n : Nat} {i x : Int32} (hC : cOK C) (hd : decode r.2.1 pc = .ok (.bastore, 1)) (hT : rT k = some (3, n)) (hin : inb i n) (K : ∀ σ1, σ1 = riU σ k i.toNatClampNeg (vp_nar .boolean x) → wG C d r (pc + 1) L st σ1 Q) : wG C d r pc L (.int x :: .int i :: .ref (cad C k) :: st) σ Q := s_zst hC hd hT hin (K _ rfl)
theorem s_lstb {k n : Nat} {i : Int32} {x : Int64} (hC : cOK C) (hd : decode r.2.1 pc = .ok (.lastore, 1)) (hT : rT k = some (2, n)) (hin : inb i n) (K : ∀ σ1, σ1 = rlU σ k i.toNatClampNeg x → wG C d r (pc + 1) L st σ1 Q) : wG C d r pc L (.long x :: .int i :: .ref (cad C k) :: st) σ Q := s_lst hC hd hT hin (K _ rfl)
end SX
theorem m_ent (as : List Value) (n : Nat) : lA (dent as) (lent as ++ List.replicate n none) := by
  have key : ∀ (as : List Value) (k j : Nat) (v : Value), (lent as ++ List.replicate n none)[j]? = some (some v) → (lv_args k as).lookup (k + j) = some v := by
    intro as
    induction as with
    | nil =>
      intro k j v h
      simp [lent, List.getElem?_replicate] at h
    | cons w t ih =>
      intro k j v h
      unfold lent at h
      unfold lv_args
      by_cases e : w.category = 2
      · rw [if_pos e] at h
        cases j with
        | zero =>
          obtain rfl : w = v := by simpa using h
          simp [List.lookup_cons]
        | succ j =>
          cases j with
          | zero => simp at h
          | succ j =>
            have h2 : (lent t ++ List.replicate n none)[j]? = some (some v) := by simpa using h
            have := ih (k + 2) j v h2
            rw [List.lookup_cons, if_pos e]
            have e2 : (k + (j + 1 + 1) == k) = false := by simp
            rw [e2, show k + (j + 1 + 1) = k + 2 + j from by omega]
            exact this
      · rw [if_neg e] at h
        cases j with
        | zero =>
          obtain rfl : w = v := by simpa using h
          simp [List.lookup_cons]
        | succ j =>
          have h2 : (lent t ++ List.replicate n none)[j]? = some (some v) := by simpa using h
          have := ih (k + 1) j v h2
          rw [List.lookup_cons, if_neg e]
          have e2 : (k + (j + 1) == k) = false := by simp
          rw [e2, show k + (j + 1) = k + 1 + j from by omega]
          exact this
  intro j v h
  have := key as 0 j v h
  rw [Nat.zero_add] at this
  exact this

end
