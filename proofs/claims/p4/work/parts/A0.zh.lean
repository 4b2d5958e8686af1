/-! the class's heap in one form, by kinds of fields: types of cells (0: not the class's; 3 .. 15 objects by their class; 20 .. 25 rows: int, byte, long, boolean, Num, Ratio; 40 and more: an object that is being made), lengths, numbers (by field and object), references (likewise; 0 is null), rows of numbers, of longs, of objects, to whom a row belongs, how many cells there are, how many cells and slots were made -/
abbrev zS : Type := (Nat → Nat) × (Nat → Nat) × (Nat → Nat → Int32) × (Nat → Nat → Nat) × (Nat → Nat → Int32) × (Nat → Nat → Int64) × (Nat → Nat → Option Nat) × (Nat → Nat × Nat) × Nat × Nat × Nat
abbrev zT (κ : zS) : Nat → Nat := κ.1
abbrev zN (κ : zS) : Nat → Nat := κ.2.1
abbrev zI (κ : zS) : Nat → Nat → Int32 := κ.2.2.1
abbrev zR (κ : zS) : Nat → Nat → Nat := κ.2.2.2.1
abbrev zA (κ : zS) : Nat → Nat → Int32 := κ.2.2.2.2.1
abbrev zJ (κ : zS) : Nat → Nat → Int64 := κ.2.2.2.2.2.1
abbrev zQ (κ : zS) : Nat → Nat → Option Nat := κ.2.2.2.2.2.2.1
abbrev zO (κ : zS) : Nat → Nat × Nat := κ.2.2.2.2.2.2.2.1
abbrev zn (κ : zS) : Nat := κ.2.2.2.2.2.2.2.2.1
abbrev zc (κ : zS) : Nat := κ.2.2.2.2.2.2.2.2.2.1
abbrev zs (κ : zS) : Nat := κ.2.2.2.2.2.2.2.2.2.2
/-- fields that hold references: what type; fields that hold a boolean -/
def zRT : List (Nat × Nat) := [(300, 7), (301, 14), (302, 6), (303, 6), (305, 5), (306, 20), (307, 20), (308, 20), (309, 20), (310, 23), (311, 23), (312, 20), (313, 20), (314, 20), (400, 8), (401, 8), (402, 8), (403, 8), (404, 8), (405, 8), (406, 22), (500, 20), (501, 20), (502, 20), (503, 20), (504, 20), (505, 20), (506, 20), (507, 20), (508, 20), (603, 20), (604, 20), (605, 20), (700, 5), (701, 20), (705, 20), (707, 20), (718, 20), (719, 20), (800, 20), (900, 3), (901, 12), (902, 4), (903, 8), (904, 6), (905, 20), (906, 20), (907, 20), (908, 20), (909, 20), (910, 20), (911, 20), (912, 20), (913, 24), (1000, 13), (1001, 5), (1006, 20), (1007, 20), (1008, 20), (1009, 20), (1011, 20), (1012, 20), (1013, 23), (1015, 20), (1100, 8), (1101, 8), (1200, 3), (1201, 14), (1202, 4), (1205, 25), (1206, 25), (1207, 8), (1208, 11), (1209, 8), (1210, 8), (1211, 8), (1212, 8), (1213, 8), (1214, 24), (1215, 20), (1216, 20), (1300, 21), (1302, 20), (1303, 20), (1304, 20), (1401, 20), (1402, 20), (1403, 20), (1404, 20), (1405, 20), (1406, 23), (1408, 20), (1409, 20), (1410, 20), (1411, 20), (1412, 20), (1413, 20), (1414, 20), (1415, 20), (1500, 13), (1501, 10), (1502, 5), (1503, 5), (1506, 7), (1507, 3), (1508, 12), (1509, 9), (1510, 11), (1511, 20), (1514, 22), (1515, 20), (1516, 20), (1517, 20)]
def zZT : List Nat := [304, 1005, 1203, 1204, 1504, 1513]
def zr (f : Nat) : Option Nat := zRT.lookup f
def zV (κ : zS) (a f : Nat) : Value := match zr f with
  | some _ => if zR κ f a = 0 then .null else .ref (zR κ f a)
  | none => .int (zI κ f a)
def zFs (κ : zS) (a ci : Nat) : List Value := (List.range (nN ci)).map fun k => zV κ a (100 * ci + k)
def zRow (κ : zS) (a : Nat) : dC := if zT κ a = 22 then .inl (2, zN κ a, .inr (.inl (zJ κ a))) else if zT κ a = 24 ∨ zT κ a = 25 then .inl (zT κ a - 20, zN κ a, .inr (.inr (.inr (.inr (zQ κ a))))) else .inl (zT κ a - 20, zN κ a, .inl (zA κ a))
def zCell (κ : zS) (a : Nat) : dC := if 40 ≤ zT κ a then .inr (zT κ a - 40, zFs κ a (zT κ a - 40)) else if zT κ a < 20 then .inr (zT κ a, zFs κ a (zT κ a)) else zRow κ a
/-- the class's setting: texts' places, texts, b, what lies beside -/
abbrev zC : Type := (Nat → Nat) × List (Nat × Nat × List Int32) × Nat × dH
abbrev yEn (C : zC) : dE := dEE C.1 C.2.1
abbrev yb (C : zC) : Nat := C.2.2.1
abbrev yh (C : zC) : dH := C.2.2.2
def zH (C : zC) (κ : zS) : dH := (some (zn κ), fun a => if zT κ a = 0 then (yh C).2 a else some (zCell κ a))
/-- what can be done with it -/
def ui (κ : zS) (f a : Nat) (x : Int32) : zS := (κ.1, κ.2.1, fun g b => if g = f ∧ b = a then x else κ.2.2.1 g b, κ.2.2.2)
def ur (κ : zS) (f a r : Nat) : zS := (κ.1, κ.2.1, κ.2.2.1, fun g b => if g = f ∧ b = a then r else κ.2.2.2.1 g b, κ.2.2.2.2)
def uo (κ : zS) (f a r : Nat) : zS := (κ.1, κ.2.1, κ.2.2.1, fun g b => if g = f ∧ b = a then r else κ.2.2.2.1 g b, κ.2.2.2.2.1, κ.2.2.2.2.2.1, κ.2.2.2.2.2.2.1, fun b => if b = r then (f, a) else κ.2.2.2.2.2.2.2.1 b, κ.2.2.2.2.2.2.2.2)
def ua (κ : zS) (a i : Nat) (x : Int32) : zS := (κ.1, κ.2.1, κ.2.2.1, κ.2.2.2.1, fun b => if b = a then upd (κ.2.2.2.2.1 a) i x else κ.2.2.2.2.1 b, κ.2.2.2.2.2)
def uj (κ : zS) (a i : Nat) (x : Int64) : zS := (κ.1, κ.2.1, κ.2.2.1, κ.2.2.2.1, κ.2.2.2.2.1, fun b => if b = a then vp_updL (κ.2.2.2.2.2.1 a) i x else κ.2.2.2.2.2.1 b, κ.2.2.2.2.2.2)
def uq (κ : zS) (a i : Nat) (x : Option Nat) : zS := (κ.1, κ.2.1, κ.2.2.1, κ.2.2.2.1, κ.2.2.2.2.1, κ.2.2.2.2.2.1, fun b => if b = a then va_up (κ.2.2.2.2.2.2.1 a) i x else κ.2.2.2.2.2.2.1 b, κ.2.2.2.2.2.2.2)
def uc (κ : zS) (s a sp dp n : Nat) : zS := (κ.1, κ.2.1, κ.2.2.1, κ.2.2.2.1, fun b => if b = a then va_cpy (κ.2.2.2.2.1 s) (κ.2.2.2.2.1 a) sp dp n else κ.2.2.2.2.1 b, κ.2.2.2.2.2)
/-- a new row; a new object; an object that has been made -/
def na (κ : zS) (t n : Nat) : zS := (fun b => if b = zn κ then t else κ.1 b, fun b => if b = zn κ then n else κ.2.1 b, κ.2.2.1, κ.2.2.2.1, fun b => if b = zn κ then fun _ => 0 else κ.2.2.2.2.1 b, fun b => if b = zn κ then fun _ => 0 else κ.2.2.2.2.2.1 b, fun b => if b = zn κ then fun _ => none else κ.2.2.2.2.2.2.1 b, fun b => if b = zn κ then (0, 0) else κ.2.2.2.2.2.2.2.1 b, zn κ + 1, zc κ + 1, zs κ + n)
def noo (κ : zS) (ci : Nat) : zS := (fun b => if b = zn κ then 40 + ci else κ.1 b, fun b => if b = zn κ then 0 else κ.2.1 b, fun g b => if b = zn κ then 0 else κ.2.2.1 g b, fun g b => if b = zn κ then 0 else κ.2.2.2.1 g b, κ.2.2.2.2.1, κ.2.2.2.2.2.1, κ.2.2.2.2.2.2.1, κ.2.2.2.2.2.2.2.1, zn κ + 1, zc κ + 1, zs κ + nN ci)
def nff (κ : zS) (w : Nat) : zS := (fun b => if b = w then κ.1 w - 40 else κ.1 b, κ.2)
section ZH
variable {C : zC} {κ : zS} {a f ci : Nat}
/-- an object, made or being made -/
def zBo (κ : zS) (a ci : Nat) : Prop := zT κ a = ci ∨ zT κ a = 40 + ci
theorem zH_ob (h : zBo κ a ci) (h0 : 0 < ci) (h1 : ci < 20) : (zH C κ).2 a = some (.inr (ci, zFs κ a ci)) := by
  show (if zT κ a = 0 then _ else some (zCell κ a)) = _
  rcases h with h | h
  · rw [if_neg (by omega)]
    unfold zCell
    rw [if_neg (by omega), if_pos (by omega), h]
  · rw [if_neg (by omega)]
    unfold zCell
    rw [if_pos (by omega), h]
    have e : 40 + ci - 40 = ci := by omega
    rw [e]
theorem zH_i {t : Nat} (h : zT κ a = 20 + t) (ht : t = 0 ∨ t = 1 ∨ t = 3) : (zH C κ).2 a = some (.inl (t, zN κ a, .inl (zA κ a))) := by
  show (if zT κ a = 0 then _ else some (zCell κ a)) = _
  rw [if_neg (by omega)]
  unfold zCell
  rw [if_neg (by omega), if_neg (by omega)]
  unfold zRow
  rw [if_neg (by omega), if_neg (by omega), h]
  have e : 20 + t - 20 = t := by omega
  rw [e]
theorem zH_j (h : zT κ a = 22) : (zH C κ).2 a = some (.inl (2, zN κ a, .inr (.inl (zJ κ a)))) := by
  show (if zT κ a = 0 then _ else some (zCell κ a)) = _
  rw [if_neg (by omega)]
  unfold zCell
  rw [if_neg (by omega), if_neg (by omega)]
  unfold zRow
  rw [if_pos h]
theorem zH_q {t : Nat} (h : zT κ a = 20 + t) (ht : t = 4 ∨ t = 5) : (zH C κ).2 a = some (.inl (t, zN κ a, .inr (.inr (.inr (.inr (zQ κ a)))))) := by
  show (if zT κ a = 0 then _ else some (zCell κ a)) = _
  rw [if_neg (by omega)]
  unfold zCell
  rw [if_neg (by omega), if_neg (by omega)]
  unfold zRow
  rw [if_neg (by omega), if_pos (by omega), h]
  have e : 20 + t - 20 = t := by omega
  rw [e]
theorem zFs_at {k : Nat} (hk : k < nN ci) : (zFs κ a ci)[k]? = some (zV κ a (100 * ci + k)) := by
  unfold zFs
  rw [List.getElem?_map, List.getElem?_range hk]
  rfl
theorem zFs_len : (zFs κ a ci).length = nN ci := by unfold zFs; simp
theorem zFs_set {κ' : zS} {k : Nat} {v : Value} (hv : zV κ' a (100 * ci + k) = v) (ho : ∀ j, j ≠ k → zV κ' a (100 * ci + j) = zV κ a (100 * ci + j)) : (zFs κ a ci).set k v = zFs κ' a ci := by
  apply List.ext_getElem?
  intro j
  by_cases hj : j < nN ci
  · by_cases e : j = k
    · subst e
      rw [List.getElem?_set_self (by rw [zFs_len]; exact hj), zFs_at hj, hv]
    · rw [List.getElem?_set_ne (fun h => e h.symm), zFs_at hj, zFs_at hj, ho j e]
  · rw [List.getElem?_eq_none (by rw [List.length_set, zFs_len]; omega), List.getElem?_eq_none (by rw [zFs_len]; omega)]
theorem zFs_eq {κ' : zS} (h : ∀ g, zV κ' a g = zV κ a g) : zFs κ' a ci = zFs κ a ci := by
  unfold zFs
  exact List.map_congr_left (fun k _ => h _)
theorem zCell_eq {κ' : zS} (hT : zT κ' a = zT κ a) (hN : zN κ' a = zN κ a) (hV : ∀ g, zV κ' a g = zV κ a g) (hA : zA κ' a = zA κ a) (hJ : zJ κ' a = zJ κ a) (hQ : zQ κ' a = zQ κ a) : zCell κ' a = zCell κ a := by
  unfold zCell zRow
  rw [hT, hN, hA, hJ, hQ, zFs_eq hV, zFs_eq hV]
theorem zH_eq {h1 h2 : dH} (h : h1.1 = h2.1) (h' : ∀ a, h1.2 a = h2.2 a) : h1 = h2 := Prod.ext h (funext h')
/-- a field changes -/
theorem zH_put {κ' : zS} {k : Nat} {v : Value} (hB : zBo κ a ci) (h0 : 0 < ci) (h1 : ci < 20) (hT : zT κ' = zT κ) (hN : zN κ' = zN κ) (hA : zA κ' = zA κ) (hJ : zJ κ' = zJ κ) (hQ : zQ κ' = zQ κ) (hn : zn κ' = zn κ) (hv : zV κ' a (100 * ci + k) = v) (ho : ∀ j, j ≠ k → zV κ' a (100 * ci + j) = zV κ a (100 * ci + j)) (hx : ∀ b g, b ≠ a → zV κ' b g = zV κ b g) : dupd (zH C κ) a (.inr (ci, (zFs κ a ci).set k v)) = zH C κ' := by
  refine zH_eq (by show some (zn κ) = some (zn κ'); rw [hn]) (fun b => ?_)
  show (if b = a then _ else (zH C κ).2 b) = _
  by_cases e : b = a
  · rw [if_pos e, e, zH_ob (κ := κ') (by unfold zBo; rw [hT]; exact hB) h0 h1, zFs_set hv ho]
  · rw [if_neg e]
    show (if zT κ b = 0 then _ else some (zCell κ b)) = (if zT κ' b = 0 then _ else some (zCell κ' b))
    rw [hT, zCell_eq (by rw [hT]) (by rw [hN]) (fun g => hx b g e) (by rw [hA]) (by rw [hJ]) (by rw [hQ])]
/-- a row changes -/
theorem zH_ast {κ' : zS} {e : dC} (hT : zT κ' = zT κ) (hN : zN κ' = zN κ) (hI : zI κ' = zI κ) (hR : zR κ' = zR κ) (hn : zn κ' = zn κ) (h0 : zT κ a ≠ 0) (he : zCell κ' a = e) (hA : ∀ b, b ≠ a → zA κ' b = zA κ b ∧ zJ κ' b = zJ κ b ∧ zQ κ' b = zQ κ b) : dupd (zH C κ) a e = zH C κ' := by
  refine zH_eq (by show some (zn κ) = some (zn κ'); rw [hn]) (fun b => ?_)
  show (if b = a then _ else (zH C κ).2 b) = (if zT κ' b = 0 then _ else some (zCell κ' b))
  rw [hT]
  by_cases e1 : b = a
  · rw [if_pos e1, e1, if_neg h0, he]
  · rw [if_neg e1]
    obtain ⟨g1, g2, g3⟩ := hA b e1
    show (if zT κ b = 0 then _ else some (zCell κ b)) = _
    rw [zCell_eq (κ' := κ') (by rw [hT]) (by rw [hN]) (fun g => by unfold zV; rw [hI, hR]) g1 g2 g3]
/-- a new cell -/
theorem zH_new {κ' : zS} {e : dC} (hw : zn κ' = zn κ + 1) (hT : zT κ' (zn κ) ≠ 0) (he : zCell κ' (zn κ) = e) (ho : ∀ b, b ≠ zn κ → zT κ' b = zT κ b ∧ zCell κ' b = zCell κ b) : dnew (zH C κ) (zn κ) e = zH C κ' := by
  refine zH_eq (by show some (zn κ + 1) = some (zn κ'); rw [hw]) (fun b => ?_)
  show (if b = zn κ then _ else (zH C κ).2 b) = (if zT κ' b = 0 then _ else some (zCell κ' b))
  by_cases e1 : b = zn κ
  · rw [if_pos e1, e1, if_neg hT, he]
  · rw [if_neg e1, (ho b e1).1, (ho b e1).2]
    rfl
theorem zV_ui {x : Int32} (hr : zr f = none) : zV (ui κ f a x) a f = .int x := by
  unfold zV
  rw [hr]
  show Value.int (if f = f ∧ a = a then x else _) = _
  rw [if_pos ⟨rfl, rfl⟩]
theorem zV_ui2 {x : Int32} {b g : Nat} (h : ¬ (g = f ∧ b = a)) : zV (ui κ f a x) b g = zV κ b g := by
  unfold zV
  show (match zr g with | some _ => _ | none => Value.int (if g = f ∧ b = a then x else _)) = _
  rw [if_neg h]
  rfl
theorem zV_ur {r t : Nat} {κ' : zS} (hr : zr f = some t) (h0 : r ≠ 0) (e : zR κ' f a = r) : zV κ' a f = .ref r := by
  unfold zV
  rw [hr]
  show (if zR κ' f a = 0 then _ else _) = _
  rw [e, if_neg h0]
theorem zV_ur2 {r b g : Nat} (h : ¬ (g = f ∧ b = a)) : zV (ur κ f a r) b g = zV κ b g := by
  have e : zR (ur κ f a r) g b = zR κ g b := if_neg h
  unfold zV
  rw [e]
  rfl
theorem zV_uo2 {r b g : Nat} (h : ¬ (g = f ∧ b = a)) : zV (uo κ f a r) b g = zV κ b g := by
  have e : zR (uo κ f a r) g b = zR κ g b := if_neg h
  unfold zV
  rw [e]
  rfl
end ZH
