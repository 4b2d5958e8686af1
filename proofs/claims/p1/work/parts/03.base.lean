/-! what all contracts speak of: D the classes' numbers, cy the array classes' numbers (0 int, 1 byte, 2 long, 3 boolean, 4 Num, 5 Ratio) -/
abbrev tyK (cy : Nat → ClassId) : List (ClassId × FieldType) := [(cy 0, .int), (cy 1, .byte), (cy 2, .long), (cy 3, .boolean), (cy 4, .object "ChanceWorks$Num"), (cy 5, .object "ChanceWorks$Ratio")]
/-- one class a type of row -/
theorem k_one {D : va_G} {cl : List vw_C} {tys : List (ClassId × FieldType)} {U : State} (h : va_K D cl tys U) (i j : Nat) {a b : ClassId} {ty : FieldType} (hi : tys[i]? = some (a, ty)) (hj : tys[j]? = some (b, ty)) : b = a := by
  have h1 := (h.2 i _ hi).2
  have h2 := (h.2 j _ hj).2
  cases ty with
  | object C =>
    obtain ⟨_, _, _, _, _, e1⟩ := h1
    obtain ⟨_, _, _, _, _, e2⟩ := h2
    exact Option.some.inj (e2.symm.trans e1)
  | _ => exact Option.some.inj (h2.symm.trans h1)
/-- what holds of the tables all through: the classes, the rows' classes, rows of Num and of Ratio -/
def kK (D : va_G) (cy : Nat → ClassId) (U : State) : Prop := va_K D vwCl (tyK cy) U ∧ va_AO "ChanceWorks$Num" U ∧ va_AO "ChanceWorks$Ratio" U
theorem kK.moved {D : va_G} {cy : Nat → ClassId} {u U : State} (hvm : u.vm.Alike U.vm) (h : kK D cy u) : kK D cy U := ⟨va_K.moved hvm h.1, va_AO.moved hvm h.2.1, va_AO.moved hvm h.2.2⟩
