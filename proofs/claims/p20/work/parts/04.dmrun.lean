/-! the small machine's run: methods by their rows (name, bytes, locals, answer's type, static, number of its class, number of its parameters);
    an environment: the methods, field links, method links, constants, long constants, fields' types and whether final -/
abbrev dM : Type := MethodName × ByteArray × Nat × Option FieldType × Bool × Nat × Nat
abbrev dE : Type := (Nat → Option dM) × (Nat → Nat → Option (Nat × Nat)) × (Nat → Nat → Option Nat) × (Nat → Nat → Option Int32) × (Nat → Nat → Option Int64) × (Nat → Nat → Option (FieldType × Bool))
abbrev dG : Type := List Value × dH × Nat × Nat
def dgetf (E : dE) (o len idx : Nat) (st : List Value) (h : dH) (cs ss : Nat) : Option dG := match st with
  | .ref a :: r => match h.2 a with
    | some (.inr q) => match E.2.1 o idx with
      | some w => if len = 3 ∧ w.1 = q.1 then (q.2[w.2]?).map fun v => (v :: r, h, cs, ss) else none
      | none => none
    | _ => none
  | _ => none
def dputf (E : dE) (o len idx : Nat) (st : List Value) (h : dH) (cs ss : Nat) : Option dG := match st with
  | v :: .ref a :: r => match h.2 a with
    | some (.inr q) => match E.2.1 o idx with
      | some w => match E.2.2.2.2.2 w.1 w.2 with
        | some f => if len = 3 ∧ w.1 = q.1 ∧ f.2 = false ∧ narrow f.1 v = v ∧ fits f.1 v = true ∧ w.2 < q.2.length then some (r, dupd h a (.inr (q.1, q.2.set w.2 v)), cs, ss) else none
        | none => none
      | none => none
    | _ => none
  | _ => none
def daldI (t len : Nat) (st : List Value) (h : dH) (cs ss : Nat) : Option dG := match st with
  | .int i :: .ref a :: r => match h.2 a with
    | some (.inl (t', n, .inl f)) => if len = 1 ∧ t' = t ∧ ¬ (i < 0 ∨ n ≤ i.toNatClampNeg) then some (.int (f i.toNatClampNeg) :: r, h, cs, ss) else none
    | _ => none
  | _ => none
def daldL (len : Nat) (st : List Value) (h : dH) (cs ss : Nat) : Option dG := match st with
  | .int i :: .ref a :: r => match h.2 a with
    | some (.inl (t', n, .inr (.inl f))) => if len = 1 ∧ t' = 2 ∧ ¬ (i < 0 ∨ n ≤ i.toNatClampNeg) then some (.long (f i.toNatClampNeg) :: r, h, cs, ss) else none
    | _ => none
  | _ => none
def dastI (t len : Nat) (nr : Int32 → Int32) (st : List Value) (h : dH) (cs ss : Nat) : Option dG := match st with
  | .int x :: .int i :: .ref a :: r => match h.2 a with
    | some (.inl (t', n, .inl f)) => if len = 1 ∧ t' = t ∧ ¬ (i < 0 ∨ n ≤ i.toNatClampNeg) then some (r, dupd h a (.inl (t, n, .inl (upd f i.toNatClampNeg (nr x)))), cs, ss) else none
    | _ => none
  | _ => none
def dastL (len : Nat) (st : List Value) (h : dH) (cs ss : Nat) : Option dG := match st with
  | .long x :: .int i :: .ref a :: r => match h.2 a with
    | some (.inl (t', n, .inr (.inl f))) => if len = 1 ∧ t' = 2 ∧ ¬ (i < 0 ∨ n ≤ i.toNatClampNeg) then some (r, dupd h a (.inl (2, n, .inr (.inl (vp_updL f i.toNatClampNeg x)))), cs, ss) else none
    | _ => none
  | _ => none
def dalen (len : Nat) (st : List Value) (h : dH) (cs ss : Nat) : Option dG := match st with
  | .ref a :: r => match h.2 a with
    | some (.inl (t, x)) => if len = 1 ∧ (dty t).isSome = true then some (.int (Int32.ofNat x.1) :: r, h, cs, ss) else none
    | _ => none
  | _ => none
def dnewa (len : Nat) (at0 : ArrayType) (st : List Value) (h : dH) (cs ss : Nat) : Option dG := match st with
  | .int n :: r => match dnty at0 with
    | some (t, z0) => if len = 2 ∧ ¬ n < 0 ∧ n.toNatClampNeg * componentBytes (newarray.typeOf at0) ≤ 536870912 then some (.ref h.1 :: r, dnew h (.inl (t, n.toNatClampNeg, z0)), cs + 1, ss + n.toNatClampNeg) else none
    | none => none
  | _ => none
def dldc (len n : Nat) (o : Option Value) (st : List Value) (h : dH) (cs ss : Nat) : Option dG := match o with
  | some v => if len = n then some (v :: st, h, cs, ss) else none
  | none => none
def dheap (E : dE) (o : Nat) (i : Instr) (len : Nat) (st : List Value) (h : dH) (cs ss : Nat) : Option dG := match i with
  | .getfield idx => dgetf E o len idx st h cs ss
  | .putfield idx => dputf E o len idx st h cs ss
  | .iaload => daldI 0 len st h cs ss
  | .baload => match daldI 1 len st h cs ss with
    | some g => some g
    | none => daldI 3 len st h cs ss
  | .laload => daldL len st h cs ss
  | .iastore => dastI 0 len (fun x => x) st h cs ss
  | .bastore => match dastI 1 len (vp_nar .byte) st h cs ss with
    | some g => some g
    | none => dastI 3 len (vp_nar .boolean) st h cs ss
  | .lastore => dastL len st h cs ss
  | .arraylength => dalen len st h cs ss
  | .newarray at0 => dnewa len at0 st h cs ss
  | .ldc idx => dldc len 2 ((E.2.2.2.1 o idx).map Value.int) st h cs ss
  | .ldc_w idx => dldc len 3 ((E.2.2.2.1 o idx).map Value.int) st h cs ss
  | .ldc2_w idx => dldc len 3 ((E.2.2.2.2.1 o idx).map Value.long) st h cs ss
  | _ => none
def dret (r : dM) (i : Instr) (len : Nat) (st : List Value) : Option (Option Value) := match i with
  | .ireturn => match st with
    | [.int v] => match r.2.2.2.1 with
      | some ty => if len = 1 ∧ narrow ty (.int v) = .int v then some (some (.int v)) else none
      | none => none
    | _ => none
  | .lreturn => match st with
    | [.long v] => match r.2.2.2.1 with
      | some .long => if len = 1 then some (some (.long v)) else none
      | _ => none
    | _ => none
  | .return_ => match st with
    | [] => match r.2.2.2.1 with
      | none => if len = 1 then some none else none
      | _ => none
    | _ => none
  | _ => none
abbrev dV : Type := dM × List Value × List Value
def dinvV (E : dE) (o len idx : Nat) (st : List Value) (h : dH) : Option dV := match E.2.2.1 o idx with
  | some j => match E.1 j with
    | some r => match st.drop r.2.2.2.2.2.2 with
      | .ref b :: rest => match h.2 b with
        | some (.inr q) => if len = 3 ∧ r.2.2.2.2.1 = false ∧ q.1 = r.2.2.2.2.2.1 ∧ (rest.map fun v => v.category).sum ≤ 8 ∧ (lg_sl (.ref b :: (st.take r.2.2.2.2.2.2).reverse)).length ≤ r.2.2.1 then some (r, .ref b :: (st.take r.2.2.2.2.2.2).reverse, rest) else none
        | _ => none
      | _ => none
    | none => none
  | none => none
def dinvS (E : dE) (o len idx : Nat) (st : List Value) : Option dV := match E.2.2.1 o idx with
  | some j => match E.1 j with
    | some r => if len = 3 ∧ r.2.2.2.2.1 = true ∧ r.2.2.2.2.2.2 ≤ st.length ∧ ((st.drop r.2.2.2.2.2.2).map fun v => v.category).sum ≤ 8 ∧ (lg_sl ((st.take r.2.2.2.2.2.2).reverse)).length ≤ r.2.2.1 then some (r, (st.take r.2.2.2.2.2.2).reverse, st.drop r.2.2.2.2.2.2) else none
    | none => none
  | none => none
def dinv (E : dE) (o : Nat) (i : Instr) (len : Nat) (st : List Value) (h : dH) : Option dV := match i with
  | .invokevirtual idx => dinvV E o len idx st h
  | .invokestatic idx => dinvS E o len idx st
  | _ => none
abbrev dZ : Type := Option Value × dH × Nat × Nat
def drun (E : dE) : Nat → Nat → dM → Nat → dL0 → List Value → dH → Nat → Nat → Option dZ
  | 0, _, _, _, _, _, _, _, _ => none
  | n + 1, d, r, pc, lo, st, h, cs, ss => match decode r.2.1 pc with
    | .error _ => none
    | .ok (i, len) => match dpure i len pc r.2.2.1 lo st with
      | some z => drun E n d r z.1 z.2.1 z.2.2 h cs ss
      | none => match dheap E r.2.2.2.2.2.1 i len st h cs ss with
        | some g => drun E n d r (pc + len) lo g.1 g.2.1 g.2.2.1 g.2.2.2
        | none => match dret r i len st with
          | some v => some (v, h, cs, ss)
          | none => match d with
            | 0 => none
            | d + 1 => match dinv E r.2.2.2.2.2.1 i len st h with
              | none => none
              | some y => match drun E n d y.1 0 (dent y.2.1) [] h 0 0 with
                | none => none
                | some z => drun E n (d + 1) r (pc + 3) lo (z.1.toList ++ y.2.2) z.2.1 (cs + z.2.2.1) (ss + z.2.2.2)
