/-! the small machine's run: methods by their rows (name, bytes, locals, answer's type, static, number of its class, number of its parameters);
    an environment: methods; field links; method links; constants; long constants; fields' types and whether final; classes of 'new'; their first fields; rows of objects; what is built in; texts; statics -/
abbrev dM : Type := MethodName × ByteArray × Nat × Option FieldType × Bool × Nat × Nat
abbrev dE : Type := (Nat → Option dM) × (Nat → Nat → Option (Nat × Nat)) × (Nat → Nat → Option Nat) × (Nat → Nat → Option Int32) × (Nat → Nat → Option Int64) × (Nat → Nat → Option (FieldType × Bool)) × (Nat → Nat → Option Nat) × (Nat → Option (List Value)) × (Nat → Nat → Option Nat) × (Nat → Nat → Option Nat) × (Nat → Nat → Option Nat) × (Nat → Nat → Option Value) × (Nat → Nat → Option Bool) × List (Nat × Nat × List Int32)
abbrev eMT (E : dE) := E.1
abbrev eFL (E : dE) := E.2.1
abbrev eML (E : dE) := E.2.2.1
abbrev eCN (E : dE) := E.2.2.2.1
abbrev eCL (E : dE) := E.2.2.2.2.1
abbrev eFT (E : dE) := E.2.2.2.2.2.1
abbrev eNW (E : dE) := E.2.2.2.2.2.2.1
abbrev eND (E : dE) := E.2.2.2.2.2.2.2.1
abbrev eAN (E : dE) := E.2.2.2.2.2.2.2.2.1
abbrev eBI (E : dE) := E.2.2.2.2.2.2.2.2.2.1
abbrev eSR (E : dE) := E.2.2.2.2.2.2.2.2.2.2.1
abbrev eGS (E : dE) := E.2.2.2.2.2.2.2.2.2.2.2.1
abbrev eSF (E : dE) := E.2.2.2.2.2.2.2.2.2.2.2.2.1
abbrev eTL (E : dE) := E.2.2.2.2.2.2.2.2.2.2.2.2.2
abbrev dG : Type := List Value × dH × Nat × Nat
def dgetf (E : dE) (o len idx : Nat) (st : List Value) (h : dH) (cs ss : Nat) : Option dG := match st with
  | .ref a :: r => match h.2 a with
    | some (.inr q) => match eFL E o idx with
      | some w => if len = 3 ∧ w.1 = q.1 then (q.2[w.2]?).map fun v => (v :: r, h, cs, ss) else none
      | none => none
    | _ => none
  | _ => none
def dputf (E : dE) (b o len idx : Nat) (ini : Bool) (st : List Value) (h : dH) (cs ss : Nat) : Option dG := match st with
  | v :: .ref a :: r => match h.2 a with
    | some (.inr q) => match eFL E o idx with
      | some w => match eFT E w.1 w.2 with
        | some f => if len = 3 ∧ b ≤ a ∧ w.1 = q.1 ∧ (f.2 = false ∨ (ini = true ∧ o = q.1)) ∧ narrow f.1 v = v ∧ fits f.1 v = true ∧ w.2 < q.2.length then some (r, dupd h a (.inr (q.1, q.2.set w.2 v)), cs, ss) else none
        | none => none
      | none => none
    | _ => none
  | _ => none
def daldI (t len : Nat) (st : List Value) (h : dH) (cs ss : Nat) : Option dG := match st with
  | .int i :: .ref a :: r => match h.2 a with
    | some (.inl (t', n, .inl f)) => if len = 1 ∧ t' = t ∧ ¬ (i < 0 ∨ n ≤ i.toNatClampNeg) then some (.int (f i.toNatClampNeg) :: r, h, cs, ss) else none
    | _ => none
  | _ => none
def daldL (len : Nat) (st : List Value) (h : dH) (cs ss : Nat) : Option dG := match st with
  | .int i :: .ref a :: r => match h.2 a with
    | some (.inl (t', n, .inr (.inl f))) => if len = 1 ∧ t' = 2 ∧ ¬ (i < 0 ∨ n ≤ i.toNatClampNeg) then some (.long (f i.toNatClampNeg) :: r, h, cs, ss) else none
    | _ => none
  | _ => none
def dastI (b t len : Nat) (nr : Int32 → Int32) (st : List Value) (h : dH) (cs ss : Nat) : Option dG := match st with
  | .int x :: .int i :: .ref a :: r => match h.2 a with
    | some (.inl (t', n, .inl f)) => if len = 1 ∧ b ≤ a ∧ t' = t ∧ ¬ (i < 0 ∨ n ≤ i.toNatClampNeg) then some (r, dupd h a (.inl (t, n, .inl (upd f i.toNatClampNeg (nr x)))), cs, ss) else none
    | _ => none
  | _ => none
def dastL (b len : Nat) (st : List Value) (h : dH) (cs ss : Nat) : Option dG := match st with
  | .long x :: .int i :: .ref a :: r => match h.2 a with
    | some (.inl (t', n, .inr (.inl f))) => if len = 1 ∧ b ≤ a ∧ t' = 2 ∧ ¬ (i < 0 ∨ n ≤ i.toNatClampNeg) then some (r, dupd h a (.inl (2, n, .inr (.inl (vp_updL f i.toNatClampNeg x)))), cs, ss) else none
    | _ => none
  | _ => none
def dalen (len : Nat) (st : List Value) (h : dH) (cs ss : Nat) : Option dG := match st with
  | .ref a :: r => match h.2 a with
    | some (.inl (t, x)) => if len = 1 ∧ (dty t).isSome = true then some (.int (Int32.ofNat x.1) :: r, h, cs, ss) else none
    | _ => none
  | _ => none
def dnewa (len : Nat) (at0 : ArrayType) (st : List Value) (h : dH) (cs ss : Nat) : Option dG := match st with
  | .int n :: r => match dnty at0 with
    | some (t, z0) => match h.1 with
      | some w => if len = 2 ∧ ¬ n < 0 ∧ n.toNatClampNeg * componentBytes (newarray.typeOf at0) ≤ 536870912 then some (.ref w :: r, dnew h w (.inl (t, n.toNatClampNeg, z0)), cs + 1, ss + n.toNatClampNeg) else none
      | none => none
    | none => none
  | _ => none
def dldc (len n : Nat) (o : Option Value) (st : List Value) (h : dH) (cs ss : Nat) : Option dG := match o with
  | some v => if len = n then some (v :: st, h, cs, ss) else none
  | none => none
def dnewo (E : dE) (o len idx : Nat) (st : List Value) (h : dH) (cs ss : Nat) : Option dG := match eNW E o idx with
  | some ci => match eND E ci with
    | some fs => match h.1 with
      | some w => if len = 3 then some (.ref w :: st, dnew h w (.inr (ci, fs)), cs + 1, ss + fs.length) else none
      | none => none
    | none => none
  | none => none
def dnewq (E : dE) (o len idx : Nat) (st : List Value) (h : dH) (cs ss : Nat) : Option dG := match eAN E o idx with
  | some t => match st with
    | .int n :: r => match h.1 with
      | some w => if len = 3 ∧ ¬ n < 0 ∧ n.toNatClampNeg * 4 ≤ 536870912 then some (.ref w :: r, dnew h w (.inl (t, n.toNatClampNeg, .inr (.inr (.inr (.inr fun _ => none))))), cs + 1, ss + n.toNatClampNeg) else none
      | none => none
    | _ => none
  | none => none
def dobj : Nat → Option Nat
  | 4 => some 8 | 5 => some 11 | _ => none
def daldQ (len : Nat) (st : List Value) (h : dH) (cs ss : Nat) : Option dG := match st with
  | .int i :: .ref a :: r => match h.2 a with
    | some (.inl (t', n, .inr (.inr (.inr (.inr f))))) => if len = 1 ∧ (dobj t').isSome = true ∧ ¬ (i < 0 ∨ n ≤ i.toNatClampNeg) then some (va_rf (f i.toNatClampNeg) :: r, h, cs, ss) else none
    | _ => none
  | _ => none
def dastQ (b len : Nat) (st : List Value) (h : dH) (cs ss : Nat) : Option dG := match st with
  | .ref v :: .int i :: .ref a :: r => match h.2 a with
    | some (.inl (t', n, .inr (.inr (.inr (.inr f))))) => match h.2 v with
      | some (.inr q) => if len = 1 ∧ b ≤ a ∧ dobj t' = some q.1 ∧ ¬ (i < 0 ∨ n ≤ i.toNatClampNeg) then some (r, dupd h a (.inl (t', n, .inr (.inr (.inr (.inr (va_up f i.toNatClampNeg (some v))))))), cs, ss) else none
      | _ => none
    | _ => none
  | _ => none
def dmin (len d : Nat) (st : List Value) (h : dH) (cs ss : Nat) : Option dG := match st with
  | .int y :: .int x :: r => if len = 3 ∧ 1 ≤ d ∧ (r.map fun v => v.category).sum ≤ 8 then some (.int (if y < x then y else x) :: r, h, cs, ss) else none
  | _ => none
def dmax (len d : Nat) (st : List Value) (h : dH) (cs ss : Nat) : Option dG := match st with
  | .int y :: .int x :: r => if len = 3 ∧ 1 ≤ d ∧ (r.map fun v => v.category).sum ≤ 8 then some (.int (if x < y then y else x) :: r, h, cs, ss) else none
  | _ => none
def dminL (len d : Nat) (st : List Value) (h : dH) (cs ss : Nat) : Option dG := match st with
  | .long y :: .long x :: r => if len = 3 ∧ 1 ≤ d ∧ (r.map fun v => v.category).sum ≤ 8 then some (.long (if y < x then y else x) :: r, h, cs, ss) else none
  | _ => none
def dabsL (len d : Nat) (st : List Value) (h : dH) (cs ss : Nat) : Option dG := match st with
  | .long x :: r => if len = 3 ∧ 1 ≤ d ∧ (r.map fun v => v.category).sum ≤ 8 then some (.long (if 0 < x then x else -x) :: r, h, cs, ss) else none
  | _ => none
/-- numbers of a row that fit its type -/
def dfit (t : Nat) (f : Nat → Int32) (sp n : Nat) : Bool := if t = 0 then true else if t = 1 then (List.range n).all fun i => fits .byte (.int (f (sp + i))) else false
def dcpy (b len d : Nat) (st : List Value) (h : dH) (cs ss : Nat) : Option dG := match st with
  | .int n :: .int dp :: .ref a :: .int sp :: .ref a0 :: r => match h.2 a0 with
    | some (.inl (t, n0, .inl f)) => match h.2 a with
      | some (.inl (t', n1, .inl g)) => if len = 3 ∧ 1 ≤ d ∧ b ≤ a ∧ t' = t ∧ dfit t f sp.toNatClampNeg n.toNatClampNeg = true ∧ ¬ sp < 0 ∧ ¬ dp < 0 ∧ ¬ n < 0 ∧ sp.toNatClampNeg + n.toNatClampNeg ≤ n0 ∧ dp.toNatClampNeg + n.toNatClampNeg ≤ n1 ∧ (r.map fun v => v.category).sum ≤ 8 then some (r, dupd h a (.inl (t, n1, .inl (va_cpy f g sp.toNatClampNeg dp.toNatClampNeg n.toNatClampNeg))), cs, ss) else none
      | _ => none
    | _ => none
  | _ => none
def dbi (E : dE) (b d o len idx : Nat) (st : List Value) (h : dH) (cs ss : Nat) : Option dG := match eBI E o idx with
  | some 1 => dmin len d st h cs ss
  | some 2 => dmax len d st h cs ss
  | some 3 => dminL len d st h cs ss
  | some 4 => dabsL len d st h cs ss
  | some 5 => dcpy b len d st h cs ss
  | _ => none
def doi0 (d len : Nat) (st : List Value) (h : dH) (cs ss : Nat) : Option dG := match st with
  | .ref _ :: r => if len = 3 ∧ 1 ≤ d ∧ (r.map fun v => v.category).sum ≤ 8 then some (r, h, cs, ss) else none
  | _ => none
def doi (E : dE) (d o len idx : Nat) (st : List Value) (h : dH) (cs ss : Nat) : Option dG := if eBI E o idx = some 0 then doi0 d len st h cs ss else none
/-- texts: (the object, its row, its bytes) -/
def dgets (E : dE) (o len idx : Nat) (st : List Value) (h : dH) (cs ss : Nat) : Option dG := match st with
  | .ref a :: r => match (eTL E).find? (fun x => x.1 == a) with
    | some x => match eSF E o idx with
      | some true => if len = 3 then some (.ref x.2.1 :: r, h, cs, ss) else none
      | some false => if len = 3 then some (.int 0 :: r, h, cs, ss) else none
      | none => none
    | none => none
  | _ => none
def dslen (E : dE) (len : Nat) (st : List Value) (h : dH) (cs ss : Nat) : Option dG := match st with
  | .ref a :: r => match (eTL E).find? (fun x => x.2.1 == a) with
    | some x => if len = 1 then some (.int (Int32.ofNat x.2.2.length) :: r, h, cs, ss) else none
    | none => none
  | _ => none
def dsld (E : dE) (len : Nat) (st : List Value) (h : dH) (cs ss : Nat) : Option dG := match st with
  | .int i :: .ref a :: r => match (eTL E).find? (fun x => x.2.1 == a) with
    | some x => if len = 1 ∧ ¬ (i < 0 ∨ x.2.2.length ≤ i.toNatClampNeg) then some (.int (x.2.2.getD i.toNatClampNeg 0) :: r, h, cs, ss) else none
    | none => none
  | _ => none
def dor (a b : Option dG) : Option dG := match a with
  | some g => some g
  | none => b
def dheap (E : dE) (b d : Nat) (r : dM) (i : Instr) (len : Nat) (st : List Value) (h : dH) (cs ss : Nat) : Option dG := match i with
  | .getfield idx => dor (dgetf E r.2.2.2.2.2.1 len idx st h cs ss) (dgets E r.2.2.2.2.2.1 len idx st h cs ss)
  | .putfield idx => dputf E b r.2.2.2.2.2.1 len idx (decide (r.1.name = "<init>")) st h cs ss
  | .iaload => daldI 0 len st h cs ss
  | .baload => dor (daldI 1 len st h cs ss) (dor (daldI 3 len st h cs ss) (dsld E len st h cs ss))
  | .laload => daldL len st h cs ss
  | .iastore => dastI b 0 len (fun x => x) st h cs ss
  | .bastore => match dastI b 1 len (vp_nar .byte) st h cs ss with
    | some g => some g
    | none => dastI b 3 len (vp_nar .boolean) st h cs ss
  | .lastore => dastL b len st h cs ss
  | .arraylength => dor (dalen len st h cs ss) (dslen E len st h cs ss)
  | .newarray at0 => dnewa len at0 st h cs ss
  | .new idx => dnewo E r.2.2.2.2.2.1 len idx st h cs ss
  | .anewarray idx => dnewq E r.2.2.2.2.2.1 len idx st h cs ss
  | .aaload => daldQ len st h cs ss
  | .aastore => dastQ b len st h cs ss
  | .invokestatic idx => dbi E b d r.2.2.2.2.2.1 len idx st h cs ss
  | .invokespecial idx => doi E d r.2.2.2.2.2.1 len idx st h cs ss
  | .getstatic idx => dldc len 3 (eGS E r.2.2.2.2.2.1 idx) st h cs ss
  | .ldc idx => match dldc len 2 ((eCN E r.2.2.2.2.2.1 idx).map Value.int) st h cs ss with
    | some g => some g
    | none => dldc len 2 ((eSR E r.2.2.2.2.2.1 idx).map Value.ref) st h cs ss
  | .ldc_w idx => dldc len 3 ((eCN E r.2.2.2.2.2.1 idx).map Value.int) st h cs ss
  | .ldc2_w idx => dldc len 3 ((eCL E r.2.2.2.2.2.1 idx).map Value.long) st h cs ss
  | _ => none
def dret (r : dM) (i : Instr) (len : Nat) (st : List Value) : Option (Option Value) := match i with
  | .ireturn => match st with
    | [.int v] => match r.2.2.2.1 with
      | some ty => if len = 1 ∧ narrow ty (.int v) = .int v then some (some (.int v)) else none
      | none => none
    | _ => none
  | .lreturn => match st with
    | [.long v] => match r.2.2.2.1 with
      | some .long => if len = 1 then some (some (.long v)) else none
      | _ => none
    | _ => none
  | .areturn => match st with
    | [.ref a] => match r.2.2.2.1 with
      | some (.object _) => if len = 1 then some (some (.ref a)) else none
      | some (.array _) => if len = 1 then some (some (.ref a)) else none
      | _ => none
    | [.null] => match r.2.2.2.1 with
      | some (.object _) => if len = 1 then some (some .null) else none
      | _ => none
    | _ => none
  | .return_ => match st with
    | [] => match r.2.2.2.1 with
      | none => if len = 1 then some none else none
      | _ => none
    | _ => none
  | _ => none
abbrev dV : Type := dM × List Value × List Value
def drec (E : dE) (h : dH) (a o : Nat) : Bool := match h.2 a with
  | some (.inr q) => q.1 == o
  | _ => o == 0 && ((eTL E).find? (fun x => x.1 == a)).isSome
def dinvV (E : dE) (o len idx : Nat) (st : List Value) (h : dH) : Option dV := match eML E o idx with
  | some j => match eMT E j with
    | some r => match st.drop r.2.2.2.2.2.2 with
      | .ref b :: rest => if len = 3 ∧ r.2.2.2.2.1 = false ∧ r.1.name ≠ "<init>" ∧ drec E h b r.2.2.2.2.2.1 = true ∧ (rest.map fun v => v.category).sum ≤ 8 ∧ (lg_sl (.ref b :: (st.take r.2.2.2.2.2.2).reverse)).length ≤ r.2.2.1 then some (r, .ref b :: (st.take r.2.2.2.2.2.2).reverse, rest) else none
      | _ => none
    | none => none
  | none => none
def dinvS (E : dE) (o len idx : Nat) (st : List Value) : Option dV := match eML E o idx with
  | some j => match eMT E j with
    | some r => if len = 3 ∧ r.2.2.2.2.1 = true ∧ r.2.2.2.2.2.2 ≤ st.length ∧ ((st.drop r.2.2.2.2.2.2).map fun v => v.category).sum ≤ 8 ∧ (lg_sl ((st.take r.2.2.2.2.2.2).reverse)).length ≤ r.2.2.1 then some (r, (st.take r.2.2.2.2.2.2).reverse, st.drop r.2.2.2.2.2.2) else none
    | none => none
  | none => none
def dinvI (E : dE) (o len idx : Nat) (st : List Value) : Option dV := match eML E o idx with
  | some j => match eMT E j with
    | some r => match st.drop r.2.2.2.2.2.2 with
      | .ref b :: rest => if len = 3 ∧ r.2.2.2.2.1 = false ∧ r.1.name = "<init>" ∧ r.2.2.2.1.isNone = true ∧ (rest.map fun v => v.category).sum ≤ 8 ∧ (lg_sl (.ref b :: (st.take r.2.2.2.2.2.2).reverse)).length ≤ r.2.2.1 then some (r, .ref b :: (st.take r.2.2.2.2.2.2).reverse, rest) else none
      | _ => none
    | none => none
  | none => none
def dinv (E : dE) (o : Nat) (i : Instr) (len : Nat) (st : List Value) (h : dH) : Option dV := match i with
  | .invokevirtual idx => dinvV E o len idx st h
  | .invokestatic idx => dinvS E o len idx st
  | .invokespecial idx => dinvI E o len idx st
  | _ => none
abbrev dZ : Type := Option Value × dH × Nat × Nat
def drun (E : dE) (b : Nat) : Nat → Nat → dM → Nat → dL0 → List Value → dH → Nat → Nat → Option dZ
  | 0, _, _, _, _, _, _, _, _ => none
  | n + 1, d, r, pc, lo, st, h, cs, ss => match decode r.2.1 pc with
    | .error _ => none
    | .ok (i, len) => match dpure i len pc r.2.2.1 lo st with
      | some z => drun E b n d r z.1 z.2.1 z.2.2 h cs ss
      | none => match dheap E b d r i len st h cs ss with
        | some g => drun E b n d r (pc + len) lo g.1 g.2.1 g.2.2.1 g.2.2.2
        | none => match dret r i len st with
          | some v => some (v, h, cs, ss)
          | none => match d with
            | 0 => none
            | d + 1 => match dinv E r.2.2.2.2.2.1 i len st h with
              | none => none
              | some y => match drun E b n d y.1 0 (dent y.2.1) [] h 0 0 with
                | none => none
                | some z => drun E b n (d + 1) r (pc + 3) lo (z.1.toList ++ y.2.2) z.2.1 (cs + z.2.2.1) (ss + z.2.2.2)
