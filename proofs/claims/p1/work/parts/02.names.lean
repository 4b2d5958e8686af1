def RX0 : String := "ChanceWorks$Atlas"
def TX0 : u_T := fun k => match k with
  | 0 => ("ChanceWorks$Atlas", "machine", "LChanceWorks$Machine;", true)
  | 1 => ("ChanceWorks$Atlas", "web", "LChanceWorks$Web;", true)
  | 2 => ("ChanceWorks$Atlas", "states", "LChanceWorks$Hoard;", true)
  | 3 => ("ChanceWorks$Atlas", "endings", "LChanceWorks$Hoard;", true)
  | 4 => ("ChanceWorks$Atlas", "explored", "Z", false)
  | 5 => ("ChanceWorks$Atlas", "code", "LChanceWorks$Code;", false)
  | 6 => ("ChanceWorks$Atlas", "firsts", "[I", false)
  | 7 => ("ChanceWorks$Atlas", "totals", "[I", false)
  | 8 => ("ChanceWorks$Atlas", "gains", "[I", false)
  | 9 => ("ChanceWorks$Atlas", "plan", "[I", false)
  | 10 => ("ChanceWorks$Atlas", "chooses", "[Z", false)
  | 11 => ("ChanceWorks$Atlas", "hopeless", "[Z", false)
  | 12 => ("ChanceWorks$Atlas", "sorts", "[I", false)
  | 13 => ("ChanceWorks$Atlas", "numbers", "[I", false)
  | 14 => ("ChanceWorks$Atlas", "weights", "[I", false)
  | 15 => ("ChanceWorks$Atlas", "nexts", "I", false)
  | 16 => ("ChanceWorks$Atlas", "rings", "I", false)
  | _ => ("ChanceWorks$Atlas", "greatest", "I", false)
def tyX0 : Nat → FieldType := fun k => match k with
  | 0 => .object "ChanceWorks$Machine"
  | 1 => .object "ChanceWorks$Web"
  | 2 => .object "ChanceWorks$Hoard"
  | 3 => .object "ChanceWorks$Hoard"
  | 4 => .boolean
  | 5 => .object "ChanceWorks$Code"
  | 6 => .array .int
  | 7 => .array .int
  | 8 => .array .int
  | 9 => .array .int
  | 10 => .array .boolean
  | 11 => .array .boolean
  | 12 => .array .int
  | 13 => .array .int
  | 14 => .array .int
  | 15 => .int
  | 16 => .int
  | _ => .int
abbrev wsX00 : List Cond := u_ws RX0 TX0 18
theorem nmX0 : ∀ a, a < 18 → ∀ b, b < 18 → a ≠ b → (TX0 a).2.1 ≠ (TX0 b).2.1 := by decide +kernel
theorem tyX0_ok : ∀ k, k < 18 → parseFieldDescriptor (TX0 k).2.2.1 = some (tyX0 k) := by decide +kernel
abbrev cX0_init : ByteArray := prog_2_method_1_code
def yX0_init : MethodName := ⟨RX0, "<init>", "(LChanceWorks$Machine;LChanceWorks$Code;)V"⟩
def RX1 : String := "ChanceWorks$Calc"
def TX1 : u_T := fun k => match k with
  | 0 => ("ChanceWorks$Calc", "quotient", "LChanceWorks$Num;", true)
  | 1 => ("ChanceWorks$Calc", "rest", "LChanceWorks$Num;", false)
  | 2 => ("ChanceWorks$Calc", "divisor", "LChanceWorks$Num;", true)
  | 3 => ("ChanceWorks$Calc", "x", "LChanceWorks$Num;", false)
  | 4 => ("ChanceWorks$Calc", "y", "LChanceWorks$Num;", false)
  | 5 => ("ChanceWorks$Calc", "spare", "LChanceWorks$Num;", true)
  | _ => ("ChanceWorks$Calc", "factors", "[J", true)
def tyX1 : Nat → FieldType := fun k => match k with
  | 0 => .object "ChanceWorks$Num"
  | 1 => .object "ChanceWorks$Num"
  | 2 => .object "ChanceWorks$Num"
  | 3 => .object "ChanceWorks$Num"
  | 4 => .object "ChanceWorks$Num"
  | 5 => .object "ChanceWorks$Num"
  | _ => .array .long
abbrev wsX10 : List Cond := u_ws RX1 TX1 7
theorem nmX1 : ∀ a, a < 7 → ∀ b, b < 7 → a ≠ b → (TX1 a).2.1 ≠ (TX1 b).2.1 := by decide +kernel
theorem tyX1_ok : ∀ k, k < 7 → parseFieldDescriptor (TX1 k).2.2.1 = some (tyX1 k) := by decide +kernel
abbrev cX1_init : ByteArray := prog_3_method_1_code
def yX1_init : MethodName := ⟨RX1, "<init>", "()V"⟩
def RX2 : String := "ChanceWorks$Code"
def TX2 : u_T := fun k => match k with
  | 0 => ("ChanceWorks$Code", "varStarts", "[I", true)
  | 1 => ("ChanceWorks$Code", "arrayBases", "[I", true)
  | 2 => ("ChanceWorks$Code", "arraySizes", "[I", true)
  | 3 => ("ChanceWorks$Code", "firstStatements", "[I", true)
  | 4 => ("ChanceWorks$Code", "nameCounts", "[I", true)
  | 5 => ("ChanceWorks$Code", "ownCounts", "[I", true)
  | 6 => ("ChanceWorks$Code", "rows", "[I", false)
  | 7 => ("ChanceWorks$Code", "ops", "[I", false)
  | 8 => ("ChanceWorks$Code", "args", "[I", false)
  | 9 => ("ChanceWorks$Code", "vars", "I", false)
  | 10 => ("ChanceWorks$Code", "arrays", "I", false)
  | 11 => ("ChanceWorks$Code", "cells", "I", false)
  | 12 => ("ChanceWorks$Code", "functions", "I", false)
  | 13 => ("ChanceWorks$Code", "statements", "I", false)
  | 14 => ("ChanceWorks$Code", "main", "I", false)
  | _ => ("ChanceWorks$Code", "length", "I", false)
def tyX2 : Nat → FieldType := fun k => match k with
  | 0 => .array .int
  | 1 => .array .int
  | 2 => .array .int
  | 3 => .array .int
  | 4 => .array .int
  | 5 => .array .int
  | 6 => .array .int
  | 7 => .array .int
  | 8 => .array .int
  | 9 => .int
  | 10 => .int
  | 11 => .int
  | 12 => .int
  | 13 => .int
  | 14 => .int
  | _ => .int
abbrev wsX20 : List Cond := u_ws RX2 TX2 16
theorem nmX2 : ∀ a, a < 16 → ∀ b, b < 16 → a ≠ b → (TX2 a).2.1 ≠ (TX2 b).2.1 := by decide +kernel
theorem tyX2_ok : ∀ k, k < 16 → parseFieldDescriptor (TX2 k).2.2.1 = some (tyX2 k) := by decide +kernel
abbrev cX2_init : ByteArray := prog_4_method_1_code
def yX2_init : MethodName := ⟨RX2, "<init>", "()V"⟩
def RX3 : String := "ChanceWorks$Hoard"
def TX3 : u_T := fun k => match k with
  | 0 => ("ChanceWorks$Hoard", "most", "I", true)
  | 1 => ("ChanceWorks$Hoard", "widest", "I", true)
  | 2 => ("ChanceWorks$Hoard", "slots", "I", true)
  | 3 => ("ChanceWorks$Hoard", "starts", "[I", false)
  | 4 => ("ChanceWorks$Hoard", "table", "[I", false)
  | 5 => ("ChanceWorks$Hoard", "pool", "[I", false)
  | _ => ("ChanceWorks$Hoard", "total", "I", false)
def tyX3 : Nat → FieldType := fun k => match k with
  | 0 => .int
  | 1 => .int
  | 2 => .int
  | 3 => .array .int
  | 4 => .array .int
  | 5 => .array .int
  | _ => .int
abbrev wsX30 : List Cond := u_ws RX3 TX3 7
theorem nmX3 : ∀ a, a < 7 → ∀ b, b < 7 → a ≠ b → (TX3 a).2.1 ≠ (TX3 b).2.1 := by decide +kernel
theorem tyX3_ok : ∀ k, k < 7 → parseFieldDescriptor (TX3 k).2.2.1 = some (tyX3 k) := by decide +kernel
abbrev cX3_init : ByteArray := prog_5_method_1_code
def yX3_init : MethodName := ⟨RX3, "<init>", "(III)V"⟩
def RX4 : String := "ChanceWorks$Machine"
def TX4 : u_T := fun k => match k with
  | 0 => ("ChanceWorks$Machine", "code", "LChanceWorks$Code;", false)
  | 1 => ("ChanceWorks$Machine", "memory", "[I", true)
  | 2 => ("ChanceWorks$Machine", "shared", "I", false)
  | 3 => ("ChanceWorks$Machine", "open", "I", false)
  | 4 => ("ChanceWorks$Machine", "frame", "I", false)
  | 5 => ("ChanceWorks$Machine", "stack", "[I", true)
  | 6 => ("ChanceWorks$Machine", "pc", "I", false)
  | 7 => ("ChanceWorks$Machine", "worked", "[I", true)
  | 8 => ("ChanceWorks$Machine", "target", "I", false)
  | 9 => ("ChanceWorks$Machine", "going", "I", false)
  | 10 => ("ChanceWorks$Machine", "answer", "I", false)
  | 11 => ("ChanceWorks$Machine", "outcome", "I", false)
  | 12 => ("ChanceWorks$Machine", "number", "I", false)
  | 13 => ("ChanceWorks$Machine", "failure", "I", false)
  | 14 => ("ChanceWorks$Machine", "gained", "I", false)
  | 15 => ("ChanceWorks$Machine", "wants", "I", false)
  | 16 => ("ChanceWorks$Machine", "ways", "I", false)
  | 17 => ("ChanceWorks$Machine", "total", "I", false)
  | 18 => ("ChanceWorks$Machine", "values", "[I", true)
  | _ => ("ChanceWorks$Machine", "weights", "[I", true)
def tyX4 : Nat → FieldType := fun k => match k with
  | 0 => .object "ChanceWorks$Code"
  | 1 => .array .int
  | 2 => .int
  | 3 => .int
  | 4 => .int
  | 5 => .array .int
  | 6 => .int
  | 7 => .array .int
  | 8 => .int
  | 9 => .int
  | 10 => .int
  | 11 => .int
  | 12 => .int
  | 13 => .int
  | 14 => .int
  | 15 => .int
  | 16 => .int
  | 17 => .int
  | 18 => .array .int
  | _ => .array .int
abbrev wsX40 : List Cond := u_ws RX4 TX4 20
theorem nmX4 : ∀ a, a < 20 → ∀ b, b < 20 → a ≠ b → (TX4 a).2.1 ≠ (TX4 b).2.1 := by decide +kernel
theorem tyX4_ok : ∀ k, k < 20 → parseFieldDescriptor (TX4 k).2.2.1 = some (tyX4 k) := by decide +kernel
abbrev cX4_init : ByteArray := prog_6_method_1_code
def yX4_init : MethodName := ⟨RX4, "<init>", "(LChanceWorks$Code;)V"⟩
def RX5 : String := "ChanceWorks$Num"
def TX5 : u_T := fun k => match k with
  | 0 => ("ChanceWorks$Num", "limbs", "[I", false)
  | _ => ("ChanceWorks$Num", "length", "I", false)
def tyX5 : Nat → FieldType := fun k => match k with
  | 0 => .array .int
  | _ => .int
abbrev wsX50 : List Cond := u_ws RX5 TX5 2
theorem nmX5 : ∀ a, a < 2 → ∀ b, b < 2 → a ≠ b → (TX5 a).2.1 ≠ (TX5 b).2.1 := by decide +kernel
theorem tyX5_ok : ∀ k, k < 2 → parseFieldDescriptor (TX5 k).2.2.1 = some (tyX5 k) := by decide +kernel
abbrev cX5_init : ByteArray := prog_7_method_1_code
def yX5_init : MethodName := ⟨RX5, "<init>", "(I)V"⟩
abbrev cX5_put : ByteArray := prog_7_method_4_code
def yX5_put : MethodName := ⟨RX5, "put", "(J)V"⟩
def RX6 : String := "ChanceWorks$Odds"
def TX6 : u_T := fun k => match k with
  | 0 => ("ChanceWorks$Odds", "atlas", "LChanceWorks$Atlas;", true)
  | 1 => ("ChanceWorks$Odds", "solver", "LChanceWorks$Solver;", true)
  | 2 => ("ChanceWorks$Odds", "calc", "LChanceWorks$Calc;", true)
  | 3 => ("ChanceWorks$Odds", "held", "LChanceWorks$Num;", true)
  | 4 => ("ChanceWorks$Odds", "groups", "LChanceWorks$Hoard;", true)
  | 5 => ("ChanceWorks$Odds", "key", "[I", true)
  | 6 => ("ChanceWorks$Odds", "lefts", "[I", false)
  | 7 => ("ChanceWorks$Odds", "rights", "[I", false)
  | 8 => ("ChanceWorks$Odds", "bases", "[I", false)
  | 9 => ("ChanceWorks$Odds", "ranks", "[I", false)
  | 10 => ("ChanceWorks$Odds", "cellOf", "[I", false)
  | 11 => ("ChanceWorks$Odds", "heads", "[I", false)
  | 12 => ("ChanceWorks$Odds", "links", "[I", false)
  | _ => ("ChanceWorks$Odds", "edges", "[LChanceWorks$Num;", false)
def tyX6 : Nat → FieldType := fun k => match k with
  | 0 => .object "ChanceWorks$Atlas"
  | 1 => .object "ChanceWorks$Solver"
  | 2 => .object "ChanceWorks$Calc"
  | 3 => .object "ChanceWorks$Num"
  | 4 => .object "ChanceWorks$Hoard"
  | 5 => .array .int
  | 6 => .array .int
  | 7 => .array .int
  | 8 => .array .int
  | 9 => .array .int
  | 10 => .array .int
  | 11 => .array .int
  | 12 => .array .int
  | _ => .array (.object "ChanceWorks$Num")
abbrev wsX60 : List Cond := u_ws RX6 TX6 14
theorem nmX6 : ∀ a, a < 14 → ∀ b, b < 14 → a ≠ b → (TX6 a).2.1 ≠ (TX6 b).2.1 := by decide +kernel
theorem tyX6_ok : ∀ k, k < 14 → parseFieldDescriptor (TX6 k).2.2.1 = some (tyX6 k) := by decide +kernel
abbrev cX6_init : ByteArray := prog_8_method_1_code
def yX6_init : MethodName := ⟨RX6, "<init>", "(LChanceWorks$Atlas;LChanceWorks$Solver;LChanceWorks$Calc;)V"⟩
def RX7 : String := "ChanceWorks$Parser"
def TX7 : u_T := fun k => match k with
  | 0 => ("ChanceWorks$Parser", "tape", "LChanceWorks$Tape;", true)
  | 1 => ("ChanceWorks$Parser", "code", "LChanceWorks$Code;", false)
  | 2 => ("ChanceWorks$Parser", "at", "I", false)
  | 3 => ("ChanceWorks$Parser", "kind", "I", false)
  | 4 => ("ChanceWorks$Parser", "open", "I", false)
  | 5 => ("ChanceWorks$Parser", "inside", "Z", false)
  | 6 => ("ChanceWorks$Parser", "varNames", "[I", true)
  | 7 => ("ChanceWorks$Parser", "arrayNames", "[I", true)
  | 8 => ("ChanceWorks$Parser", "functionNames", "[I", true)
  | 9 => ("ChanceWorks$Parser", "ownNames", "[I", true)
  | 10 => ("ChanceWorks$Parser", "owns", "I", false)
  | 11 => ("ChanceWorks$Parser", "owners", "[I", true)
  | 12 => ("ChanceWorks$Parser", "lasts", "[I", true)
  | 13 => ("ChanceWorks$Parser", "elses", "[Z", true)
  | 14 => ("ChanceWorks$Parser", "blocks", "I", false)
  | 15 => ("ChanceWorks$Parser", "waiting", "[I", false)
  | 16 => ("ChanceWorks$Parser", "waits", "I", false)
  | 17 => ("ChanceWorks$Parser", "faultCode", "I", false)
  | _ => ("ChanceWorks$Parser", "faultPlace", "I", false)
def tyX7 : Nat → FieldType := fun k => match k with
  | 0 => .object "ChanceWorks$Tape"
  | 1 => .object "ChanceWorks$Code"
  | 2 => .int
  | 3 => .int
  | 4 => .int
  | 5 => .boolean
  | 6 => .array .int
  | 7 => .array .int
  | 8 => .array .int
  | 9 => .array .int
  | 10 => .int
  | 11 => .array .int
  | 12 => .array .int
  | 13 => .array .boolean
  | 14 => .int
  | 15 => .array .int
  | 16 => .int
  | 17 => .int
  | _ => .int
abbrev wsX70 : List Cond := u_ws RX7 TX7 19
theorem nmX7 : ∀ a, a < 19 → ∀ b, b < 19 → a ≠ b → (TX7 a).2.1 ≠ (TX7 b).2.1 := by decide +kernel
theorem tyX7_ok : ∀ k, k < 19 → parseFieldDescriptor (TX7 k).2.2.1 = some (tyX7 k) := by decide +kernel
abbrev cX7_init : ByteArray := prog_9_method_1_code
def yX7_init : MethodName := ⟨RX7, "<init>", "(LChanceWorks$Tape;LChanceWorks$Code;)V"⟩
def RX8 : String := "ChanceWorks$Ratio"
def TX8 : u_T := fun k => match k with
  | 0 => ("ChanceWorks$Ratio", "top", "LChanceWorks$Num;", true)
  | 1 => ("ChanceWorks$Ratio", "bottom", "LChanceWorks$Num;", true)
  | _ => ("ChanceWorks$Ratio", "sign", "I", false)
def tyX8 : Nat → FieldType := fun k => match k with
  | 0 => .object "ChanceWorks$Num"
  | 1 => .object "ChanceWorks$Num"
  | _ => .int
abbrev wsX80 : List Cond := u_ws RX8 TX8 3
theorem nmX8 : ∀ a, a < 3 → ∀ b, b < 3 → a ≠ b → (TX8 a).2.1 ≠ (TX8 b).2.1 := by decide +kernel
theorem tyX8_ok : ∀ k, k < 3 → parseFieldDescriptor (TX8 k).2.2.1 = some (tyX8 k) := by decide +kernel
abbrev cX8_init : ByteArray := prog_10_method_1_code
def yX8_init : MethodName := ⟨RX8, "<init>", "(I)V"⟩
def RX9 : String := "ChanceWorks$Solver"
def TX9 : u_T := fun k => match k with
  | 0 => ("ChanceWorks$Solver", "atlas", "LChanceWorks$Atlas;", true)
  | 1 => ("ChanceWorks$Solver", "web", "LChanceWorks$Web;", true)
  | 2 => ("ChanceWorks$Solver", "calc", "LChanceWorks$Calc;", true)
  | 3 => ("ChanceWorks$Solver", "solved", "Z", false)
  | 4 => ("ChanceWorks$Solver", "planned", "Z", false)
  | 5 => ("ChanceWorks$Solver", "visits", "[LChanceWorks$Ratio;", false)
  | 6 => ("ChanceWorks$Solver", "worths", "[LChanceWorks$Ratio;", false)
  | 7 => ("ChanceWorks$Solver", "whole", "LChanceWorks$Num;", true)
  | 8 => ("ChanceWorks$Solver", "part", "LChanceWorks$Ratio;", true)
  | 9 => ("ChanceWorks$Solver", "factor", "LChanceWorks$Num;", true)
  | 10 => ("ChanceWorks$Solver", "scaled", "LChanceWorks$Num;", true)
  | 11 => ("ChanceWorks$Solver", "term", "LChanceWorks$Num;", true)
  | 12 => ("ChanceWorks$Solver", "sum", "LChanceWorks$Num;", true)
  | 13 => ("ChanceWorks$Solver", "less", "LChanceWorks$Num;", true)
  | 14 => ("ChanceWorks$Solver", "cells", "[LChanceWorks$Num;", false)
  | 15 => ("ChanceWorks$Solver", "rows", "[I", false)
  | _ => ("ChanceWorks$Solver", "taken", "[I", false)
def tyX9 : Nat → FieldType := fun k => match k with
  | 0 => .object "ChanceWorks$Atlas"
  | 1 => .object "ChanceWorks$Web"
  | 2 => .object "ChanceWorks$Calc"
  | 3 => .boolean
  | 4 => .boolean
  | 5 => .array (.object "ChanceWorks$Ratio")
  | 6 => .array (.object "ChanceWorks$Ratio")
  | 7 => .object "ChanceWorks$Num"
  | 8 => .object "ChanceWorks$Ratio"
  | 9 => .object "ChanceWorks$Num"
  | 10 => .object "ChanceWorks$Num"
  | 11 => .object "ChanceWorks$Num"
  | 12 => .object "ChanceWorks$Num"
  | 13 => .object "ChanceWorks$Num"
  | 14 => .array (.object "ChanceWorks$Num")
  | 15 => .array .int
  | _ => .array .int
abbrev wsX90 : List Cond := u_ws RX9 TX9 17
theorem nmX9 : ∀ a, a < 17 → ∀ b, b < 17 → a ≠ b → (TX9 a).2.1 ≠ (TX9 b).2.1 := by decide +kernel
theorem tyX9_ok : ∀ k, k < 17 → parseFieldDescriptor (TX9 k).2.2.1 = some (tyX9 k) := by decide +kernel
abbrev cX9_init : ByteArray := prog_11_method_1_code
def yX9_init : MethodName := ⟨RX9, "<init>", "(LChanceWorks$Atlas;LChanceWorks$Calc;)V"⟩
def RX10 : String := "ChanceWorks$Tape"
def TX10 : u_T := fun k => match k with
  | 0 => ("ChanceWorks$Tape", "bytes", "[B", false)
  | 1 => ("ChanceWorks$Tape", "length", "I", false)
  | 2 => ("ChanceWorks$Tape", "kinds", "[I", false)
  | 3 => ("ChanceWorks$Tape", "places", "[I", false)
  | 4 => ("ChanceWorks$Tape", "lengths", "[I", false)
  | _ => ("ChanceWorks$Tape", "total", "I", false)
def tyX10 : Nat → FieldType := fun k => match k with
  | 0 => .array .byte
  | 1 => .int
  | 2 => .array .int
  | 3 => .array .int
  | 4 => .array .int
  | _ => .int
abbrev wsX100 : List Cond := u_ws RX10 TX10 6
theorem nmX10 : ∀ a, a < 6 → ∀ b, b < 6 → a ≠ b → (TX10 a).2.1 ≠ (TX10 b).2.1 := by decide +kernel
theorem tyX10_ok : ∀ k, k < 6 → parseFieldDescriptor (TX10 k).2.2.1 = some (tyX10 k) := by decide +kernel
abbrev cX10_init : ByteArray := prog_12_method_1_code
def yX10_init : MethodName := ⟨RX10, "<init>", "()V"⟩
def RX11 : String := "ChanceWorks$Web"
def TX11 : u_T := fun k => match k with
  | 0 => ("ChanceWorks$Web", "total", "I", false)
  | 1 => ("ChanceWorks$Web", "firsts", "[I", false)
  | 2 => ("ChanceWorks$Web", "targets", "[I", false)
  | 3 => ("ChanceWorks$Web", "backFirsts", "[I", false)
  | 4 => ("ChanceWorks$Web", "sources", "[I", false)
  | 5 => ("ChanceWorks$Web", "edges", "[I", false)
  | 6 => ("ChanceWorks$Web", "open", "[Z", false)
  | 7 => ("ChanceWorks$Web", "knots", "I", false)
  | 8 => ("ChanceWorks$Web", "knotFirsts", "[I", false)
  | 9 => ("ChanceWorks$Web", "knotOf", "[I", false)
  | 10 => ("ChanceWorks$Web", "order", "[I", false)
  | 11 => ("ChanceWorks$Web", "seen", "[I", false)
  | 12 => ("ChanceWorks$Web", "low", "[I", false)
  | 13 => ("ChanceWorks$Web", "cursor", "[I", false)
  | 14 => ("ChanceWorks$Web", "path", "[I", false)
  | 15 => ("ChanceWorks$Web", "heap", "[I", false)
  | 16 => ("ChanceWorks$Web", "heaped", "I", false)
  | 17 => ("ChanceWorks$Web", "placed", "I", false)
  | _ => ("ChanceWorks$Web", "stamp", "I", false)
def tyX11 : Nat → FieldType := fun k => match k with
  | 0 => .int
  | 1 => .array .int
  | 2 => .array .int
  | 3 => .array .int
  | 4 => .array .int
  | 5 => .array .int
  | 6 => .array .boolean
  | 7 => .int
  | 8 => .array .int
  | 9 => .array .int
  | 10 => .array .int
  | 11 => .array .int
  | 12 => .array .int
  | 13 => .array .int
  | 14 => .array .int
  | 15 => .array .int
  | 16 => .int
  | 17 => .int
  | _ => .int
abbrev wsX110 : List Cond := u_ws RX11 TX11 19
theorem nmX11 : ∀ a, a < 19 → ∀ b, b < 19 → a ≠ b → (TX11 a).2.1 ≠ (TX11 b).2.1 := by decide +kernel
theorem tyX11_ok : ∀ k, k < 19 → parseFieldDescriptor (TX11 k).2.2.1 = some (tyX11 k) := by decide +kernel
abbrev cX11_init : ByteArray := prog_13_method_1_code
def yX11_init : MethodName := ⟨RX11, "<init>", "()V"⟩
def RX12 : String := "ChanceWorks"
def TX12 : u_T := fun k => match k with
  | 0 => ("ChanceWorks", "tape", "LChanceWorks$Tape;", true)
  | 1 => ("ChanceWorks", "parser", "LChanceWorks$Parser;", true)
  | 2 => ("ChanceWorks", "code", "LChanceWorks$Code;", false)
  | 3 => ("ChanceWorks", "spare", "LChanceWorks$Code;", false)
  | 4 => ("ChanceWorks", "ready", "Z", false)
  | 5 => ("ChanceWorks", "faultCode", "I", false)
  | 6 => ("ChanceWorks", "machine", "LChanceWorks$Machine;", true)
  | 7 => ("ChanceWorks", "atlas", "LChanceWorks$Atlas;", true)
  | 8 => ("ChanceWorks", "solver", "LChanceWorks$Solver;", true)
  | 9 => ("ChanceWorks", "odds", "LChanceWorks$Odds;", true)
  | 10 => ("ChanceWorks", "shown", "LChanceWorks$Ratio;", true)
  | 11 => ("ChanceWorks", "told", "[I", true)
  | 12 => ("ChanceWorks", "tolds", "I", false)
  | 13 => ("ChanceWorks", "playMade", "Z", false)
  | 14 => ("ChanceWorks", "record", "[J", true)
  | 15 => ("ChanceWorks", "lastShared", "[I", true)
  | 16 => ("ChanceWorks", "drawnWeights", "[I", false)
  | _ => ("ChanceWorks", "drawnTotals", "[I", false)
def tyX12 : Nat → FieldType := fun k => match k with
  | 0 => .object "ChanceWorks$Tape"
  | 1 => .object "ChanceWorks$Parser"
  | 2 => .object "ChanceWorks$Code"
  | 3 => .object "ChanceWorks$Code"
  | 4 => .boolean
  | 5 => .int
  | 6 => .object "ChanceWorks$Machine"
  | 7 => .object "ChanceWorks$Atlas"
  | 8 => .object "ChanceWorks$Solver"
  | 9 => .object "ChanceWorks$Odds"
  | 10 => .object "ChanceWorks$Ratio"
  | 11 => .array .int
  | 12 => .int
  | 13 => .boolean
  | 14 => .array .long
  | 15 => .array .int
  | 16 => .array .int
  | _ => .array .int
abbrev wsX120 : List Cond := u_ws RX12 TX12 18
theorem nmX12 : ∀ a, a < 18 → ∀ b, b < 18 → a ≠ b → (TX12 a).2.1 ≠ (TX12 b).2.1 := by decide +kernel
theorem tyX12_ok : ∀ k, k < 18 → parseFieldDescriptor (TX12 k).2.2.1 = some (tyX12 k) := by decide +kernel
abbrev cX12_init : ByteArray := prog_1_method_1_code
def yX12_init : MethodName := ⟨RX12, "<init>", "()V"⟩
def RX13 : String := "ChanceWorksModel"
def TX13 : u_T := fun k => match k with
  | 0 => ("ChanceWorksModel", "code", "I", false)
  | 1 => ("ChanceWorksModel", "tape", "[B", true)
  | 2 => ("ChanceWorksModel", "size", "I", false)
  | 3 => ("ChanceWorksModel", "book", "I", false)
  | 4 => ("ChanceWorksModel", "tokens", "I", false)
  | 5 => ("ChanceWorksModel", "sorts", "[B", true)
  | 6 => ("ChanceWorksModel", "places", "[I", true)
  | 7 => ("ChanceWorksModel", "numbers", "[I", true)
  | 8 => ("ChanceWorksModel", "firsts", "[J", true)
  | 9 => ("ChanceWorksModel", "seconds", "[I", true)
  | 10 => ("ChanceWorksModel", "at", "I", false)
  | 11 => ("ChanceWorksModel", "fault", "I", false)
  | 12 => ("ChanceWorksModel", "faultPlace", "I", false)
  | 13 => ("ChanceWorksModel", "openCount", "I", false)
  | 14 => ("ChanceWorksModel", "stands", "Z", false)
  | 15 => ("ChanceWorksModel", "vars", "I", false)
  | 16 => ("ChanceWorksModel", "arrs", "I", false)
  | 17 => ("ChanceWorksModel", "cells", "I", false)
  | 18 => ("ChanceWorksModel", "funcs", "I", false)
  | 19 => ("ChanceWorksModel", "statements", "I", false)
  | 20 => ("ChanceWorksModel", "varTokens", "[I", true)
  | 21 => ("ChanceWorksModel", "varValues", "[I", true)
  | 22 => ("ChanceWorksModel", "arrTokens", "[I", true)
  | 23 => ("ChanceWorksModel", "arrSizes", "[I", true)
  | 24 => ("ChanceWorksModel", "arrFirsts", "[I", true)
  | 25 => ("ChanceWorksModel", "funcTokens", "[I", true)
  | 26 => ("ChanceWorksModel", "givens", "[I", true)
  | 27 => ("ChanceWorksModel", "variables", "[I", true)
  | 28 => ("ChanceWorksModel", "variableTokens", "[I", true)
  | 29 => ("ChanceWorksModel", "firstOf", "[I", true)
  | 30 => ("ChanceWorksModel", "kinds", "[I", true)
  | 31 => ("ChanceWorksModel", "begins", "[I", true)
  | 32 => ("ChanceWorksModel", "expressions", "[I", true)
  | 33 => ("ChanceWorksModel", "bodies", "[I", true)
  | 34 => ("ChanceWorksModel", "elses", "[I", true)
  | 35 => ("ChanceWorksModel", "nextOf", "[I", true)
  | 36 => ("ChanceWorksModel", "parents", "[I", true)
  | 37 => ("ChanceWorksModel", "follows", "[I", true)
  | 38 => ("ChanceWorksModel", "ofFunctions", "[I", true)
  | 39 => ("ChanceWorksModel", "refs", "[I", true)
  | 40 => ("ChanceWorksModel", "main", "I", false)
  | 41 => ("ChanceWorksModel", "function", "I", false)
  | 42 => ("ChanceWorksModel", "blocks", "I", false)
  | 43 => ("ChanceWorksModel", "owners", "[I", true)
  | 44 => ("ChanceWorksModel", "latest", "[I", true)
  | 45 => ("ChanceWorksModel", "isElse", "[Z", true)
  | 46 => ("ChanceWorksModel", "mode", "I", false)
  | 47 => ("ChanceWorksModel", "failure", "I", false)
  | 48 => ("ChanceWorksModel", "waiting", "I", false)
  | 49 => ("ChanceWorksModel", "values", "I", false)
  | 50 => ("ChanceWorksModel", "waits", "[I", true)
  | 51 => ("ChanceWorksModel", "waitRefs", "[I", true)
  | 52 => ("ChanceWorksModel", "piles", "[I", true)
  | 53 => ("ChanceWorksModel", "lastFault", "I", false)
  | 54 => ("ChanceWorksModel", "kept", "[I", true)
  | 55 => ("ChanceWorksModel", "cursor", "I", false)
  | 56 => ("ChanceWorksModel", "few", "[I", true)
  | 57 => ("ChanceWorksModel", "globals", "[I", true)
  | 58 => ("ChanceWorksModel", "calls", "I", false)
  | 59 => ("ChanceWorksModel", "ats", "[I", true)
  | 60 => ("ChanceWorksModel", "callVars", "[I", true)
  | 61 => ("ChanceWorksModel", "ended", "I", false)
  | 62 => ("ChanceWorksModel", "gained", "I", false)
  | 63 => ("ChanceWorksModel", "outcomes", "I", false)
  | 64 => ("ChanceWorksModel", "outValues", "[I", true)
  | 65 => ("ChanceWorksModel", "outWeights", "[I", true)
  | 66 => ("ChanceWorksModel", "outTotal", "I", false)
  | 67 => ("ChanceWorksModel", "place", "I", false)
  | 68 => ("ChanceWorksModel", "given", "[I", true)
  | 69 => ("ChanceWorksModel", "isExplored", "Z", false)
  | 70 => ("ChanceWorksModel", "states", "I", false)
  | 71 => ("ChanceWorksModel", "endings", "I", false)
  | 72 => ("ChanceWorksModel", "nextCount", "I", false)
  | 73 => ("ChanceWorksModel", "stateRows", "[I", true)
  | 74 => ("ChanceWorksModel", "hashes", "[I", true)
  | 75 => ("ChanceWorksModel", "endingRows", "[I", true)
  | 76 => ("ChanceWorksModel", "nextStarts", "[I", true)
  | 77 => ("ChanceWorksModel", "nextKinds", "[I", true)
  | 78 => ("ChanceWorksModel", "nextNumbers", "[I", true)
  | 79 => ("ChanceWorksModel", "nextWeights", "[I", true)
  | 80 => ("ChanceWorksModel", "totals", "[I", true)
  | 81 => ("ChanceWorksModel", "isChoice", "[Z", true)
  | 82 => ("ChanceWorksModel", "gains", "[I", true)
  | 83 => ("ChanceWorksModel", "plan", "[I", true)
  | 84 => ("ChanceWorksModel", "key", "[I", true)
  | 85 => ("ChanceWorksModel", "most", "I", false)
  | 86 => ("ChanceWorksModel", "reach", "[J", true)
  | 87 => ("ChanceWorksModel", "isHopeless", "[Z", true)
  | 88 => ("ChanceWorksModel", "rings", "I", false)
  | 89 => ("ChanceWorksModel", "greatestRing", "I", false)
  | 90 => ("ChanceWorksModel", "big", "[I", true)
  | 91 => ("ChanceWorksModel", "lengths", "[I", true)
  | 92 => ("ChanceWorksModel", "sign", "I", false)
  | 93 => ("ChanceWorksModel", "slots", "[I", true)
  | 94 => ("ChanceWorksModel", "isSolved", "Z", false)
  | 95 => ("ChanceWorksModel", "isOpen", "[Z", true)
  | 96 => ("ChanceWorksModel", "isDone", "[Z", true)
  | 97 => ("ChanceWorksModel", "ancestors", "[I", true)
  | 98 => ("ChanceWorksModel", "order", "[I", true)
  | 99 => ("ChanceWorksModel", "members", "[I", true)
  | 100 => ("ChanceWorksModel", "memberCount", "I", false)
  | 101 => ("ChanceWorksModel", "memberOf", "[I", true)
  | 102 => ("ChanceWorksModel", "visits", "[I", true)
  | 103 => ("ChanceWorksModel", "isShown", "Z", false)
  | 104 => ("ChanceWorksModel", "toldCount", "I", false)
  | 105 => ("ChanceWorksModel", "toldDraws", "[I", true)
  | 106 => ("ChanceWorksModel", "howPlayed", "I", false)
  | 107 => ("ChanceWorksModel", "playedNumber", "I", false)
  | 108 => ("ChanceWorksModel", "playedSteps", "I", false)
  | 109 => ("ChanceWorksModel", "playedDraws", "I", false)
  | 110 => ("ChanceWorksModel", "playedGain", "J", false)
  | 111 => ("ChanceWorksModel", "playedGlobals", "[I", true)
  | 112 => ("ChanceWorksModel", "seed", "J", false)
  | 113 => ("ChanceWorksModel", "bySeed", "Z", false)
  | 114 => ("ChanceWorksModel", "isBest", "Z", false)
  | 115 => ("ChanceWorksModel", "worths", "[I", true)
  | 116 => ("ChanceWorksModel", "worthSigns", "[I", true)
  | 117 => ("ChanceWorksModel", "newWorths", "[I", true)
  | 118 => ("ChanceWorksModel", "newSigns", "[I", true)
  | 119 => ("ChanceWorksModel", "newPlan", "[I", true)
  | 120 => ("ChanceWorksModel", "isHeavy", "[Z", true)
  | 121 => ("ChanceWorksModel", "listA", "[I", true)
  | 122 => ("ChanceWorksModel", "listB", "[I", true)
  | 123 => ("ChanceWorksModel", "listC", "[I", true)
  | 124 => ("ChanceWorksModel", "countA", "I", false)
  | _ => ("ChanceWorksModel", "countB", "I", false)
def tyX13 : Nat → FieldType := fun k => match k with
  | 0 => .int
  | 1 => .array .byte
  | 2 => .int
  | 3 => .int
  | 4 => .int
  | 5 => .array .byte
  | 6 => .array .int
  | 7 => .array .int
  | 8 => .array .long
  | 9 => .array .int
  | 10 => .int
  | 11 => .int
  | 12 => .int
  | 13 => .int
  | 14 => .boolean
  | 15 => .int
  | 16 => .int
  | 17 => .int
  | 18 => .int
  | 19 => .int
  | 20 => .array .int
  | 21 => .array .int
  | 22 => .array .int
  | 23 => .array .int
  | 24 => .array .int
  | 25 => .array .int
  | 26 => .array .int
  | 27 => .array .int
  | 28 => .array .int
  | 29 => .array .int
  | 30 => .array .int
  | 31 => .array .int
  | 32 => .array .int
  | 33 => .array .int
  | 34 => .array .int
  | 35 => .array .int
  | 36 => .array .int
  | 37 => .array .int
  | 38 => .array .int
  | 39 => .array .int
  | 40 => .int
  | 41 => .int
  | 42 => .int
  | 43 => .array .int
  | 44 => .array .int
  | 45 => .array .boolean
  | 46 => .int
  | 47 => .int
  | 48 => .int
  | 49 => .int
  | 50 => .array .int
  | 51 => .array .int
  | 52 => .array .int
  | 53 => .int
  | 54 => .array .int
  | 55 => .int
  | 56 => .array .int
  | 57 => .array .int
  | 58 => .int
  | 59 => .array .int
  | 60 => .array .int
  | 61 => .int
  | 62 => .int
  | 63 => .int
  | 64 => .array .int
  | 65 => .array .int
  | 66 => .int
  | 67 => .int
  | 68 => .array .int
  | 69 => .boolean
  | 70 => .int
  | 71 => .int
  | 72 => .int
  | 73 => .array .int
  | 74 => .array .int
  | 75 => .array .int
  | 76 => .array .int
  | 77 => .array .int
  | 78 => .array .int
  | 79 => .array .int
  | 80 => .array .int
  | 81 => .array .boolean
  | 82 => .array .int
  | 83 => .array .int
  | 84 => .array .int
  | 85 => .int
  | 86 => .array .long
  | 87 => .array .boolean
  | 88 => .int
  | 89 => .int
  | 90 => .array .int
  | 91 => .array .int
  | 92 => .int
  | 93 => .array .int
  | 94 => .boolean
  | 95 => .array .boolean
  | 96 => .array .boolean
  | 97 => .array .int
  | 98 => .array .int
  | 99 => .array .int
  | 100 => .int
  | 101 => .array .int
  | 102 => .array .int
  | 103 => .boolean
  | 104 => .int
  | 105 => .array .int
  | 106 => .int
  | 107 => .int
  | 108 => .int
  | 109 => .int
  | 110 => .long
  | 111 => .array .int
  | 112 => .long
  | 113 => .boolean
  | 114 => .boolean
  | 115 => .array .int
  | 116 => .array .int
  | 117 => .array .int
  | 118 => .array .int
  | 119 => .array .int
  | 120 => .array .boolean
  | 121 => .array .int
  | 122 => .array .int
  | 123 => .array .int
  | 124 => .int
  | _ => .int
theorem nmX13 : ∀ a, a < 126 → ∀ b, b < 126 → a ≠ b → (TX13 a).2.1 ≠ (TX13 b).2.1 := by decide +kernel
theorem tyX13_ok : ∀ k, k < 126 → parseFieldDescriptor (TX13 k).2.2.1 = some (tyX13 k) := by decide +kernel
def RJx00060 : String := "java/lang/ArrayIndexOutOfBoundsException"
def TJx00060 : u_T := fun k => match k with
  | 0 => ("java/lang/Throwable", "backtrace", "Ljava/lang/Object;", false)
  | 1 => ("java/lang/Throwable", "detailMessage", "Ljava/lang/String;", false)
  | 2 => ("java/lang/Throwable", "cause", "Ljava/lang/Throwable;", false)
  | 3 => ("java/lang/Throwable", "stackTrace", "[Ljava/lang/StackTraceElement;", false)
  | 4 => ("java/lang/Throwable", "depth", "I", false)
  | _ => ("java/lang/Throwable", "suppressedExceptions", "Ljava/util/List;", false)
def tyJx00060 : Nat → FieldType := fun k => match k with
  | 0 => .object "java/lang/Object"
  | 1 => .object "java/lang/String"
  | 2 => .object "java/lang/Throwable"
  | 3 => .array (.object "java/lang/StackTraceElement")
  | 4 => .int
  | _ => .object "java/util/List"
theorem nmJx00060 : ∀ a, a < 6 → ∀ b, b < 6 → a ≠ b → (TJx00060 a).2.1 ≠ (TJx00060 b).2.1 := by decide +kernel
theorem tyJx00060_ok : ∀ k, k < 6 → parseFieldDescriptor (TJx00060 k).2.2.1 = some (tyJx00060 k) := by decide +kernel
def RJ0 : String := "java/lang/String"
def TJ0 : u_T := fun k => match k with
  | 0 => ("java/lang/String", "value", "[B", true)
  | 1 => ("java/lang/String", "coder", "B", true)
  | 2 => ("java/lang/String", "hash", "I", false)
  | _ => ("java/lang/String", "hashIsZero", "Z", false)
def tyJ0 : Nat → FieldType := fun k => match k with
  | 0 => .array .byte
  | 1 => .byte
  | 2 => .int
  | _ => .boolean
theorem nmJ0 : ∀ a, a < 4 → ∀ b, b < 4 → a ≠ b → (TJ0 a).2.1 ≠ (TJ0 b).2.1 := by decide +kernel
theorem tyJ0_ok : ∀ k, k < 4 → parseFieldDescriptor (TJ0 k).2.2.1 = some (tyJ0 k) := by decide +kernel
def RJ4 : String := "java/lang/StringBuilder"
def TJ4 : u_T := fun k => match k with
  | 0 => ("java/lang/AbstractStringBuilder", "value", "[B", false)
  | 1 => ("java/lang/AbstractStringBuilder", "coder", "B", false)
  | 2 => ("java/lang/AbstractStringBuilder", "maybeLatin1", "Z", false)
  | _ => ("java/lang/AbstractStringBuilder", "count", "I", false)
def tyJ4 : Nat → FieldType := fun k => match k with
  | 0 => .array .byte
  | 1 => .byte
  | 2 => .boolean
  | _ => .int
theorem nmJ4 : ∀ a, a < 4 → ∀ b, b < 4 → a ≠ b → (TJ4 a).2.1 ≠ (TJ4 b).2.1 := by decide +kernel
theorem tyJ4_ok : ∀ k, k < 4 → parseFieldDescriptor (TJ4 k).2.2.1 = some (tyJ4 k) := by decide +kernel
def wsX11_init : List Cond := .code yX11_init cX11_init 1 none :: ([.methodLink RX11 3 objectInit, .instanceMethod objectInit, .code objectInit ⟨#[0xb1]⟩ 1 none, .arrayClass .int, .fieldLink RX11 9 "ChanceWorks$Web" "firsts" "[I", .fieldLink RX11 15 "ChanceWorks$Web" "targets" "[I", .fieldLink RX11 18 "ChanceWorks$Web" "backFirsts" "[I", .fieldLink RX11 21 "ChanceWorks$Web" "sources" "[I", .fieldLink RX11 24 "ChanceWorks$Web" "edges" "[I", .arrayClass .boolean, .fieldLink RX11 27 "ChanceWorks$Web" "open" "[Z", .fieldLink RX11 31 "ChanceWorks$Web" "knotFirsts" "[I", .fieldLink RX11 34 "ChanceWorks$Web" "knotOf" "[I", .fieldLink RX11 37 "ChanceWorks$Web" "order" "[I", .fieldLink RX11 40 "ChanceWorks$Web" "seen" "[I", .fieldLink RX11 43 "ChanceWorks$Web" "low" "[I", .fieldLink RX11 46 "ChanceWorks$Web" "cursor" "[I", .fieldLink RX11 49 "ChanceWorks$Web" "path" "[I", .fieldLink RX11 52 "ChanceWorks$Web" "heap" "[I"] ++ wsX110)
def wsX3_init : List Cond := .code yX3_init cX3_init 4 none :: ([.methodLink RX3 3 objectInit, .instanceMethod objectInit, .code objectInit ⟨#[0xb1]⟩ 1 none, .fieldLink RX3 9 "ChanceWorks$Hoard" "most" "I", .fieldLink RX3 15 "ChanceWorks$Hoard" "widest" "I", .fieldLink RX3 18 "ChanceWorks$Hoard" "slots" "I", .arrayClass .int, .fieldLink RX3 21 "ChanceWorks$Hoard" "starts" "[I", .fieldLink RX3 25 "ChanceWorks$Hoard" "table" "[I", .fieldLink RX3 28 "ChanceWorks$Hoard" "pool" "[I"] ++ wsX30)
def wsX0_init_r1 : List Cond := [Cond.methodLink RX0 3 objectInit, Cond.instanceMethod objectInit, Cond.code objectInit ⟨#[0xb1]⟩ 1 none, Cond.fieldLink RX0 9 "ChanceWorks$Atlas" "machine" "LChanceWorks$Machine;", Cond.fieldLink RX0 15 "ChanceWorks$Atlas" "code" "LChanceWorks$Code;", Cond.classLink RX0 19 RX11, Cond.instantiable RX11 19, Cond.initialized RX11, Cond.fieldLink RX0 22 "ChanceWorks$Atlas" "web" "LChanceWorks$Web;", Cond.classLink RX0 26 RX3, Cond.instantiable RX3 7, Cond.initialized RX3, Cond.fieldLink RX0 33 "ChanceWorks$Atlas" "states" "LChanceWorks$Hoard;", Cond.fieldLink RX0 37 "ChanceWorks$Atlas" "endings" "LChanceWorks$Hoard;", Cond.arrayClass .int, Cond.fieldLink RX0 40 "ChanceWorks$Atlas" "firsts" "[I", Cond.fieldLink RX0 44 "ChanceWorks$Atlas" "totals" "[I", Cond.fieldLink RX0 47 "ChanceWorks$Atlas" "gains" "[I", Cond.fieldLink RX0 50 "ChanceWorks$Atlas" "plan" "[I", Cond.arrayClass .boolean, Cond.fieldLink RX0 53 "ChanceWorks$Atlas" "chooses" "[Z", Cond.fieldLink RX0 57 "ChanceWorks$Atlas" "hopeless" "[Z", Cond.fieldLink RX0 60 "ChanceWorks$Atlas" "sorts" "[I", Cond.fieldLink RX0 63 "ChanceWorks$Atlas" "numbers" "[I"]
def wsX0_init_r2 : List Cond := [Cond.fieldLink RX0 66 "ChanceWorks$Atlas" "weights" "[I", Cond.methodLink RX0 21 yX11_init, Cond.instanceMethod yX11_init, Cond.code yX11_init cX11_init 1 none, Cond.methodLink RX11 3 objectInit, Cond.fieldLink RX11 9 "ChanceWorks$Web" "firsts" "[I", Cond.fieldLink RX11 15 "ChanceWorks$Web" "targets" "[I", Cond.fieldLink RX11 18 "ChanceWorks$Web" "backFirsts" "[I", Cond.fieldLink RX11 21 "ChanceWorks$Web" "sources" "[I", Cond.fieldLink RX11 24 "ChanceWorks$Web" "edges" "[I", Cond.fieldLink RX11 27 "ChanceWorks$Web" "open" "[Z", Cond.fieldLink RX11 31 "ChanceWorks$Web" "knotFirsts" "[I", Cond.fieldLink RX11 34 "ChanceWorks$Web" "knotOf" "[I", Cond.fieldLink RX11 37 "ChanceWorks$Web" "order" "[I", Cond.fieldLink RX11 40 "ChanceWorks$Web" "seen" "[I", Cond.fieldLink RX11 43 "ChanceWorks$Web" "low" "[I", Cond.fieldLink RX11 46 "ChanceWorks$Web" "cursor" "[I", Cond.fieldLink RX11 49 "ChanceWorks$Web" "path" "[I", Cond.fieldLink RX11 52 "ChanceWorks$Web" "heap" "[I", Cond.methodLink RX0 30 yX3_init, Cond.instanceMethod yX3_init, Cond.code yX3_init cX3_init 4 none, Cond.methodLink RX3 3 objectInit, Cond.fieldLink RX3 9 "ChanceWorks$Hoard" "most" "I"]
def wsX0_init_r3 : List Cond := [Cond.fieldLink RX3 15 "ChanceWorks$Hoard" "widest" "I", Cond.fieldLink RX3 18 "ChanceWorks$Hoard" "slots" "I", Cond.fieldLink RX3 21 "ChanceWorks$Hoard" "starts" "[I", Cond.fieldLink RX3 25 "ChanceWorks$Hoard" "table" "[I", Cond.fieldLink RX3 28 "ChanceWorks$Hoard" "pool" "[I"]
def wsX0_init : List Cond := .code yX0_init cX0_init 3 none :: ((wsX0_init_r1 ++ (wsX0_init_r2 ++ wsX0_init_r3)) ++ wsX00 ++ wsX110 ++ wsX30)
def wsX5_init : List Cond := .code yX5_init cX5_init 2 none :: ([.methodLink RX5 1 objectInit, .instanceMethod objectInit, .code objectInit ⟨#[0xb1]⟩ 1 none, .methodLink RX5 7 Lib.Math.max.name, .static Lib.Math.max.name, .initialized "java/lang/Math", .code Lib.Math.max.name Lib.Math.max.code 2 (some .int), .arrayClass .int, .fieldLink RX5 13 "ChanceWorks$Num" "limbs" "[I"] ++ wsX50)
def wsX1_init : List Cond := .code yX1_init cX1_init 1 none :: ([.methodLink RX1 1 objectInit, .instanceMethod objectInit, .code objectInit ⟨#[0xb1]⟩ 1 none, .arrayClass .long, .fieldLink RX1 7 "ChanceWorks$Calc" "factors" "[J", .classLink RX1 13 RX5, .instantiable RX5 2, .initialized RX5, .fieldLink RX1 18 "ChanceWorks$Calc" "quotient" "LChanceWorks$Num;", .fieldLink RX1 22 "ChanceWorks$Calc" "rest" "LChanceWorks$Num;", .fieldLink RX1 25 "ChanceWorks$Calc" "divisor" "LChanceWorks$Num;", .fieldLink RX1 28 "ChanceWorks$Calc" "x" "LChanceWorks$Num;", .fieldLink RX1 31 "ChanceWorks$Calc" "y" "LChanceWorks$Num;", .fieldLink RX1 34 "ChanceWorks$Calc" "spare" "LChanceWorks$Num;", .methodLink RX1 15 yX5_init, .instanceMethod yX5_init, .code yX5_init cX5_init 2 none, .methodLink RX5 1 objectInit, .methodLink RX5 7 Lib.Math.max.name, .static Lib.Math.max.name, .initialized "java/lang/Math", .code Lib.Math.max.name Lib.Math.max.code 2 (some .int), .arrayClass .int, .fieldLink RX5 13 "ChanceWorks$Num" "limbs" "[I"] ++ wsX10 ++ wsX50)
def wsX5_put : List Cond := .code yX5_put cX5_put 3 none :: ([.fieldLink RX5 13 "ChanceWorks$Num" "limbs" "[I", .constantLong RX5 29 (2147483647), .fieldLink RX5 25 "ChanceWorks$Num" "length" "I"] ++ wsX50 ++ (vx_atM "java/lang/ArrayIndexOutOfBoundsException" ["java/lang/IndexOutOfBoundsException", "java/lang/RuntimeException", "java/lang/Exception"]).filter goodWord)
def wsX2_init : List Cond := .code yX2_init cX2_init 1 none :: ([.methodLink RX2 3 objectInit, .instanceMethod objectInit, .code objectInit ⟨#[0xb1]⟩ 1 none, .arrayClass .int, .fieldLink RX2 9 "ChanceWorks$Code" "varStarts" "[I", .fieldLink RX2 15 "ChanceWorks$Code" "arrayBases" "[I", .fieldLink RX2 18 "ChanceWorks$Code" "arraySizes" "[I", .fieldLink RX2 21 "ChanceWorks$Code" "firstStatements" "[I", .fieldLink RX2 24 "ChanceWorks$Code" "nameCounts" "[I", .fieldLink RX2 27 "ChanceWorks$Code" "ownCounts" "[I", .fieldLink RX2 30 "ChanceWorks$Code" "rows" "[I", .fieldLink RX2 33 "ChanceWorks$Code" "ops" "[I", .fieldLink RX2 36 "ChanceWorks$Code" "args" "[I"] ++ wsX20)
def wsX4_init : List Cond := .code yX4_init cX4_init 2 none :: ([.methodLink RX4 5 objectInit, .instanceMethod objectInit, .code objectInit ⟨#[0xb1]⟩ 1 none, .fieldLink RX4 11 "ChanceWorks$Machine" "code" "LChanceWorks$Code;", .arrayClass .int, .fieldLink RX4 15 "ChanceWorks$Machine" "memory" "[I", .fieldLink RX4 19 "ChanceWorks$Machine" "stack" "[I", .fieldLink RX4 22 "ChanceWorks$Machine" "worked" "[I", .fieldLink RX4 25 "ChanceWorks$Machine" "values" "[I", .fieldLink RX4 28 "ChanceWorks$Machine" "weights" "[I"] ++ wsX40)
def wsX6_init_r1 : List Cond := [Cond.methodLink RX6 3 objectInit, Cond.instanceMethod objectInit, Cond.code objectInit ⟨#[0xb1]⟩ 1 none, Cond.fieldLink RX6 9 "ChanceWorks$Odds" "atlas" "LChanceWorks$Atlas;", Cond.fieldLink RX6 15 "ChanceWorks$Odds" "solver" "LChanceWorks$Solver;", Cond.fieldLink RX6 19 "ChanceWorks$Odds" "calc" "LChanceWorks$Calc;", Cond.classLink RX6 23 RX5, Cond.instantiable RX5 2, Cond.initialized RX5, Cond.fieldLink RX6 28 "ChanceWorks$Odds" "held" "LChanceWorks$Num;", Cond.classLink RX6 32 RX3, Cond.instantiable RX3 7, Cond.initialized RX3, Cond.fieldLink RX6 37 "ChanceWorks$Odds" "groups" "LChanceWorks$Hoard;", Cond.arrayClass .int, Cond.fieldLink RX6 41 "ChanceWorks$Odds" "key" "[I", Cond.fieldLink RX6 45 "ChanceWorks$Odds" "lefts" "[I", Cond.fieldLink RX6 48 "ChanceWorks$Odds" "rights" "[I", Cond.fieldLink RX6 51 "ChanceWorks$Odds" "bases" "[I", Cond.fieldLink RX6 54 "ChanceWorks$Odds" "ranks" "[I", Cond.fieldLink RX6 57 "ChanceWorks$Odds" "cellOf" "[I", Cond.fieldLink RX6 60 "ChanceWorks$Odds" "heads" "[I", Cond.fieldLink RX6 63 "ChanceWorks$Odds" "links" "[I", Cond.fieldLink RX6 66 "ChanceWorks$Odds" "edges" "[LChanceWorks$Num;"]
def wsX6_init_r2 : List Cond := [Cond.methodLink RX6 25 yX5_init, Cond.instanceMethod yX5_init, Cond.code yX5_init cX5_init 2 none, Cond.methodLink RX5 1 objectInit, Cond.methodLink RX5 7 Lib.Math.max.name, Cond.static Lib.Math.max.name, Cond.initialized "java/lang/Math", Cond.code Lib.Math.max.name Lib.Math.max.code 2 (some .int), Cond.fieldLink RX5 13 "ChanceWorks$Num" "limbs" "[I", Cond.methodLink RX6 34 yX3_init, Cond.instanceMethod yX3_init, Cond.code yX3_init cX3_init 4 none, Cond.methodLink RX3 3 objectInit, Cond.fieldLink RX3 9 "ChanceWorks$Hoard" "most" "I", Cond.fieldLink RX3 15 "ChanceWorks$Hoard" "widest" "I", Cond.fieldLink RX3 18 "ChanceWorks$Hoard" "slots" "I", Cond.fieldLink RX3 21 "ChanceWorks$Hoard" "starts" "[I", Cond.fieldLink RX3 25 "ChanceWorks$Hoard" "table" "[I", Cond.fieldLink RX3 28 "ChanceWorks$Hoard" "pool" "[I"]
def wsX6_init : List Cond := .code yX6_init cX6_init 4 none :: ((wsX6_init_r1 ++ wsX6_init_r2) ++ wsX60 ++ wsX50 ++ wsX30)
def wsX7_init : List Cond := .code yX7_init cX7_init 3 none :: ([.methodLink RX7 3 objectInit, .instanceMethod objectInit, .code objectInit ⟨#[0xb1]⟩ 1 none, .fieldLink RX7 9 "ChanceWorks$Parser" "tape" "LChanceWorks$Tape;", .fieldLink RX7 15 "ChanceWorks$Parser" "code" "LChanceWorks$Code;", .arrayClass .int, .fieldLink RX7 19 "ChanceWorks$Parser" "varNames" "[I", .fieldLink RX7 23 "ChanceWorks$Parser" "arrayNames" "[I", .fieldLink RX7 26 "ChanceWorks$Parser" "functionNames" "[I", .fieldLink RX7 29 "ChanceWorks$Parser" "ownNames" "[I", .fieldLink RX7 32 "ChanceWorks$Parser" "owners" "[I", .fieldLink RX7 35 "ChanceWorks$Parser" "lasts" "[I", .arrayClass .boolean, .fieldLink RX7 38 "ChanceWorks$Parser" "elses" "[Z", .fieldLink RX7 42 "ChanceWorks$Parser" "waiting" "[I"] ++ wsX70)
def wsX8_init : List Cond := .code yX8_init cX8_init 2 none :: ([.methodLink RX8 3 objectInit, .instanceMethod objectInit, .code objectInit ⟨#[0xb1]⟩ 1 none, .classLink RX8 9 RX5, .instantiable RX5 2, .initialized RX5, .fieldLink RX8 14 "ChanceWorks$Ratio" "top" "LChanceWorks$Num;", .fieldLink RX8 20 "ChanceWorks$Ratio" "bottom" "LChanceWorks$Num;", .methodLink RX8 11 yX5_init, .instanceMethod yX5_init, .code yX5_init cX5_init 2 none, .methodLink RX5 1 objectInit, .methodLink RX5 7 Lib.Math.max.name, .static Lib.Math.max.name, .initialized "java/lang/Math", .code Lib.Math.max.name Lib.Math.max.code 2 (some .int), .arrayClass .int, .fieldLink RX5 13 "ChanceWorks$Num" "limbs" "[I", .methodLink RX8 23 yX5_put, .instanceMethod yX5_put, .selects RX5 yX5_put yX5_put, .code yX5_put cX5_put 3 none, .constantLong RX5 29 (2147483647), .fieldLink RX5 25 "ChanceWorks$Num" "length" "I"] ++ wsX50 ++ wsX80 ++ (vx_atM "java/lang/ArrayIndexOutOfBoundsException" ["java/lang/IndexOutOfBoundsException", "java/lang/RuntimeException", "java/lang/Exception"]).filter goodWord)
def wsX9_init_r1 : List Cond := [Cond.methodLink RX9 3 objectInit, Cond.instanceMethod objectInit, Cond.code objectInit ⟨#[0xb1]⟩ 1 none, Cond.fieldLink RX9 9 "ChanceWorks$Solver" "atlas" "LChanceWorks$Atlas;", Cond.fieldLink RX9 15 "ChanceWorks$Solver" "calc" "LChanceWorks$Calc;", Cond.fieldLink RX9 19 "ChanceWorks$Atlas" "web" "LChanceWorks$Web;", Cond.fieldLink RX9 25 "ChanceWorks$Solver" "web" "LChanceWorks$Web;", Cond.classLink RX9 26 RX8, Cond.fieldLink RX9 28 "ChanceWorks$Solver" "visits" "[LChanceWorks$Ratio;", Cond.fieldLink RX9 32 "ChanceWorks$Solver" "worths" "[LChanceWorks$Ratio;", Cond.classLink RX9 35 RX5, Cond.instantiable RX5 2, Cond.initialized RX5, Cond.fieldLink RX9 40 "ChanceWorks$Solver" "whole" "LChanceWorks$Num;", Cond.instantiable RX8 3, Cond.initialized RX8, Cond.fieldLink RX9 45 "ChanceWorks$Solver" "part" "LChanceWorks$Ratio;", Cond.fieldLink RX9 49 "ChanceWorks$Solver" "factor" "LChanceWorks$Num;", Cond.fieldLink RX9 52 "ChanceWorks$Solver" "scaled" "LChanceWorks$Num;", Cond.fieldLink RX9 55 "ChanceWorks$Solver" "term" "LChanceWorks$Num;", Cond.fieldLink RX9 58 "ChanceWorks$Solver" "sum" "LChanceWorks$Num;", Cond.fieldLink RX9 61 "ChanceWorks$Solver" "less" "LChanceWorks$Num;", Cond.fieldLink RX9 64 "ChanceWorks$Solver" "cells" "[LChanceWorks$Num;", Cond.arrayClass .int]
def wsX9_init_r2 : List Cond := [Cond.fieldLink RX9 68 "ChanceWorks$Solver" "rows" "[I", Cond.fieldLink RX9 72 "ChanceWorks$Solver" "taken" "[I", Cond.methodLink RX9 37 yX5_init, Cond.instanceMethod yX5_init, Cond.code yX5_init cX5_init 2 none, Cond.methodLink RX5 1 objectInit, Cond.methodLink RX5 7 Lib.Math.max.name, Cond.static Lib.Math.max.name, Cond.initialized "java/lang/Math", Cond.code Lib.Math.max.name Lib.Math.max.code 2 (some .int), Cond.fieldLink RX5 13 "ChanceWorks$Num" "limbs" "[I", Cond.methodLink RX9 44 yX8_init, Cond.instanceMethod yX8_init, Cond.code yX8_init cX8_init 2 none, Cond.methodLink RX8 3 objectInit, Cond.classLink RX8 9 RX5, Cond.fieldLink RX8 14 "ChanceWorks$Ratio" "top" "LChanceWorks$Num;", Cond.fieldLink RX8 20 "ChanceWorks$Ratio" "bottom" "LChanceWorks$Num;", Cond.methodLink RX8 11 yX5_init, Cond.methodLink RX8 23 yX5_put, Cond.instanceMethod yX5_put, Cond.selects RX5 yX5_put yX5_put, Cond.code yX5_put cX5_put 3 none, Cond.constantLong RX5 29 (2147483647)]
def wsX9_init_r3 : List Cond := [Cond.fieldLink RX5 25 "ChanceWorks$Num" "length" "I"]
def wsX9_init : List Cond := .code yX9_init cX9_init 3 none :: ((wsX9_init_r1 ++ (wsX9_init_r2 ++ wsX9_init_r3)) ++ wsX90 ++ wsX00 ++ wsX50 ++ wsX80 ++ (vx_atM "java/lang/ArrayIndexOutOfBoundsException" ["java/lang/IndexOutOfBoundsException", "java/lang/RuntimeException", "java/lang/Exception"]).filter goodWord)
def wsX10_init : List Cond := .code yX10_init cX10_init 1 none :: ([.methodLink RX10 3 objectInit, .instanceMethod objectInit, .code objectInit ⟨#[0xb1]⟩ 1 none, .arrayClass .byte, .fieldLink RX10 9 "ChanceWorks$Tape" "bytes" "[B", .arrayClass .int, .fieldLink RX10 15 "ChanceWorks$Tape" "kinds" "[I", .fieldLink RX10 19 "ChanceWorks$Tape" "places" "[I", .fieldLink RX10 22 "ChanceWorks$Tape" "lengths" "[I"] ++ wsX100)
def wsX12_init_r1 : List Cond := [Cond.methodLink RX12 3 objectInit, Cond.instanceMethod objectInit, Cond.code objectInit ⟨#[0xb1]⟩ 1 none, Cond.classLink RX12 9 RX10, Cond.instantiable RX10 6, Cond.initialized RX10, Cond.fieldLink RX12 12 "ChanceWorks" "tape" "LChanceWorks$Tape;", Cond.classLink RX12 16 RX2, Cond.instantiable RX2 16, Cond.initialized RX2, Cond.fieldLink RX12 19 "ChanceWorks" "code" "LChanceWorks$Code;", Cond.fieldLink RX12 23 "ChanceWorks" "spare" "LChanceWorks$Code;", Cond.classLink RX12 26 RX7, Cond.instantiable RX7 19, Cond.initialized RX7, Cond.fieldLink RX12 31 "ChanceWorks" "parser" "LChanceWorks$Parser;", Cond.classLink RX12 35 RX4, Cond.instantiable RX4 20, Cond.initialized RX4, Cond.fieldLink RX12 40 "ChanceWorks" "machine" "LChanceWorks$Machine;", Cond.classLink RX12 44 RX0, Cond.instantiable RX0 18, Cond.initialized RX0, Cond.fieldLink RX12 49 "ChanceWorks" "atlas" "LChanceWorks$Atlas;"]
def wsX12_init_r2 : List Cond := [Cond.classLink RX12 53 RX1, Cond.instantiable RX1 7, Cond.initialized RX1, Cond.classLink RX12 56 RX9, Cond.instantiable RX9 17, Cond.initialized RX9, Cond.fieldLink RX12 61 "ChanceWorks" "solver" "LChanceWorks$Solver;", Cond.classLink RX12 65 RX6, Cond.instantiable RX6 14, Cond.initialized RX6, Cond.fieldLink RX12 70 "ChanceWorks" "odds" "LChanceWorks$Odds;", Cond.classLink RX12 74 RX8, Cond.instantiable RX8 3, Cond.initialized RX8, Cond.fieldLink RX12 79 "ChanceWorks" "shown" "LChanceWorks$Ratio;", Cond.arrayClass .int, Cond.fieldLink RX12 83 "ChanceWorks" "told" "[I", Cond.arrayClass .long, Cond.fieldLink RX12 87 "ChanceWorks" "record" "[J", Cond.fieldLink RX12 91 "ChanceWorks" "lastShared" "[I", Cond.fieldLink RX12 94 "ChanceWorks" "drawnWeights" "[I", Cond.fieldLink RX12 97 "ChanceWorks" "drawnTotals" "[I", Cond.methodLink RX12 11 yX10_init, Cond.instanceMethod yX10_init]
def wsX12_init_r3 : List Cond := [Cond.code yX10_init cX10_init 1 none, Cond.methodLink RX10 3 objectInit, Cond.arrayClass .byte, Cond.fieldLink RX10 9 "ChanceWorks$Tape" "bytes" "[B", Cond.fieldLink RX10 15 "ChanceWorks$Tape" "kinds" "[I", Cond.fieldLink RX10 19 "ChanceWorks$Tape" "places" "[I", Cond.fieldLink RX10 22 "ChanceWorks$Tape" "lengths" "[I", Cond.methodLink RX12 18 yX2_init, Cond.instanceMethod yX2_init, Cond.code yX2_init cX2_init 1 none, Cond.methodLink RX2 3 objectInit, Cond.fieldLink RX2 9 "ChanceWorks$Code" "varStarts" "[I", Cond.fieldLink RX2 15 "ChanceWorks$Code" "arrayBases" "[I", Cond.fieldLink RX2 18 "ChanceWorks$Code" "arraySizes" "[I", Cond.fieldLink RX2 21 "ChanceWorks$Code" "firstStatements" "[I", Cond.fieldLink RX2 24 "ChanceWorks$Code" "nameCounts" "[I", Cond.fieldLink RX2 27 "ChanceWorks$Code" "ownCounts" "[I", Cond.fieldLink RX2 30 "ChanceWorks$Code" "rows" "[I", Cond.fieldLink RX2 33 "ChanceWorks$Code" "ops" "[I", Cond.fieldLink RX2 36 "ChanceWorks$Code" "args" "[I", Cond.methodLink RX12 28 yX7_init, Cond.instanceMethod yX7_init, Cond.code yX7_init cX7_init 3 none, Cond.methodLink RX7 3 objectInit]
def wsX12_init_r4 : List Cond := [Cond.fieldLink RX7 9 "ChanceWorks$Parser" "tape" "LChanceWorks$Tape;", Cond.fieldLink RX7 15 "ChanceWorks$Parser" "code" "LChanceWorks$Code;", Cond.fieldLink RX7 19 "ChanceWorks$Parser" "varNames" "[I", Cond.fieldLink RX7 23 "ChanceWorks$Parser" "arrayNames" "[I", Cond.fieldLink RX7 26 "ChanceWorks$Parser" "functionNames" "[I", Cond.fieldLink RX7 29 "ChanceWorks$Parser" "ownNames" "[I", Cond.fieldLink RX7 32 "ChanceWorks$Parser" "owners" "[I", Cond.fieldLink RX7 35 "ChanceWorks$Parser" "lasts" "[I", Cond.arrayClass .boolean, Cond.fieldLink RX7 38 "ChanceWorks$Parser" "elses" "[Z", Cond.fieldLink RX7 42 "ChanceWorks$Parser" "waiting" "[I", Cond.methodLink RX12 37 yX4_init, Cond.instanceMethod yX4_init, Cond.code yX4_init cX4_init 2 none, Cond.methodLink RX4 5 objectInit, Cond.fieldLink RX4 11 "ChanceWorks$Machine" "code" "LChanceWorks$Code;", Cond.fieldLink RX4 15 "ChanceWorks$Machine" "memory" "[I", Cond.fieldLink RX4 19 "ChanceWorks$Machine" "stack" "[I", Cond.fieldLink RX4 22 "ChanceWorks$Machine" "worked" "[I", Cond.fieldLink RX4 25 "ChanceWorks$Machine" "values" "[I", Cond.fieldLink RX4 28 "ChanceWorks$Machine" "weights" "[I", Cond.methodLink RX12 46 yX0_init, Cond.instanceMethod yX0_init, Cond.code yX0_init cX0_init 3 none]
def wsX12_init_r5 : List Cond := [Cond.methodLink RX0 3 objectInit, Cond.fieldLink RX0 9 "ChanceWorks$Atlas" "machine" "LChanceWorks$Machine;", Cond.fieldLink RX0 15 "ChanceWorks$Atlas" "code" "LChanceWorks$Code;", Cond.classLink RX0 19 RX11, Cond.instantiable RX11 19, Cond.initialized RX11, Cond.fieldLink RX0 22 "ChanceWorks$Atlas" "web" "LChanceWorks$Web;", Cond.classLink RX0 26 RX3, Cond.instantiable RX3 7, Cond.initialized RX3, Cond.fieldLink RX0 33 "ChanceWorks$Atlas" "states" "LChanceWorks$Hoard;", Cond.fieldLink RX0 37 "ChanceWorks$Atlas" "endings" "LChanceWorks$Hoard;", Cond.fieldLink RX0 40 "ChanceWorks$Atlas" "firsts" "[I", Cond.fieldLink RX0 44 "ChanceWorks$Atlas" "totals" "[I", Cond.fieldLink RX0 47 "ChanceWorks$Atlas" "gains" "[I", Cond.fieldLink RX0 50 "ChanceWorks$Atlas" "plan" "[I", Cond.fieldLink RX0 53 "ChanceWorks$Atlas" "chooses" "[Z", Cond.fieldLink RX0 57 "ChanceWorks$Atlas" "hopeless" "[Z", Cond.fieldLink RX0 60 "ChanceWorks$Atlas" "sorts" "[I", Cond.fieldLink RX0 63 "ChanceWorks$Atlas" "numbers" "[I", Cond.fieldLink RX0 66 "ChanceWorks$Atlas" "weights" "[I", Cond.methodLink RX0 21 yX11_init, Cond.instanceMethod yX11_init, Cond.code yX11_init cX11_init 1 none]
def wsX12_init_r6 : List Cond := [Cond.methodLink RX11 3 objectInit, Cond.fieldLink RX11 9 "ChanceWorks$Web" "firsts" "[I", Cond.fieldLink RX11 15 "ChanceWorks$Web" "targets" "[I", Cond.fieldLink RX11 18 "ChanceWorks$Web" "backFirsts" "[I", Cond.fieldLink RX11 21 "ChanceWorks$Web" "sources" "[I", Cond.fieldLink RX11 24 "ChanceWorks$Web" "edges" "[I", Cond.fieldLink RX11 27 "ChanceWorks$Web" "open" "[Z", Cond.fieldLink RX11 31 "ChanceWorks$Web" "knotFirsts" "[I", Cond.fieldLink RX11 34 "ChanceWorks$Web" "knotOf" "[I", Cond.fieldLink RX11 37 "ChanceWorks$Web" "order" "[I", Cond.fieldLink RX11 40 "ChanceWorks$Web" "seen" "[I", Cond.fieldLink RX11 43 "ChanceWorks$Web" "low" "[I", Cond.fieldLink RX11 46 "ChanceWorks$Web" "cursor" "[I", Cond.fieldLink RX11 49 "ChanceWorks$Web" "path" "[I", Cond.fieldLink RX11 52 "ChanceWorks$Web" "heap" "[I", Cond.methodLink RX0 30 yX3_init, Cond.instanceMethod yX3_init, Cond.code yX3_init cX3_init 4 none, Cond.methodLink RX3 3 objectInit, Cond.fieldLink RX3 9 "ChanceWorks$Hoard" "most" "I", Cond.fieldLink RX3 15 "ChanceWorks$Hoard" "widest" "I", Cond.fieldLink RX3 18 "ChanceWorks$Hoard" "slots" "I", Cond.fieldLink RX3 21 "ChanceWorks$Hoard" "starts" "[I", Cond.fieldLink RX3 25 "ChanceWorks$Hoard" "table" "[I"]
def wsX12_init_r7 : List Cond := [Cond.fieldLink RX3 28 "ChanceWorks$Hoard" "pool" "[I", Cond.methodLink RX12 55 yX1_init, Cond.instanceMethod yX1_init, Cond.code yX1_init cX1_init 1 none, Cond.methodLink RX1 1 objectInit, Cond.fieldLink RX1 7 "ChanceWorks$Calc" "factors" "[J", Cond.classLink RX1 13 RX5, Cond.instantiable RX5 2, Cond.initialized RX5, Cond.fieldLink RX1 18 "ChanceWorks$Calc" "quotient" "LChanceWorks$Num;", Cond.fieldLink RX1 22 "ChanceWorks$Calc" "rest" "LChanceWorks$Num;", Cond.fieldLink RX1 25 "ChanceWorks$Calc" "divisor" "LChanceWorks$Num;", Cond.fieldLink RX1 28 "ChanceWorks$Calc" "x" "LChanceWorks$Num;", Cond.fieldLink RX1 31 "ChanceWorks$Calc" "y" "LChanceWorks$Num;", Cond.fieldLink RX1 34 "ChanceWorks$Calc" "spare" "LChanceWorks$Num;", Cond.methodLink RX1 15 yX5_init, Cond.instanceMethod yX5_init, Cond.code yX5_init cX5_init 2 none, Cond.methodLink RX5 1 objectInit, Cond.methodLink RX5 7 Lib.Math.max.name, Cond.static Lib.Math.max.name, Cond.initialized "java/lang/Math", Cond.code Lib.Math.max.name Lib.Math.max.code 2 (some .int), Cond.fieldLink RX5 13 "ChanceWorks$Num" "limbs" "[I"]
def wsX12_init_r8 : List Cond := [Cond.methodLink RX12 58 yX9_init, Cond.instanceMethod yX9_init, Cond.code yX9_init cX9_init 3 none, Cond.methodLink RX9 3 objectInit, Cond.fieldLink RX9 9 "ChanceWorks$Solver" "atlas" "LChanceWorks$Atlas;", Cond.fieldLink RX9 15 "ChanceWorks$Solver" "calc" "LChanceWorks$Calc;", Cond.fieldLink RX9 19 "ChanceWorks$Atlas" "web" "LChanceWorks$Web;", Cond.fieldLink RX9 25 "ChanceWorks$Solver" "web" "LChanceWorks$Web;", Cond.classLink RX9 26 RX8, Cond.fieldLink RX9 28 "ChanceWorks$Solver" "visits" "[LChanceWorks$Ratio;", Cond.fieldLink RX9 32 "ChanceWorks$Solver" "worths" "[LChanceWorks$Ratio;", Cond.classLink RX9 35 RX5, Cond.fieldLink RX9 40 "ChanceWorks$Solver" "whole" "LChanceWorks$Num;", Cond.fieldLink RX9 45 "ChanceWorks$Solver" "part" "LChanceWorks$Ratio;", Cond.fieldLink RX9 49 "ChanceWorks$Solver" "factor" "LChanceWorks$Num;", Cond.fieldLink RX9 52 "ChanceWorks$Solver" "scaled" "LChanceWorks$Num;", Cond.fieldLink RX9 55 "ChanceWorks$Solver" "term" "LChanceWorks$Num;", Cond.fieldLink RX9 58 "ChanceWorks$Solver" "sum" "LChanceWorks$Num;", Cond.fieldLink RX9 61 "ChanceWorks$Solver" "less" "LChanceWorks$Num;", Cond.fieldLink RX9 64 "ChanceWorks$Solver" "cells" "[LChanceWorks$Num;", Cond.fieldLink RX9 68 "ChanceWorks$Solver" "rows" "[I", Cond.fieldLink RX9 72 "ChanceWorks$Solver" "taken" "[I", Cond.methodLink RX9 37 yX5_init, Cond.methodLink RX9 44 yX8_init]
def wsX12_init_r9 : List Cond := [Cond.instanceMethod yX8_init, Cond.code yX8_init cX8_init 2 none, Cond.methodLink RX8 3 objectInit, Cond.classLink RX8 9 RX5, Cond.fieldLink RX8 14 "ChanceWorks$Ratio" "top" "LChanceWorks$Num;", Cond.fieldLink RX8 20 "ChanceWorks$Ratio" "bottom" "LChanceWorks$Num;", Cond.methodLink RX8 11 yX5_init, Cond.methodLink RX8 23 yX5_put, Cond.instanceMethod yX5_put, Cond.selects RX5 yX5_put yX5_put, Cond.code yX5_put cX5_put 3 none, Cond.constantLong RX5 29 (2147483647), Cond.fieldLink RX5 25 "ChanceWorks$Num" "length" "I", Cond.methodLink RX12 67 yX6_init, Cond.instanceMethod yX6_init, Cond.code yX6_init cX6_init 4 none, Cond.methodLink RX6 3 objectInit, Cond.fieldLink RX6 9 "ChanceWorks$Odds" "atlas" "LChanceWorks$Atlas;", Cond.fieldLink RX6 15 "ChanceWorks$Odds" "solver" "LChanceWorks$Solver;", Cond.fieldLink RX6 19 "ChanceWorks$Odds" "calc" "LChanceWorks$Calc;", Cond.classLink RX6 23 RX5, Cond.fieldLink RX6 28 "ChanceWorks$Odds" "held" "LChanceWorks$Num;", Cond.classLink RX6 32 RX3, Cond.fieldLink RX6 37 "ChanceWorks$Odds" "groups" "LChanceWorks$Hoard;"]
def wsX12_init_r10 : List Cond := [Cond.fieldLink RX6 41 "ChanceWorks$Odds" "key" "[I", Cond.fieldLink RX6 45 "ChanceWorks$Odds" "lefts" "[I", Cond.fieldLink RX6 48 "ChanceWorks$Odds" "rights" "[I", Cond.fieldLink RX6 51 "ChanceWorks$Odds" "bases" "[I", Cond.fieldLink RX6 54 "ChanceWorks$Odds" "ranks" "[I", Cond.fieldLink RX6 57 "ChanceWorks$Odds" "cellOf" "[I", Cond.fieldLink RX6 60 "ChanceWorks$Odds" "heads" "[I", Cond.fieldLink RX6 63 "ChanceWorks$Odds" "links" "[I", Cond.fieldLink RX6 66 "ChanceWorks$Odds" "edges" "[LChanceWorks$Num;", Cond.methodLink RX6 25 yX5_init, Cond.methodLink RX6 34 yX3_init, Cond.methodLink RX12 76 yX8_init]
def wsX12_init : List Cond := .code yX12_init cX12_init 2 none :: ((wsX12_init_r1 ++ (wsX12_init_r2 ++ (wsX12_init_r3 ++ (wsX12_init_r4 ++ (wsX12_init_r5 ++ (wsX12_init_r6 ++ (wsX12_init_r7 ++ (wsX12_init_r8 ++ (wsX12_init_r9 ++ wsX12_init_r10))))))))) ++ wsX100 ++ wsX120 ++ wsX20 ++ wsX70 ++ wsX40 ++ wsX00 ++ wsX10 ++ wsX90 ++ wsX60 ++ wsX80 ++ wsX110 ++ wsX30 ++ wsX50 ++ (vx_atM "java/lang/ArrayIndexOutOfBoundsException" ["java/lang/IndexOutOfBoundsException", "java/lang/RuntimeException", "java/lang/Exception"]).filter goodWord)
set_option maxRecDepth 20000 in
theorem ggX0_init_X11_init : GoodIn wsX0_init wsX11_init := goodIn_r _ [28, 29, 2, 3, 15, 30, 31, 32, 33, 34, 20, 35, 36, 37, 38, 39, 40, 41, 42, 43, 72, 73, 74, 75, 76, 77, 78, 79, 80, 81, 82, 83, 84, 85, 86, 87, 88, 89, 90] (by decide +kernel) (by decide +kernel)
set_option maxRecDepth 20000 in
theorem gX0_init_X11_init : GoodIn wsX0_init (wsX11_init) := ggX0_init_X11_init
set_option maxRecDepth 20000 in
theorem ggX0_init_X3_init : GoodIn wsX0_init wsX3_init := goodIn_r _ [46, 47, 2, 3, 48, 49, 50, 15, 51, 52, 53, 91, 92, 93, 94, 95, 96, 97] (by decide +kernel) (by decide +kernel)
set_option maxRecDepth 20000 in
theorem gX0_init_X3_init : GoodIn wsX0_init (wsX3_init) := ggX0_init_X3_init
theorem dX0_init_0 : decode cX0_init 0 = .ok (.aload_n 0, 1) := by decide +kernel
theorem dX0_init_1 : decode cX0_init 1 = .ok (.invokespecial 3, 3) := by decide +kernel
theorem dX0_init_4 : decode cX0_init 4 = .ok (.aload_n 0, 1) := by decide +kernel
theorem dX0_init_5 : decode cX0_init 5 = .ok (.aload_n 1, 1) := by decide +kernel
theorem dX0_init_6 : decode cX0_init 6 = .ok (.putfield 9, 3) := by decide +kernel
theorem dX0_init_9 : decode cX0_init 9 = .ok (.aload_n 0, 1) := by decide +kernel
theorem dX0_init_10 : decode cX0_init 10 = .ok (.aload_n 2, 1) := by decide +kernel
theorem dX0_init_11 : decode cX0_init 11 = .ok (.putfield 15, 3) := by decide +kernel
theorem dX0_init_14 : decode cX0_init 14 = .ok (.aload_n 0, 1) := by decide +kernel
theorem dX0_init_15 : decode cX0_init 15 = .ok (.new 19, 3) := by decide +kernel
theorem dX0_init_18 : decode cX0_init 18 = .ok (.dup, 1) := by decide +kernel
theorem dX0_init_19 : decode cX0_init 19 = .ok (.invokespecial 21, 3) := by decide +kernel
theorem dX0_init_22 : decode cX0_init 22 = .ok (.putfield 22, 3) := by decide +kernel
theorem dX0_init_25 : decode cX0_init 25 = .ok (.aload_n 0, 1) := by decide +kernel
theorem dX0_init_26 : decode cX0_init 26 = .ok (.new 26, 3) := by decide +kernel
theorem dX0_init_29 : decode cX0_init 29 = .ok (.dup, 1) := by decide +kernel
theorem dX0_init_30 : decode cX0_init 30 = .ok (.sipush 1000, 3) := by decide +kernel
theorem dX0_init_33 : decode cX0_init 33 = .ok (.sipush 142, 3) := by decide +kernel
theorem dX0_init_36 : decode cX0_init 36 = .ok (.sipush 2048, 3) := by decide +kernel
theorem dX0_init_39 : decode cX0_init 39 = .ok (.invokespecial 30, 3) := by decide +kernel
theorem dX0_init_42 : decode cX0_init 42 = .ok (.putfield 33, 3) := by decide +kernel
theorem dX0_init_45 : decode cX0_init 45 = .ok (.aload_n 0, 1) := by decide +kernel
theorem dX0_init_46 : decode cX0_init 46 = .ok (.new 26, 3) := by decide +kernel
theorem dX0_init_49 : decode cX0_init 49 = .ok (.dup, 1) := by decide +kernel
theorem dX0_init_50 : decode cX0_init 50 = .ok (.sipush 1000, 3) := by decide +kernel
theorem dX0_init_53 : decode cX0_init 53 = .ok (.bipush 35, 2) := by decide +kernel
theorem dX0_init_55 : decode cX0_init 55 = .ok (.sipush 2048, 3) := by decide +kernel
theorem dX0_init_58 : decode cX0_init 58 = .ok (.invokespecial 30, 3) := by decide +kernel
theorem dX0_init_61 : decode cX0_init 61 = .ok (.putfield 37, 3) := by decide +kernel
theorem dX0_init_64 : decode cX0_init 64 = .ok (.aload_n 0, 1) := by decide +kernel
theorem dX0_init_65 : decode cX0_init 65 = .ok (.iconst 1, 1) := by decide +kernel
theorem dX0_init_66 : decode cX0_init 66 = .ok (.newarray .int, 2) := by decide +kernel
theorem dX0_init_68 : decode cX0_init 68 = .ok (.putfield 40, 3) := by decide +kernel
theorem dX0_init_71 : decode cX0_init 71 = .ok (.aload_n 0, 1) := by decide +kernel
theorem dX0_init_72 : decode cX0_init 72 = .ok (.iconst 0, 1) := by decide +kernel
theorem dX0_init_73 : decode cX0_init 73 = .ok (.newarray .int, 2) := by decide +kernel
theorem dX0_init_75 : decode cX0_init 75 = .ok (.putfield 44, 3) := by decide +kernel
theorem dX0_init_78 : decode cX0_init 78 = .ok (.aload_n 0, 1) := by decide +kernel
theorem dX0_init_79 : decode cX0_init 79 = .ok (.iconst 0, 1) := by decide +kernel
theorem dX0_init_80 : decode cX0_init 80 = .ok (.newarray .int, 2) := by decide +kernel
theorem dX0_init_82 : decode cX0_init 82 = .ok (.putfield 47, 3) := by decide +kernel
theorem dX0_init_85 : decode cX0_init 85 = .ok (.aload_n 0, 1) := by decide +kernel
theorem dX0_init_86 : decode cX0_init 86 = .ok (.iconst 0, 1) := by decide +kernel
theorem dX0_init_87 : decode cX0_init 87 = .ok (.newarray .int, 2) := by decide +kernel
theorem dX0_init_89 : decode cX0_init 89 = .ok (.putfield 50, 3) := by decide +kernel
theorem dX0_init_92 : decode cX0_init 92 = .ok (.aload_n 0, 1) := by decide +kernel
theorem dX0_init_93 : decode cX0_init 93 = .ok (.iconst 0, 1) := by decide +kernel
theorem dX0_init_94 : decode cX0_init 94 = .ok (.newarray .boolean, 2) := by decide +kernel
theorem dX0_init_96 : decode cX0_init 96 = .ok (.putfield 53, 3) := by decide +kernel
theorem dX0_init_99 : decode cX0_init 99 = .ok (.aload_n 0, 1) := by decide +kernel
theorem dX0_init_100 : decode cX0_init 100 = .ok (.iconst 0, 1) := by decide +kernel
theorem dX0_init_101 : decode cX0_init 101 = .ok (.newarray .boolean, 2) := by decide +kernel
theorem dX0_init_103 : decode cX0_init 103 = .ok (.putfield 57, 3) := by decide +kernel
theorem dX0_init_106 : decode cX0_init 106 = .ok (.aload_n 0, 1) := by decide +kernel
theorem dX0_init_107 : decode cX0_init 107 = .ok (.bipush 64, 2) := by decide +kernel
theorem dX0_init_109 : decode cX0_init 109 = .ok (.newarray .int, 2) := by decide +kernel
theorem dX0_init_111 : decode cX0_init 111 = .ok (.putfield 60, 3) := by decide +kernel
theorem dX0_init_114 : decode cX0_init 114 = .ok (.aload_n 0, 1) := by decide +kernel
theorem dX0_init_115 : decode cX0_init 115 = .ok (.bipush 64, 2) := by decide +kernel
theorem dX0_init_117 : decode cX0_init 117 = .ok (.newarray .int, 2) := by decide +kernel
theorem dX0_init_119 : decode cX0_init 119 = .ok (.putfield 63, 3) := by decide +kernel
theorem dX0_init_122 : decode cX0_init 122 = .ok (.aload_n 0, 1) := by decide +kernel
theorem dX0_init_123 : decode cX0_init 123 = .ok (.bipush 64, 2) := by decide +kernel
theorem dX0_init_125 : decode cX0_init 125 = .ok (.newarray .int, 2) := by decide +kernel
theorem dX0_init_127 : decode cX0_init 127 = .ok (.putfield 66, 3) := by decide +kernel
theorem dX0_init_130 : decode cX0_init 130 = .ok (.return_, 1) := by decide +kernel
set_option maxRecDepth 20000 in
theorem ggX1_init_X5_init : GoodIn wsX1_init wsX5_init := goodIn_r _ [17, 18, 2, 3, 19, 20, 21, 22, 23, 24, 32, 33] (by decide +kernel) (by decide +kernel)
set_option maxRecDepth 20000 in
theorem gX1_init_X5_init : GoodIn wsX1_init (wsX5_init) := ggX1_init_X5_init
theorem dX1_init_0 : decode cX1_init 0 = .ok (.aload_n 0, 1) := by decide +kernel
theorem dX1_init_1 : decode cX1_init 1 = .ok (.invokespecial 1, 3) := by decide +kernel
theorem dX1_init_4 : decode cX1_init 4 = .ok (.aload_n 0, 1) := by decide +kernel
theorem dX1_init_5 : decode cX1_init 5 = .ok (.iconst 4, 1) := by decide +kernel
theorem dX1_init_6 : decode cX1_init 6 = .ok (.newarray .long, 2) := by decide +kernel
theorem dX1_init_8 : decode cX1_init 8 = .ok (.putfield 7, 3) := by decide +kernel
theorem dX1_init_11 : decode cX1_init 11 = .ok (.aload_n 0, 1) := by decide +kernel
theorem dX1_init_12 : decode cX1_init 12 = .ok (.new 13, 3) := by decide +kernel
theorem dX1_init_15 : decode cX1_init 15 = .ok (.dup, 1) := by decide +kernel
theorem dX1_init_16 : decode cX1_init 16 = .ok (.bipush 8, 2) := by decide +kernel
theorem dX1_init_18 : decode cX1_init 18 = .ok (.invokespecial 15, 3) := by decide +kernel
theorem dX1_init_21 : decode cX1_init 21 = .ok (.putfield 18, 3) := by decide +kernel
theorem dX1_init_24 : decode cX1_init 24 = .ok (.aload_n 0, 1) := by decide +kernel
theorem dX1_init_25 : decode cX1_init 25 = .ok (.new 13, 3) := by decide +kernel
theorem dX1_init_28 : decode cX1_init 28 = .ok (.dup, 1) := by decide +kernel
theorem dX1_init_29 : decode cX1_init 29 = .ok (.bipush 8, 2) := by decide +kernel
theorem dX1_init_31 : decode cX1_init 31 = .ok (.invokespecial 15, 3) := by decide +kernel
theorem dX1_init_34 : decode cX1_init 34 = .ok (.putfield 22, 3) := by decide +kernel
theorem dX1_init_37 : decode cX1_init 37 = .ok (.aload_n 0, 1) := by decide +kernel
theorem dX1_init_38 : decode cX1_init 38 = .ok (.new 13, 3) := by decide +kernel
theorem dX1_init_41 : decode cX1_init 41 = .ok (.dup, 1) := by decide +kernel
theorem dX1_init_42 : decode cX1_init 42 = .ok (.bipush 8, 2) := by decide +kernel
theorem dX1_init_44 : decode cX1_init 44 = .ok (.invokespecial 15, 3) := by decide +kernel
theorem dX1_init_47 : decode cX1_init 47 = .ok (.putfield 25, 3) := by decide +kernel
theorem dX1_init_50 : decode cX1_init 50 = .ok (.aload_n 0, 1) := by decide +kernel
theorem dX1_init_51 : decode cX1_init 51 = .ok (.new 13, 3) := by decide +kernel
theorem dX1_init_54 : decode cX1_init 54 = .ok (.dup, 1) := by decide +kernel
theorem dX1_init_55 : decode cX1_init 55 = .ok (.bipush 8, 2) := by decide +kernel
theorem dX1_init_57 : decode cX1_init 57 = .ok (.invokespecial 15, 3) := by decide +kernel
theorem dX1_init_60 : decode cX1_init 60 = .ok (.putfield 28, 3) := by decide +kernel
theorem dX1_init_63 : decode cX1_init 63 = .ok (.aload_n 0, 1) := by decide +kernel
theorem dX1_init_64 : decode cX1_init 64 = .ok (.new 13, 3) := by decide +kernel
theorem dX1_init_67 : decode cX1_init 67 = .ok (.dup, 1) := by decide +kernel
theorem dX1_init_68 : decode cX1_init 68 = .ok (.bipush 8, 2) := by decide +kernel
theorem dX1_init_70 : decode cX1_init 70 = .ok (.invokespecial 15, 3) := by decide +kernel
theorem dX1_init_73 : decode cX1_init 73 = .ok (.putfield 31, 3) := by decide +kernel
theorem dX1_init_76 : decode cX1_init 76 = .ok (.aload_n 0, 1) := by decide +kernel
theorem dX1_init_77 : decode cX1_init 77 = .ok (.new 13, 3) := by decide +kernel
theorem dX1_init_80 : decode cX1_init 80 = .ok (.dup, 1) := by decide +kernel
theorem dX1_init_81 : decode cX1_init 81 = .ok (.bipush 8, 2) := by decide +kernel
theorem dX1_init_83 : decode cX1_init 83 = .ok (.invokespecial 15, 3) := by decide +kernel
theorem dX1_init_86 : decode cX1_init 86 = .ok (.putfield 34, 3) := by decide +kernel
theorem dX1_init_89 : decode cX1_init 89 = .ok (.return_, 1) := by decide +kernel
theorem dX2_init_0 : decode cX2_init 0 = .ok (.aload_n 0, 1) := by decide +kernel
theorem dX2_init_1 : decode cX2_init 1 = .ok (.invokespecial 3, 3) := by decide +kernel
theorem dX2_init_4 : decode cX2_init 4 = .ok (.aload_n 0, 1) := by decide +kernel
theorem dX2_init_5 : decode cX2_init 5 = .ok (.bipush 10, 2) := by decide +kernel
theorem dX2_init_7 : decode cX2_init 7 = .ok (.newarray .int, 2) := by decide +kernel
theorem dX2_init_9 : decode cX2_init 9 = .ok (.putfield 9, 3) := by decide +kernel
theorem dX2_init_12 : decode cX2_init 12 = .ok (.aload_n 0, 1) := by decide +kernel
theorem dX2_init_13 : decode cX2_init 13 = .ok (.iconst 3, 1) := by decide +kernel
theorem dX2_init_14 : decode cX2_init 14 = .ok (.newarray .int, 2) := by decide +kernel
theorem dX2_init_16 : decode cX2_init 16 = .ok (.putfield 15, 3) := by decide +kernel
theorem dX2_init_19 : decode cX2_init 19 = .ok (.aload_n 0, 1) := by decide +kernel
theorem dX2_init_20 : decode cX2_init 20 = .ok (.iconst 3, 1) := by decide +kernel
theorem dX2_init_21 : decode cX2_init 21 = .ok (.newarray .int, 2) := by decide +kernel
theorem dX2_init_23 : decode cX2_init 23 = .ok (.putfield 18, 3) := by decide +kernel
theorem dX2_init_26 : decode cX2_init 26 = .ok (.aload_n 0, 1) := by decide +kernel
theorem dX2_init_27 : decode cX2_init 27 = .ok (.bipush 10, 2) := by decide +kernel
theorem dX2_init_29 : decode cX2_init 29 = .ok (.newarray .int, 2) := by decide +kernel
theorem dX2_init_31 : decode cX2_init 31 = .ok (.putfield 21, 3) := by decide +kernel
theorem dX2_init_34 : decode cX2_init 34 = .ok (.aload_n 0, 1) := by decide +kernel
theorem dX2_init_35 : decode cX2_init 35 = .ok (.bipush 10, 2) := by decide +kernel
theorem dX2_init_37 : decode cX2_init 37 = .ok (.newarray .int, 2) := by decide +kernel
theorem dX2_init_39 : decode cX2_init 39 = .ok (.putfield 24, 3) := by decide +kernel
theorem dX2_init_42 : decode cX2_init 42 = .ok (.aload_n 0, 1) := by decide +kernel
theorem dX2_init_43 : decode cX2_init 43 = .ok (.bipush 10, 2) := by decide +kernel
theorem dX2_init_45 : decode cX2_init 45 = .ok (.newarray .int, 2) := by decide +kernel
theorem dX2_init_47 : decode cX2_init 47 = .ok (.putfield 27, 3) := by decide +kernel
theorem dX2_init_50 : decode cX2_init 50 = .ok (.aload_n 0, 1) := by decide +kernel
theorem dX2_init_51 : decode cX2_init 51 = .ok (.bipush 88, 2) := by decide +kernel
theorem dX2_init_53 : decode cX2_init 53 = .ok (.newarray .int, 2) := by decide +kernel
theorem dX2_init_55 : decode cX2_init 55 = .ok (.putfield 30, 3) := by decide +kernel
theorem dX2_init_58 : decode cX2_init 58 = .ok (.aload_n 0, 1) := by decide +kernel
theorem dX2_init_59 : decode cX2_init 59 = .ok (.bipush 64, 2) := by decide +kernel
theorem dX2_init_61 : decode cX2_init 61 = .ok (.newarray .int, 2) := by decide +kernel
theorem dX2_init_63 : decode cX2_init 63 = .ok (.putfield 33, 3) := by decide +kernel
theorem dX2_init_66 : decode cX2_init 66 = .ok (.aload_n 0, 1) := by decide +kernel
theorem dX2_init_67 : decode cX2_init 67 = .ok (.bipush 64, 2) := by decide +kernel
theorem dX2_init_69 : decode cX2_init 69 = .ok (.newarray .int, 2) := by decide +kernel
theorem dX2_init_71 : decode cX2_init 71 = .ok (.putfield 36, 3) := by decide +kernel
theorem dX2_init_74 : decode cX2_init 74 = .ok (.return_, 1) := by decide +kernel
theorem dX3_init_0 : decode cX3_init 0 = .ok (.aload_n 0, 1) := by decide +kernel
theorem dX3_init_1 : decode cX3_init 1 = .ok (.invokespecial 3, 3) := by decide +kernel
theorem dX3_init_4 : decode cX3_init 4 = .ok (.aload_n 0, 1) := by decide +kernel
theorem dX3_init_5 : decode cX3_init 5 = .ok (.iload_n 1, 1) := by decide +kernel
theorem dX3_init_6 : decode cX3_init 6 = .ok (.putfield 9, 3) := by decide +kernel
theorem dX3_init_9 : decode cX3_init 9 = .ok (.aload_n 0, 1) := by decide +kernel
theorem dX3_init_10 : decode cX3_init 10 = .ok (.iload_n 2, 1) := by decide +kernel
theorem dX3_init_11 : decode cX3_init 11 = .ok (.putfield 15, 3) := by decide +kernel
theorem dX3_init_14 : decode cX3_init 14 = .ok (.aload_n 0, 1) := by decide +kernel
theorem dX3_init_15 : decode cX3_init 15 = .ok (.iload_n 3, 1) := by decide +kernel
theorem dX3_init_16 : decode cX3_init 16 = .ok (.putfield 18, 3) := by decide +kernel
theorem dX3_init_19 : decode cX3_init 19 = .ok (.aload_n 0, 1) := by decide +kernel
theorem dX3_init_20 : decode cX3_init 20 = .ok (.iconst 1, 1) := by decide +kernel
theorem dX3_init_21 : decode cX3_init 21 = .ok (.newarray .int, 2) := by decide +kernel
theorem dX3_init_23 : decode cX3_init 23 = .ok (.putfield 21, 3) := by decide +kernel
theorem dX3_init_26 : decode cX3_init 26 = .ok (.aload_n 0, 1) := by decide +kernel
theorem dX3_init_27 : decode cX3_init 27 = .ok (.iconst 0, 1) := by decide +kernel
theorem dX3_init_28 : decode cX3_init 28 = .ok (.newarray .int, 2) := by decide +kernel
theorem dX3_init_30 : decode cX3_init 30 = .ok (.putfield 25, 3) := by decide +kernel
theorem dX3_init_33 : decode cX3_init 33 = .ok (.aload_n 0, 1) := by decide +kernel
theorem dX3_init_34 : decode cX3_init 34 = .ok (.bipush 16, 2) := by decide +kernel
theorem dX3_init_36 : decode cX3_init 36 = .ok (.newarray .int, 2) := by decide +kernel
theorem dX3_init_38 : decode cX3_init 38 = .ok (.putfield 28, 3) := by decide +kernel
theorem dX3_init_41 : decode cX3_init 41 = .ok (.return_, 1) := by decide +kernel
theorem dX4_init_0 : decode cX4_init 0 = .ok (.aload_n 0, 1) := by decide +kernel
theorem dX4_init_1 : decode cX4_init 1 = .ok (.invokespecial 5, 3) := by decide +kernel
theorem dX4_init_4 : decode cX4_init 4 = .ok (.aload_n 0, 1) := by decide +kernel
theorem dX4_init_5 : decode cX4_init 5 = .ok (.aload_n 1, 1) := by decide +kernel
theorem dX4_init_6 : decode cX4_init 6 = .ok (.putfield 11, 3) := by decide +kernel
theorem dX4_init_9 : decode cX4_init 9 = .ok (.aload_n 0, 1) := by decide +kernel
theorem dX4_init_10 : decode cX4_init 10 = .ok (.sipush 142, 3) := by decide +kernel
theorem dX4_init_13 : decode cX4_init 13 = .ok (.newarray .int, 2) := by decide +kernel
theorem dX4_init_15 : decode cX4_init 15 = .ok (.putfield 15, 3) := by decide +kernel
theorem dX4_init_18 : decode cX4_init 18 = .ok (.aload_n 0, 1) := by decide +kernel
theorem dX4_init_19 : decode cX4_init 19 = .ok (.sipush 256, 3) := by decide +kernel
theorem dX4_init_22 : decode cX4_init 22 = .ok (.newarray .int, 2) := by decide +kernel
theorem dX4_init_24 : decode cX4_init 24 = .ok (.putfield 19, 3) := by decide +kernel
theorem dX4_init_27 : decode cX4_init 27 = .ok (.aload_n 0, 1) := by decide +kernel
theorem dX4_init_28 : decode cX4_init 28 = .ok (.bipush 16, 2) := by decide +kernel
theorem dX4_init_30 : decode cX4_init 30 = .ok (.newarray .int, 2) := by decide +kernel
theorem dX4_init_32 : decode cX4_init 32 = .ok (.putfield 22, 3) := by decide +kernel
theorem dX4_init_35 : decode cX4_init 35 = .ok (.aload_n 0, 1) := by decide +kernel
theorem dX4_init_36 : decode cX4_init 36 = .ok (.bipush 64, 2) := by decide +kernel
theorem dX4_init_38 : decode cX4_init 38 = .ok (.newarray .int, 2) := by decide +kernel
theorem dX4_init_40 : decode cX4_init 40 = .ok (.putfield 25, 3) := by decide +kernel
theorem dX4_init_43 : decode cX4_init 43 = .ok (.aload_n 0, 1) := by decide +kernel
theorem dX4_init_44 : decode cX4_init 44 = .ok (.bipush 64, 2) := by decide +kernel
theorem dX4_init_46 : decode cX4_init 46 = .ok (.newarray .int, 2) := by decide +kernel
theorem dX4_init_48 : decode cX4_init 48 = .ok (.putfield 28, 3) := by decide +kernel
theorem dX4_init_51 : decode cX4_init 51 = .ok (.return_, 1) := by decide +kernel
theorem dX5_init_0 : decode cX5_init 0 = .ok (.aload_n 0, 1) := by decide +kernel
theorem dX5_init_1 : decode cX5_init 1 = .ok (.invokespecial 1, 3) := by decide +kernel
theorem dX5_init_4 : decode cX5_init 4 = .ok (.aload_n 0, 1) := by decide +kernel
theorem dX5_init_5 : decode cX5_init 5 = .ok (.iload_n 1, 1) := by decide +kernel
theorem dX5_init_6 : decode cX5_init 6 = .ok (.iconst 2, 1) := by decide +kernel
theorem dX5_init_7 : decode cX5_init 7 = .ok (.invokestatic 7, 3) := by decide +kernel
theorem dX5_init_10 : decode cX5_init 10 = .ok (.newarray .int, 2) := by decide +kernel
theorem dX5_init_12 : decode cX5_init 12 = .ok (.putfield 13, 3) := by decide +kernel
theorem dX5_init_15 : decode cX5_init 15 = .ok (.return_, 1) := by decide +kernel
theorem dX5_put_0 : decode cX5_put 0 = .ok (.aload_n 0, 1) := by decide +kernel
theorem dX5_put_1 : decode cX5_put 1 = .ok (.getfield 13, 3) := by decide +kernel
theorem dX5_put_4 : decode cX5_put 4 = .ok (.iconst 0, 1) := by decide +kernel
theorem dX5_put_5 : decode cX5_put 5 = .ok (.lload_n 1, 1) := by decide +kernel
theorem dX5_put_6 : decode cX5_put 6 = .ok (.ldc2_w 29, 3) := by decide +kernel
theorem dX5_put_9 : decode cX5_put 9 = .ok (.land, 1) := by decide +kernel
theorem dX5_put_10 : decode cX5_put 10 = .ok (.l2i, 1) := by decide +kernel
theorem dX5_put_11 : decode cX5_put 11 = .ok (.iastore, 1) := by decide +kernel
theorem dX5_put_12 : decode cX5_put 12 = .ok (.aload_n 0, 1) := by decide +kernel
theorem dX5_put_13 : decode cX5_put 13 = .ok (.getfield 13, 3) := by decide +kernel
theorem dX5_put_16 : decode cX5_put 16 = .ok (.iconst 1, 1) := by decide +kernel
theorem dX5_put_17 : decode cX5_put 17 = .ok (.lload_n 1, 1) := by decide +kernel
theorem dX5_put_18 : decode cX5_put 18 = .ok (.bipush 31, 2) := by decide +kernel
theorem dX5_put_20 : decode cX5_put 20 = .ok (.lushr, 1) := by decide +kernel
theorem dX5_put_21 : decode cX5_put 21 = .ok (.l2i, 1) := by decide +kernel
theorem dX5_put_22 : decode cX5_put 22 = .ok (.iastore, 1) := by decide +kernel
theorem dX5_put_23 : decode cX5_put 23 = .ok (.aload_n 0, 1) := by decide +kernel
theorem dX5_put_24 : decode cX5_put 24 = .ok (.aload_n 0, 1) := by decide +kernel
theorem dX5_put_25 : decode cX5_put 25 = .ok (.getfield 13, 3) := by decide +kernel
theorem dX5_put_28 : decode cX5_put 28 = .ok (.iconst 1, 1) := by decide +kernel
theorem dX5_put_29 : decode cX5_put 29 = .ok (.iaload, 1) := by decide +kernel
theorem dX5_put_30 : decode cX5_put 30 = .ok (.ifCond .eq 7, 3) := by decide +kernel
theorem dX5_put_33 : decode cX5_put 33 = .ok (.iconst 2, 1) := by decide +kernel
theorem dX5_put_34 : decode cX5_put 34 = .ok (.goto 17, 3) := by decide +kernel
theorem dX5_put_37 : decode cX5_put 37 = .ok (.aload_n 0, 1) := by decide +kernel
theorem dX5_put_38 : decode cX5_put 38 = .ok (.getfield 13, 3) := by decide +kernel
theorem dX5_put_41 : decode cX5_put 41 = .ok (.iconst 0, 1) := by decide +kernel
theorem dX5_put_42 : decode cX5_put 42 = .ok (.iaload, 1) := by decide +kernel
theorem dX5_put_43 : decode cX5_put 43 = .ok (.ifCond .eq 7, 3) := by decide +kernel
theorem dX5_put_46 : decode cX5_put 46 = .ok (.iconst 1, 1) := by decide +kernel
theorem dX5_put_47 : decode cX5_put 47 = .ok (.goto 4, 3) := by decide +kernel
theorem dX5_put_50 : decode cX5_put 50 = .ok (.iconst 0, 1) := by decide +kernel
theorem dX5_put_51 : decode cX5_put 51 = .ok (.putfield 25, 3) := by decide +kernel
theorem dX5_put_54 : decode cX5_put 54 = .ok (.return_, 1) := by decide +kernel
set_option maxRecDepth 20000 in
theorem ggX6_init_X5_init : GoodIn wsX6_init wsX5_init := goodIn_r _ [27, 28, 2, 3, 29, 30, 31, 32, 15, 33, 58, 59] (by decide +kernel) (by decide +kernel)
set_option maxRecDepth 20000 in
theorem gX6_init_X5_init : GoodIn wsX6_init (wsX5_init) := ggX6_init_X5_init
set_option maxRecDepth 20000 in
theorem ggX6_init_X3_init : GoodIn wsX6_init wsX3_init := goodIn_r _ [36, 37, 2, 3, 38, 39, 40, 15, 41, 42, 43, 60, 61, 62, 63, 64, 65, 66] (by decide +kernel) (by decide +kernel)
set_option maxRecDepth 20000 in
theorem gX6_init_X3_init : GoodIn wsX6_init (wsX3_init) := ggX6_init_X3_init
theorem dX6_init_0 : decode cX6_init 0 = .ok (.aload_n 0, 1) := by decide +kernel
theorem dX6_init_1 : decode cX6_init 1 = .ok (.invokespecial 3, 3) := by decide +kernel
theorem dX6_init_4 : decode cX6_init 4 = .ok (.aload_n 0, 1) := by decide +kernel
theorem dX6_init_5 : decode cX6_init 5 = .ok (.aload_n 1, 1) := by decide +kernel
theorem dX6_init_6 : decode cX6_init 6 = .ok (.putfield 9, 3) := by decide +kernel
theorem dX6_init_9 : decode cX6_init 9 = .ok (.aload_n 0, 1) := by decide +kernel
theorem dX6_init_10 : decode cX6_init 10 = .ok (.aload_n 2, 1) := by decide +kernel
theorem dX6_init_11 : decode cX6_init 11 = .ok (.putfield 15, 3) := by decide +kernel
theorem dX6_init_14 : decode cX6_init 14 = .ok (.aload_n 0, 1) := by decide +kernel
theorem dX6_init_15 : decode cX6_init 15 = .ok (.aload_n 3, 1) := by decide +kernel
theorem dX6_init_16 : decode cX6_init 16 = .ok (.putfield 19, 3) := by decide +kernel
theorem dX6_init_19 : decode cX6_init 19 = .ok (.aload_n 0, 1) := by decide +kernel
theorem dX6_init_20 : decode cX6_init 20 = .ok (.new 23, 3) := by decide +kernel
theorem dX6_init_23 : decode cX6_init 23 = .ok (.dup, 1) := by decide +kernel
theorem dX6_init_24 : decode cX6_init 24 = .ok (.iconst 4, 1) := by decide +kernel
theorem dX6_init_25 : decode cX6_init 25 = .ok (.invokespecial 25, 3) := by decide +kernel
theorem dX6_init_28 : decode cX6_init 28 = .ok (.putfield 28, 3) := by decide +kernel
theorem dX6_init_31 : decode cX6_init 31 = .ok (.aload_n 0, 1) := by decide +kernel
theorem dX6_init_32 : decode cX6_init 32 = .ok (.new 32, 3) := by decide +kernel
theorem dX6_init_35 : decode cX6_init 35 = .ok (.dup, 1) := by decide +kernel
theorem dX6_init_36 : decode cX6_init 36 = .ok (.sipush 3000, 3) := by decide +kernel
theorem dX6_init_39 : decode cX6_init 39 = .ok (.iconst 3, 1) := by decide +kernel
theorem dX6_init_40 : decode cX6_init 40 = .ok (.sipush 8192, 3) := by decide +kernel
theorem dX6_init_43 : decode cX6_init 43 = .ok (.invokespecial 34, 3) := by decide +kernel
theorem dX6_init_46 : decode cX6_init 46 = .ok (.putfield 37, 3) := by decide +kernel
theorem dX6_init_49 : decode cX6_init 49 = .ok (.aload_n 0, 1) := by decide +kernel
theorem dX6_init_50 : decode cX6_init 50 = .ok (.iconst 3, 1) := by decide +kernel
theorem dX6_init_51 : decode cX6_init 51 = .ok (.newarray .int, 2) := by decide +kernel
theorem dX6_init_53 : decode cX6_init 53 = .ok (.putfield 41, 3) := by decide +kernel
theorem dX6_init_56 : decode cX6_init 56 = .ok (.aload_n 0, 1) := by decide +kernel
theorem dX6_init_57 : decode cX6_init 57 = .ok (.iconst 0, 1) := by decide +kernel
theorem dX6_init_58 : decode cX6_init 58 = .ok (.newarray .int, 2) := by decide +kernel
theorem dX6_init_60 : decode cX6_init 60 = .ok (.putfield 45, 3) := by decide +kernel
theorem dX6_init_63 : decode cX6_init 63 = .ok (.aload_n 0, 1) := by decide +kernel
theorem dX6_init_64 : decode cX6_init 64 = .ok (.iconst 0, 1) := by decide +kernel
theorem dX6_init_65 : decode cX6_init 65 = .ok (.newarray .int, 2) := by decide +kernel
theorem dX6_init_67 : decode cX6_init 67 = .ok (.putfield 48, 3) := by decide +kernel
theorem dX6_init_70 : decode cX6_init 70 = .ok (.aload_n 0, 1) := by decide +kernel
theorem dX6_init_71 : decode cX6_init 71 = .ok (.iconst 0, 1) := by decide +kernel
theorem dX6_init_72 : decode cX6_init 72 = .ok (.newarray .int, 2) := by decide +kernel
theorem dX6_init_74 : decode cX6_init 74 = .ok (.putfield 51, 3) := by decide +kernel
theorem dX6_init_77 : decode cX6_init 77 = .ok (.aload_n 0, 1) := by decide +kernel
theorem dX6_init_78 : decode cX6_init 78 = .ok (.iconst 0, 1) := by decide +kernel
theorem dX6_init_79 : decode cX6_init 79 = .ok (.newarray .int, 2) := by decide +kernel
theorem dX6_init_81 : decode cX6_init 81 = .ok (.putfield 54, 3) := by decide +kernel
theorem dX6_init_84 : decode cX6_init 84 = .ok (.aload_n 0, 1) := by decide +kernel
theorem dX6_init_85 : decode cX6_init 85 = .ok (.iconst 0, 1) := by decide +kernel
theorem dX6_init_86 : decode cX6_init 86 = .ok (.newarray .int, 2) := by decide +kernel
theorem dX6_init_88 : decode cX6_init 88 = .ok (.putfield 57, 3) := by decide +kernel
theorem dX6_init_91 : decode cX6_init 91 = .ok (.aload_n 0, 1) := by decide +kernel
theorem dX6_init_92 : decode cX6_init 92 = .ok (.iconst 0, 1) := by decide +kernel
theorem dX6_init_93 : decode cX6_init 93 = .ok (.newarray .int, 2) := by decide +kernel
theorem dX6_init_95 : decode cX6_init 95 = .ok (.putfield 60, 3) := by decide +kernel
theorem dX6_init_98 : decode cX6_init 98 = .ok (.aload_n 0, 1) := by decide +kernel
theorem dX6_init_99 : decode cX6_init 99 = .ok (.iconst 0, 1) := by decide +kernel
theorem dX6_init_100 : decode cX6_init 100 = .ok (.newarray .int, 2) := by decide +kernel
theorem dX6_init_102 : decode cX6_init 102 = .ok (.putfield 63, 3) := by decide +kernel
theorem dX6_init_105 : decode cX6_init 105 = .ok (.aload_n 0, 1) := by decide +kernel
theorem dX6_init_106 : decode cX6_init 106 = .ok (.iconst 0, 1) := by decide +kernel
theorem dX6_init_107 : decode cX6_init 107 = .ok (.anewarray 23, 3) := by decide +kernel
theorem dX6_init_110 : decode cX6_init 110 = .ok (.putfield 66, 3) := by decide +kernel
theorem dX6_init_113 : decode cX6_init 113 = .ok (.return_, 1) := by decide +kernel
theorem dX7_init_0 : decode cX7_init 0 = .ok (.aload_n 0, 1) := by decide +kernel
theorem dX7_init_1 : decode cX7_init 1 = .ok (.invokespecial 3, 3) := by decide +kernel
theorem dX7_init_4 : decode cX7_init 4 = .ok (.aload_n 0, 1) := by decide +kernel
theorem dX7_init_5 : decode cX7_init 5 = .ok (.aload_n 1, 1) := by decide +kernel
theorem dX7_init_6 : decode cX7_init 6 = .ok (.putfield 9, 3) := by decide +kernel
theorem dX7_init_9 : decode cX7_init 9 = .ok (.aload_n 0, 1) := by decide +kernel
theorem dX7_init_10 : decode cX7_init 10 = .ok (.aload_n 2, 1) := by decide +kernel
theorem dX7_init_11 : decode cX7_init 11 = .ok (.putfield 15, 3) := by decide +kernel
theorem dX7_init_14 : decode cX7_init 14 = .ok (.aload_n 0, 1) := by decide +kernel
theorem dX7_init_15 : decode cX7_init 15 = .ok (.bipush 10, 2) := by decide +kernel
theorem dX7_init_17 : decode cX7_init 17 = .ok (.newarray .int, 2) := by decide +kernel
theorem dX7_init_19 : decode cX7_init 19 = .ok (.putfield 19, 3) := by decide +kernel
theorem dX7_init_22 : decode cX7_init 22 = .ok (.aload_n 0, 1) := by decide +kernel
theorem dX7_init_23 : decode cX7_init 23 = .ok (.iconst 3, 1) := by decide +kernel
theorem dX7_init_24 : decode cX7_init 24 = .ok (.newarray .int, 2) := by decide +kernel
theorem dX7_init_26 : decode cX7_init 26 = .ok (.putfield 23, 3) := by decide +kernel
theorem dX7_init_29 : decode cX7_init 29 = .ok (.aload_n 0, 1) := by decide +kernel
theorem dX7_init_30 : decode cX7_init 30 = .ok (.bipush 10, 2) := by decide +kernel
theorem dX7_init_32 : decode cX7_init 32 = .ok (.newarray .int, 2) := by decide +kernel
theorem dX7_init_34 : decode cX7_init 34 = .ok (.putfield 26, 3) := by decide +kernel
theorem dX7_init_37 : decode cX7_init 37 = .ok (.aload_n 0, 1) := by decide +kernel
theorem dX7_init_38 : decode cX7_init 38 = .ok (.bipush 8, 2) := by decide +kernel
theorem dX7_init_40 : decode cX7_init 40 = .ok (.newarray .int, 2) := by decide +kernel
theorem dX7_init_42 : decode cX7_init 42 = .ok (.putfield 29, 3) := by decide +kernel
theorem dX7_init_45 : decode cX7_init 45 = .ok (.aload_n 0, 1) := by decide +kernel
theorem dX7_init_46 : decode cX7_init 46 = .ok (.bipush 41, 2) := by decide +kernel
theorem dX7_init_48 : decode cX7_init 48 = .ok (.newarray .int, 2) := by decide +kernel
theorem dX7_init_50 : decode cX7_init 50 = .ok (.putfield 32, 3) := by decide +kernel
theorem dX7_init_53 : decode cX7_init 53 = .ok (.aload_n 0, 1) := by decide +kernel
theorem dX7_init_54 : decode cX7_init 54 = .ok (.bipush 41, 2) := by decide +kernel
theorem dX7_init_56 : decode cX7_init 56 = .ok (.newarray .int, 2) := by decide +kernel
theorem dX7_init_58 : decode cX7_init 58 = .ok (.putfield 35, 3) := by decide +kernel
theorem dX7_init_61 : decode cX7_init 61 = .ok (.aload_n 0, 1) := by decide +kernel
theorem dX7_init_62 : decode cX7_init 62 = .ok (.bipush 41, 2) := by decide +kernel
theorem dX7_init_64 : decode cX7_init 64 = .ok (.newarray .boolean, 2) := by decide +kernel
theorem dX7_init_66 : decode cX7_init 66 = .ok (.putfield 38, 3) := by decide +kernel
theorem dX7_init_69 : decode cX7_init 69 = .ok (.aload_n 0, 1) := by decide +kernel
theorem dX7_init_70 : decode cX7_init 70 = .ok (.bipush 16, 2) := by decide +kernel
theorem dX7_init_72 : decode cX7_init 72 = .ok (.newarray .int, 2) := by decide +kernel
theorem dX7_init_74 : decode cX7_init 74 = .ok (.putfield 42, 3) := by decide +kernel
theorem dX7_init_77 : decode cX7_init 77 = .ok (.return_, 1) := by decide +kernel
set_option maxRecDepth 20000 in
theorem ggX8_init_X5_init : GoodIn wsX8_init wsX5_init := goodIn_r _ [11, 12, 2, 3, 13, 14, 15, 16, 17, 18, 25, 26] (by decide +kernel) (by decide +kernel)
set_option maxRecDepth 20000 in
theorem gX8_init_X5_init : GoodIn wsX8_init (wsX5_init) := ggX8_init_X5_init
set_option maxRecDepth 20000 in
theorem ggX8_init_X5_put : GoodIn wsX8_init wsX5_put := goodIn_ca (goodIn_r _ [22, 18, 23, 24, 25, 26] (by decide +kernel) (by decide +kernel)) (goodIn_sub (fun _ h => List.mem_cons_of_mem _ (List.mem_append_right _ h)) (by decide +kernel))
set_option maxRecDepth 20000 in
theorem gX8_init_X5_put : GoodIn wsX8_init (wsV RX8 23 RX5 yX5_put wsX5_put) := goodIn_app (goodIn_of _ (by decide +kernel)) ggX8_init_X5_put
theorem dX8_init_0 : decode cX8_init 0 = .ok (.aload_n 0, 1) := by decide +kernel
theorem dX8_init_1 : decode cX8_init 1 = .ok (.invokespecial 3, 3) := by decide +kernel
theorem dX8_init_4 : decode cX8_init 4 = .ok (.aload_n 0, 1) := by decide +kernel
theorem dX8_init_5 : decode cX8_init 5 = .ok (.new 9, 3) := by decide +kernel
theorem dX8_init_8 : decode cX8_init 8 = .ok (.dup, 1) := by decide +kernel
theorem dX8_init_9 : decode cX8_init 9 = .ok (.iload_n 1, 1) := by decide +kernel
theorem dX8_init_10 : decode cX8_init 10 = .ok (.invokespecial 11, 3) := by decide +kernel
theorem dX8_init_13 : decode cX8_init 13 = .ok (.putfield 14, 3) := by decide +kernel
theorem dX8_init_16 : decode cX8_init 16 = .ok (.aload_n 0, 1) := by decide +kernel
theorem dX8_init_17 : decode cX8_init 17 = .ok (.new 9, 3) := by decide +kernel
theorem dX8_init_20 : decode cX8_init 20 = .ok (.dup, 1) := by decide +kernel
theorem dX8_init_21 : decode cX8_init 21 = .ok (.iload_n 1, 1) := by decide +kernel
theorem dX8_init_22 : decode cX8_init 22 = .ok (.invokespecial 11, 3) := by decide +kernel
theorem dX8_init_25 : decode cX8_init 25 = .ok (.putfield 20, 3) := by decide +kernel
theorem dX8_init_28 : decode cX8_init 28 = .ok (.aload_n 0, 1) := by decide +kernel
theorem dX8_init_29 : decode cX8_init 29 = .ok (.getfield 20, 3) := by decide +kernel
theorem dX8_init_32 : decode cX8_init 32 = .ok (.lconst 1, 1) := by decide +kernel
theorem dX8_init_33 : decode cX8_init 33 = .ok (.invokevirtual 23, 3) := by decide +kernel
theorem dX8_init_36 : decode cX8_init 36 = .ok (.return_, 1) := by decide +kernel
set_option maxRecDepth 20000 in
theorem ggX9_init_X5_init : GoodIn wsX9_init wsX5_init := goodIn_r _ [29, 30, 2, 3, 31, 32, 33, 34, 24, 35, 85, 86] (by decide +kernel) (by decide +kernel)
set_option maxRecDepth 20000 in
theorem gX9_init_X5_init : GoodIn wsX9_init (wsX5_init) := ggX9_init_X5_init
set_option maxRecDepth 20000 in
theorem ggX9_init_X8_init : GoodIn wsX9_init wsX8_init := goodIn_ca (goodIn_r _ [38, 39, 2, 3, 40, 12, 13, 41, 42, 43, 28, 29, 30, 31, 32, 33, 34, 24, 35, 44, 45, 46, 47, 48, 49, 85, 86, 87, 88, 89] (by decide +kernel) (by decide +kernel)) (goodIn_sub (fun _ h => List.mem_cons_of_mem _ (List.mem_append_right _ h)) (by decide +kernel))
set_option maxRecDepth 20000 in
theorem gX9_init_X8_init : GoodIn wsX9_init (wsX8_init) := ggX9_init_X8_init
theorem dX9_init_0 : decode cX9_init 0 = .ok (.aload_n 0, 1) := by decide +kernel
theorem dX9_init_1 : decode cX9_init 1 = .ok (.invokespecial 3, 3) := by decide +kernel
theorem dX9_init_4 : decode cX9_init 4 = .ok (.aload_n 0, 1) := by decide +kernel
theorem dX9_init_5 : decode cX9_init 5 = .ok (.aload_n 1, 1) := by decide +kernel
theorem dX9_init_6 : decode cX9_init 6 = .ok (.putfield 9, 3) := by decide +kernel
theorem dX9_init_9 : decode cX9_init 9 = .ok (.aload_n 0, 1) := by decide +kernel
theorem dX9_init_10 : decode cX9_init 10 = .ok (.aload_n 2, 1) := by decide +kernel
theorem dX9_init_11 : decode cX9_init 11 = .ok (.putfield 15, 3) := by decide +kernel
theorem dX9_init_14 : decode cX9_init 14 = .ok (.aload_n 0, 1) := by decide +kernel
theorem dX9_init_15 : decode cX9_init 15 = .ok (.aload_n 1, 1) := by decide +kernel
theorem dX9_init_16 : decode cX9_init 16 = .ok (.getfield 19, 3) := by decide +kernel
theorem dX9_init_19 : decode cX9_init 19 = .ok (.putfield 25, 3) := by decide +kernel
theorem dX9_init_22 : decode cX9_init 22 = .ok (.aload_n 0, 1) := by decide +kernel
theorem dX9_init_23 : decode cX9_init 23 = .ok (.iconst 0, 1) := by decide +kernel
theorem dX9_init_24 : decode cX9_init 24 = .ok (.anewarray 26, 3) := by decide +kernel
theorem dX9_init_27 : decode cX9_init 27 = .ok (.putfield 28, 3) := by decide +kernel
theorem dX9_init_30 : decode cX9_init 30 = .ok (.aload_n 0, 1) := by decide +kernel
theorem dX9_init_31 : decode cX9_init 31 = .ok (.iconst 0, 1) := by decide +kernel
theorem dX9_init_32 : decode cX9_init 32 = .ok (.anewarray 26, 3) := by decide +kernel
theorem dX9_init_35 : decode cX9_init 35 = .ok (.putfield 32, 3) := by decide +kernel
theorem dX9_init_38 : decode cX9_init 38 = .ok (.aload_n 0, 1) := by decide +kernel
theorem dX9_init_39 : decode cX9_init 39 = .ok (.new 35, 3) := by decide +kernel
theorem dX9_init_42 : decode cX9_init 42 = .ok (.dup, 1) := by decide +kernel
theorem dX9_init_43 : decode cX9_init 43 = .ok (.iconst 4, 1) := by decide +kernel
theorem dX9_init_44 : decode cX9_init 44 = .ok (.invokespecial 37, 3) := by decide +kernel
theorem dX9_init_47 : decode cX9_init 47 = .ok (.putfield 40, 3) := by decide +kernel
theorem dX9_init_50 : decode cX9_init 50 = .ok (.aload_n 0, 1) := by decide +kernel
theorem dX9_init_51 : decode cX9_init 51 = .ok (.new 26, 3) := by decide +kernel
theorem dX9_init_54 : decode cX9_init 54 = .ok (.dup, 1) := by decide +kernel
theorem dX9_init_55 : decode cX9_init 55 = .ok (.iconst 4, 1) := by decide +kernel
theorem dX9_init_56 : decode cX9_init 56 = .ok (.invokespecial 44, 3) := by decide +kernel
theorem dX9_init_59 : decode cX9_init 59 = .ok (.putfield 45, 3) := by decide +kernel
theorem dX9_init_62 : decode cX9_init 62 = .ok (.aload_n 0, 1) := by decide +kernel
theorem dX9_init_63 : decode cX9_init 63 = .ok (.new 35, 3) := by decide +kernel
theorem dX9_init_66 : decode cX9_init 66 = .ok (.dup, 1) := by decide +kernel
theorem dX9_init_67 : decode cX9_init 67 = .ok (.iconst 2, 1) := by decide +kernel
theorem dX9_init_68 : decode cX9_init 68 = .ok (.invokespecial 37, 3) := by decide +kernel
theorem dX9_init_71 : decode cX9_init 71 = .ok (.putfield 49, 3) := by decide +kernel
theorem dX9_init_74 : decode cX9_init 74 = .ok (.aload_n 0, 1) := by decide +kernel
theorem dX9_init_75 : decode cX9_init 75 = .ok (.new 35, 3) := by decide +kernel
theorem dX9_init_78 : decode cX9_init 78 = .ok (.dup, 1) := by decide +kernel
theorem dX9_init_79 : decode cX9_init 79 = .ok (.iconst 4, 1) := by decide +kernel
theorem dX9_init_80 : decode cX9_init 80 = .ok (.invokespecial 37, 3) := by decide +kernel
theorem dX9_init_83 : decode cX9_init 83 = .ok (.putfield 52, 3) := by decide +kernel
theorem dX9_init_86 : decode cX9_init 86 = .ok (.aload_n 0, 1) := by decide +kernel
theorem dX9_init_87 : decode cX9_init 87 = .ok (.new 35, 3) := by decide +kernel
theorem dX9_init_90 : decode cX9_init 90 = .ok (.dup, 1) := by decide +kernel
theorem dX9_init_91 : decode cX9_init 91 = .ok (.iconst 4, 1) := by decide +kernel
theorem dX9_init_92 : decode cX9_init 92 = .ok (.invokespecial 37, 3) := by decide +kernel
theorem dX9_init_95 : decode cX9_init 95 = .ok (.putfield 55, 3) := by decide +kernel
theorem dX9_init_98 : decode cX9_init 98 = .ok (.aload_n 0, 1) := by decide +kernel
theorem dX9_init_99 : decode cX9_init 99 = .ok (.new 35, 3) := by decide +kernel
theorem dX9_init_102 : decode cX9_init 102 = .ok (.dup, 1) := by decide +kernel
theorem dX9_init_103 : decode cX9_init 103 = .ok (.iconst 4, 1) := by decide +kernel
theorem dX9_init_104 : decode cX9_init 104 = .ok (.invokespecial 37, 3) := by decide +kernel
theorem dX9_init_107 : decode cX9_init 107 = .ok (.putfield 58, 3) := by decide +kernel
theorem dX9_init_110 : decode cX9_init 110 = .ok (.aload_n 0, 1) := by decide +kernel
theorem dX9_init_111 : decode cX9_init 111 = .ok (.new 35, 3) := by decide +kernel
theorem dX9_init_114 : decode cX9_init 114 = .ok (.dup, 1) := by decide +kernel
theorem dX9_init_115 : decode cX9_init 115 = .ok (.iconst 4, 1) := by decide +kernel
theorem dX9_init_116 : decode cX9_init 116 = .ok (.invokespecial 37, 3) := by decide +kernel
theorem dX9_init_119 : decode cX9_init 119 = .ok (.putfield 61, 3) := by decide +kernel
theorem dX9_init_122 : decode cX9_init 122 = .ok (.aload_n 0, 1) := by decide +kernel
theorem dX9_init_123 : decode cX9_init 123 = .ok (.iconst 0, 1) := by decide +kernel
theorem dX9_init_124 : decode cX9_init 124 = .ok (.anewarray 35, 3) := by decide +kernel
theorem dX9_init_127 : decode cX9_init 127 = .ok (.putfield 64, 3) := by decide +kernel
theorem dX9_init_130 : decode cX9_init 130 = .ok (.aload_n 0, 1) := by decide +kernel
theorem dX9_init_131 : decode cX9_init 131 = .ok (.iconst 0, 1) := by decide +kernel
theorem dX9_init_132 : decode cX9_init 132 = .ok (.newarray .int, 2) := by decide +kernel
theorem dX9_init_134 : decode cX9_init 134 = .ok (.putfield 68, 3) := by decide +kernel
theorem dX9_init_137 : decode cX9_init 137 = .ok (.aload_n 0, 1) := by decide +kernel
theorem dX9_init_138 : decode cX9_init 138 = .ok (.iconst 0, 1) := by decide +kernel
theorem dX9_init_139 : decode cX9_init 139 = .ok (.newarray .int, 2) := by decide +kernel
theorem dX9_init_141 : decode cX9_init 141 = .ok (.putfield 72, 3) := by decide +kernel
theorem dX9_init_144 : decode cX9_init 144 = .ok (.return_, 1) := by decide +kernel
theorem dX10_init_0 : decode cX10_init 0 = .ok (.aload_n 0, 1) := by decide +kernel
theorem dX10_init_1 : decode cX10_init 1 = .ok (.invokespecial 3, 3) := by decide +kernel
theorem dX10_init_4 : decode cX10_init 4 = .ok (.aload_n 0, 1) := by decide +kernel
theorem dX10_init_5 : decode cX10_init 5 = .ok (.sipush 240, 3) := by decide +kernel
theorem dX10_init_8 : decode cX10_init 8 = .ok (.newarray .byte, 2) := by decide +kernel
theorem dX10_init_10 : decode cX10_init 10 = .ok (.putfield 9, 3) := by decide +kernel
theorem dX10_init_13 : decode cX10_init 13 = .ok (.aload_n 0, 1) := by decide +kernel
theorem dX10_init_14 : decode cX10_init 14 = .ok (.bipush 64, 2) := by decide +kernel
theorem dX10_init_16 : decode cX10_init 16 = .ok (.newarray .int, 2) := by decide +kernel
theorem dX10_init_18 : decode cX10_init 18 = .ok (.putfield 15, 3) := by decide +kernel
theorem dX10_init_21 : decode cX10_init 21 = .ok (.aload_n 0, 1) := by decide +kernel
theorem dX10_init_22 : decode cX10_init 22 = .ok (.bipush 64, 2) := by decide +kernel
theorem dX10_init_24 : decode cX10_init 24 = .ok (.newarray .int, 2) := by decide +kernel
theorem dX10_init_26 : decode cX10_init 26 = .ok (.putfield 19, 3) := by decide +kernel
theorem dX10_init_29 : decode cX10_init 29 = .ok (.aload_n 0, 1) := by decide +kernel
theorem dX10_init_30 : decode cX10_init 30 = .ok (.bipush 64, 2) := by decide +kernel
theorem dX10_init_32 : decode cX10_init 32 = .ok (.newarray .int, 2) := by decide +kernel
theorem dX10_init_34 : decode cX10_init 34 = .ok (.putfield 22, 3) := by decide +kernel
theorem dX10_init_37 : decode cX10_init 37 = .ok (.return_, 1) := by decide +kernel
theorem dX11_init_0 : decode cX11_init 0 = .ok (.aload_n 0, 1) := by decide +kernel
theorem dX11_init_1 : decode cX11_init 1 = .ok (.invokespecial 3, 3) := by decide +kernel
theorem dX11_init_4 : decode cX11_init 4 = .ok (.aload_n 0, 1) := by decide +kernel
theorem dX11_init_5 : decode cX11_init 5 = .ok (.iconst 1, 1) := by decide +kernel
theorem dX11_init_6 : decode cX11_init 6 = .ok (.newarray .int, 2) := by decide +kernel
theorem dX11_init_8 : decode cX11_init 8 = .ok (.putfield 9, 3) := by decide +kernel
theorem dX11_init_11 : decode cX11_init 11 = .ok (.aload_n 0, 1) := by decide +kernel
theorem dX11_init_12 : decode cX11_init 12 = .ok (.bipush 64, 2) := by decide +kernel
theorem dX11_init_14 : decode cX11_init 14 = .ok (.newarray .int, 2) := by decide +kernel
theorem dX11_init_16 : decode cX11_init 16 = .ok (.putfield 15, 3) := by decide +kernel
theorem dX11_init_19 : decode cX11_init 19 = .ok (.aload_n 0, 1) := by decide +kernel
theorem dX11_init_20 : decode cX11_init 20 = .ok (.iconst 1, 1) := by decide +kernel
theorem dX11_init_21 : decode cX11_init 21 = .ok (.newarray .int, 2) := by decide +kernel
theorem dX11_init_23 : decode cX11_init 23 = .ok (.putfield 18, 3) := by decide +kernel
theorem dX11_init_26 : decode cX11_init 26 = .ok (.aload_n 0, 1) := by decide +kernel
theorem dX11_init_27 : decode cX11_init 27 = .ok (.bipush 64, 2) := by decide +kernel
theorem dX11_init_29 : decode cX11_init 29 = .ok (.newarray .int, 2) := by decide +kernel
theorem dX11_init_31 : decode cX11_init 31 = .ok (.putfield 21, 3) := by decide +kernel
theorem dX11_init_34 : decode cX11_init 34 = .ok (.aload_n 0, 1) := by decide +kernel
theorem dX11_init_35 : decode cX11_init 35 = .ok (.bipush 64, 2) := by decide +kernel
theorem dX11_init_37 : decode cX11_init 37 = .ok (.newarray .int, 2) := by decide +kernel
theorem dX11_init_39 : decode cX11_init 39 = .ok (.putfield 24, 3) := by decide +kernel
theorem dX11_init_42 : decode cX11_init 42 = .ok (.aload_n 0, 1) := by decide +kernel
theorem dX11_init_43 : decode cX11_init 43 = .ok (.iconst 0, 1) := by decide +kernel
theorem dX11_init_44 : decode cX11_init 44 = .ok (.newarray .boolean, 2) := by decide +kernel
theorem dX11_init_46 : decode cX11_init 46 = .ok (.putfield 27, 3) := by decide +kernel
theorem dX11_init_49 : decode cX11_init 49 = .ok (.aload_n 0, 1) := by decide +kernel
theorem dX11_init_50 : decode cX11_init 50 = .ok (.iconst 1, 1) := by decide +kernel
theorem dX11_init_51 : decode cX11_init 51 = .ok (.newarray .int, 2) := by decide +kernel
theorem dX11_init_53 : decode cX11_init 53 = .ok (.putfield 31, 3) := by decide +kernel
theorem dX11_init_56 : decode cX11_init 56 = .ok (.aload_n 0, 1) := by decide +kernel
theorem dX11_init_57 : decode cX11_init 57 = .ok (.iconst 0, 1) := by decide +kernel
theorem dX11_init_58 : decode cX11_init 58 = .ok (.newarray .int, 2) := by decide +kernel
theorem dX11_init_60 : decode cX11_init 60 = .ok (.putfield 34, 3) := by decide +kernel
theorem dX11_init_63 : decode cX11_init 63 = .ok (.aload_n 0, 1) := by decide +kernel
theorem dX11_init_64 : decode cX11_init 64 = .ok (.iconst 0, 1) := by decide +kernel
theorem dX11_init_65 : decode cX11_init 65 = .ok (.newarray .int, 2) := by decide +kernel
theorem dX11_init_67 : decode cX11_init 67 = .ok (.putfield 37, 3) := by decide +kernel
theorem dX11_init_70 : decode cX11_init 70 = .ok (.aload_n 0, 1) := by decide +kernel
theorem dX11_init_71 : decode cX11_init 71 = .ok (.iconst 0, 1) := by decide +kernel
theorem dX11_init_72 : decode cX11_init 72 = .ok (.newarray .int, 2) := by decide +kernel
theorem dX11_init_74 : decode cX11_init 74 = .ok (.putfield 40, 3) := by decide +kernel
theorem dX11_init_77 : decode cX11_init 77 = .ok (.aload_n 0, 1) := by decide +kernel
theorem dX11_init_78 : decode cX11_init 78 = .ok (.iconst 0, 1) := by decide +kernel
theorem dX11_init_79 : decode cX11_init 79 = .ok (.newarray .int, 2) := by decide +kernel
theorem dX11_init_81 : decode cX11_init 81 = .ok (.putfield 43, 3) := by decide +kernel
theorem dX11_init_84 : decode cX11_init 84 = .ok (.aload_n 0, 1) := by decide +kernel
theorem dX11_init_85 : decode cX11_init 85 = .ok (.iconst 0, 1) := by decide +kernel
theorem dX11_init_86 : decode cX11_init 86 = .ok (.newarray .int, 2) := by decide +kernel
theorem dX11_init_88 : decode cX11_init 88 = .ok (.putfield 46, 3) := by decide +kernel
theorem dX11_init_91 : decode cX11_init 91 = .ok (.aload_n 0, 1) := by decide +kernel
theorem dX11_init_92 : decode cX11_init 92 = .ok (.iconst 0, 1) := by decide +kernel
theorem dX11_init_93 : decode cX11_init 93 = .ok (.newarray .int, 2) := by decide +kernel
theorem dX11_init_95 : decode cX11_init 95 = .ok (.putfield 49, 3) := by decide +kernel
theorem dX11_init_98 : decode cX11_init 98 = .ok (.aload_n 0, 1) := by decide +kernel
theorem dX11_init_99 : decode cX11_init 99 = .ok (.iconst 0, 1) := by decide +kernel
theorem dX11_init_100 : decode cX11_init 100 = .ok (.newarray .int, 2) := by decide +kernel
theorem dX11_init_102 : decode cX11_init 102 = .ok (.putfield 52, 3) := by decide +kernel
theorem dX11_init_105 : decode cX11_init 105 = .ok (.return_, 1) := by decide +kernel
set_option maxRecDepth 20000 in
theorem ggX12_init_X10_init : GoodIn wsX12_init wsX10_init := goodIn_r _ [49, 50, 2, 3, 51, 52, 40, 53, 54, 55, 229, 230, 231, 232, 233, 234] (by decide +kernel) (by decide +kernel)
set_option maxRecDepth 20000 in
theorem gX12_init_X10_init : GoodIn wsX12_init (wsX10_init) := ggX12_init_X10_init
set_option maxRecDepth 20000 in
theorem ggX12_init_X2_init : GoodIn wsX12_init wsX2_init := goodIn_r _ [58, 59, 2, 3, 40, 60, 61, 62, 63, 64, 65, 66, 67, 68, 253, 254, 255, 256, 257, 258, 259, 260, 261, 262, 263, 264, 265, 266, 267, 268] (by decide +kernel) (by decide +kernel)
set_option maxRecDepth 20000 in
theorem gX12_init_X2_init : GoodIn wsX12_init (wsX2_init) := ggX12_init_X2_init
set_option maxRecDepth 20000 in
theorem ggX12_init_X7_init : GoodIn wsX12_init wsX7_init := goodIn_r _ [71, 72, 2, 3, 73, 74, 40, 75, 76, 77, 78, 79, 80, 81, 82, 83, 269, 270, 271, 272, 273, 274, 275, 276, 277, 278, 279, 280, 281, 282, 283, 284, 285, 286, 287] (by decide +kernel) (by decide +kernel)
set_option maxRecDepth 20000 in
theorem gX12_init_X7_init : GoodIn wsX12_init (wsX7_init) := ggX12_init_X7_init
set_option maxRecDepth 20000 in
theorem ggX12_init_X4_init : GoodIn wsX12_init wsX4_init := goodIn_r _ [86, 87, 2, 3, 88, 40, 89, 90, 91, 92, 93, 288, 289, 290, 291, 292, 293, 294, 295, 296, 297, 298, 299, 300, 301, 302, 303, 304, 305, 306, 307] (by decide +kernel) (by decide +kernel)
set_option maxRecDepth 20000 in
theorem gX12_init_X4_init : GoodIn wsX12_init (wsX4_init) := ggX12_init_X4_init
set_option maxRecDepth 20000 in
theorem ggX12_init_X0_init : GoodIn wsX12_init wsX0_init := goodIn_r _ [96, 97, 2, 3, 98, 99, 100, 101, 102, 103, 104, 105, 106, 107, 108, 40, 109, 110, 111, 112, 81, 113, 114, 115, 116, 117, 118, 119, 120, 121, 122, 123, 124, 125, 126, 127, 128, 129, 130, 131, 132, 133, 134, 135, 136, 137, 138, 139, 140, 141, 142, 143, 144, 145, 308, 309, 310, 311, 312, 313, 314, 315, 316, 317, 318, 319, 320, 321, 322, 323, 324, 325, 367, 368, 369, 370, 371, 372, 373, 374, 375, 376, 377, 378, 379, 380, 381, 382, 383, 384, 385, 386, 387, 388, 389, 390, 391, 392] (by decide +kernel) (by decide +kernel)
set_option maxRecDepth 20000 in
theorem gX12_init_X0_init : GoodIn wsX12_init (wsX0_init) := ggX12_init_X0_init
set_option maxRecDepth 20000 in
theorem ggX12_init_X1_init : GoodIn wsX12_init wsX1_init := goodIn_r _ [148, 149, 2, 3, 42, 150, 151, 152, 153, 154, 155, 156, 157, 158, 159, 160, 161, 162, 163, 164, 165, 166, 167, 40, 168, 326, 327, 328, 329, 330, 331, 332, 393, 394] (by decide +kernel) (by decide +kernel)
set_option maxRecDepth 20000 in
theorem gX12_init_X1_init : GoodIn wsX12_init (wsX1_init) := ggX12_init_X1_init
set_option maxRecDepth 20000 in
theorem ggX12_init_X9_init : GoodIn wsX12_init wsX9_init := goodIn_ca (goodIn_r _ [171, 172, 2, 3, 173, 174, 175, 176, 177, 178, 179, 180, 152, 153, 181, 37, 38, 182, 183, 184, 185, 186, 187, 188, 40, 189, 190, 191, 161, 162, 163, 164, 165, 166, 167, 168, 192, 193, 194, 195, 196, 197, 198, 199, 200, 201, 202, 203, 204, 205, 333, 334, 335, 336, 337, 338, 339, 340, 341, 342, 343, 344, 345, 346, 347, 348, 349, 308, 309, 310, 311, 312, 313, 314, 315, 316, 317, 318, 319, 320, 321, 322, 323, 324, 325, 393, 394, 364, 365, 366] (by decide +kernel) (by decide +kernel)) (goodIn_sub (fun _ h => List.mem_cons_of_mem _ (List.mem_append_right _ h)) (by decide +kernel))
set_option maxRecDepth 20000 in
theorem gX12_init_X9_init : GoodIn wsX12_init (wsX9_init) := ggX12_init_X9_init
set_option maxRecDepth 20000 in
theorem ggX12_init_X6_init : GoodIn wsX12_init wsX6_init := goodIn_r _ [208, 209, 2, 3, 210, 211, 212, 213, 152, 153, 214, 215, 105, 106, 216, 40, 217, 218, 219, 220, 221, 222, 223, 224, 225, 226, 161, 162, 163, 164, 165, 166, 167, 168, 227, 137, 138, 139, 140, 141, 142, 143, 144, 145, 350, 351, 352, 353, 354, 355, 356, 357, 358, 359, 360, 361, 362, 363, 393, 394, 386, 387, 388, 389, 390, 391, 392] (by decide +kernel) (by decide +kernel)
set_option maxRecDepth 20000 in
theorem gX12_init_X6_init : GoodIn wsX12_init (wsX6_init) := ggX12_init_X6_init
set_option maxRecDepth 20000 in
theorem ggX12_init_X8_init : GoodIn wsX12_init wsX8_init := goodIn_ca (goodIn_r _ [194, 195, 2, 3, 196, 152, 153, 197, 198, 199, 161, 162, 163, 164, 165, 166, 167, 40, 168, 200, 201, 202, 203, 204, 205, 393, 394, 364, 365, 366] (by decide +kernel) (by decide +kernel)) (goodIn_sub (fun _ h => List.mem_cons_of_mem _ (List.mem_append_right _ h)) (by decide +kernel))
set_option maxRecDepth 20000 in
theorem gX12_init_X8_init : GoodIn wsX12_init (wsX8_init) := ggX12_init_X8_init
theorem dX12_init_0 : decode cX12_init 0 = .ok (.aload_n 0, 1) := by decide +kernel
theorem dX12_init_1 : decode cX12_init 1 = .ok (.invokespecial 3, 3) := by decide +kernel
theorem dX12_init_4 : decode cX12_init 4 = .ok (.aload_n 0, 1) := by decide +kernel
theorem dX12_init_5 : decode cX12_init 5 = .ok (.new 9, 3) := by decide +kernel
theorem dX12_init_8 : decode cX12_init 8 = .ok (.dup, 1) := by decide +kernel
theorem dX12_init_9 : decode cX12_init 9 = .ok (.invokespecial 11, 3) := by decide +kernel
theorem dX12_init_12 : decode cX12_init 12 = .ok (.putfield 12, 3) := by decide +kernel
theorem dX12_init_15 : decode cX12_init 15 = .ok (.aload_n 0, 1) := by decide +kernel
theorem dX12_init_16 : decode cX12_init 16 = .ok (.new 16, 3) := by decide +kernel
theorem dX12_init_19 : decode cX12_init 19 = .ok (.dup, 1) := by decide +kernel
theorem dX12_init_20 : decode cX12_init 20 = .ok (.invokespecial 18, 3) := by decide +kernel
theorem dX12_init_23 : decode cX12_init 23 = .ok (.putfield 19, 3) := by decide +kernel
theorem dX12_init_26 : decode cX12_init 26 = .ok (.aload_n 0, 1) := by decide +kernel
theorem dX12_init_27 : decode cX12_init 27 = .ok (.new 16, 3) := by decide +kernel
theorem dX12_init_30 : decode cX12_init 30 = .ok (.dup, 1) := by decide +kernel
theorem dX12_init_31 : decode cX12_init 31 = .ok (.invokespecial 18, 3) := by decide +kernel
theorem dX12_init_34 : decode cX12_init 34 = .ok (.putfield 23, 3) := by decide +kernel
theorem dX12_init_37 : decode cX12_init 37 = .ok (.aload_n 0, 1) := by decide +kernel
theorem dX12_init_38 : decode cX12_init 38 = .ok (.new 26, 3) := by decide +kernel
theorem dX12_init_41 : decode cX12_init 41 = .ok (.dup, 1) := by decide +kernel
theorem dX12_init_42 : decode cX12_init 42 = .ok (.aload_n 0, 1) := by decide +kernel
theorem dX12_init_43 : decode cX12_init 43 = .ok (.getfield 12, 3) := by decide +kernel
theorem dX12_init_46 : decode cX12_init 46 = .ok (.aload_n 0, 1) := by decide +kernel
theorem dX12_init_47 : decode cX12_init 47 = .ok (.getfield 23, 3) := by decide +kernel
theorem dX12_init_50 : decode cX12_init 50 = .ok (.invokespecial 28, 3) := by decide +kernel
theorem dX12_init_53 : decode cX12_init 53 = .ok (.putfield 31, 3) := by decide +kernel
theorem dX12_init_56 : decode cX12_init 56 = .ok (.aload_n 0, 1) := by decide +kernel
theorem dX12_init_57 : decode cX12_init 57 = .ok (.new 35, 3) := by decide +kernel
theorem dX12_init_60 : decode cX12_init 60 = .ok (.dup, 1) := by decide +kernel
theorem dX12_init_61 : decode cX12_init 61 = .ok (.aload_n 0, 1) := by decide +kernel
theorem dX12_init_62 : decode cX12_init 62 = .ok (.getfield 19, 3) := by decide +kernel
theorem dX12_init_65 : decode cX12_init 65 = .ok (.invokespecial 37, 3) := by decide +kernel
theorem dX12_init_68 : decode cX12_init 68 = .ok (.putfield 40, 3) := by decide +kernel
theorem dX12_init_71 : decode cX12_init 71 = .ok (.aload_n 0, 1) := by decide +kernel
theorem dX12_init_72 : decode cX12_init 72 = .ok (.new 44, 3) := by decide +kernel
theorem dX12_init_75 : decode cX12_init 75 = .ok (.dup, 1) := by decide +kernel
theorem dX12_init_76 : decode cX12_init 76 = .ok (.aload_n 0, 1) := by decide +kernel
theorem dX12_init_77 : decode cX12_init 77 = .ok (.getfield 40, 3) := by decide +kernel
theorem dX12_init_80 : decode cX12_init 80 = .ok (.aload_n 0, 1) := by decide +kernel
theorem dX12_init_81 : decode cX12_init 81 = .ok (.getfield 19, 3) := by decide +kernel
theorem dX12_init_84 : decode cX12_init 84 = .ok (.invokespecial 46, 3) := by decide +kernel
theorem dX12_init_87 : decode cX12_init 87 = .ok (.putfield 49, 3) := by decide +kernel
theorem dX12_init_90 : decode cX12_init 90 = .ok (.new 53, 3) := by decide +kernel
theorem dX12_init_93 : decode cX12_init 93 = .ok (.dup, 1) := by decide +kernel
theorem dX12_init_94 : decode cX12_init 94 = .ok (.invokespecial 55, 3) := by decide +kernel
theorem dX12_init_97 : decode cX12_init 97 = .ok (.astore_n 1, 1) := by decide +kernel
theorem dX12_init_98 : decode cX12_init 98 = .ok (.aload_n 0, 1) := by decide +kernel
theorem dX12_init_99 : decode cX12_init 99 = .ok (.new 56, 3) := by decide +kernel
theorem dX12_init_102 : decode cX12_init 102 = .ok (.dup, 1) := by decide +kernel
theorem dX12_init_103 : decode cX12_init 103 = .ok (.aload_n 0, 1) := by decide +kernel
theorem dX12_init_104 : decode cX12_init 104 = .ok (.getfield 49, 3) := by decide +kernel
theorem dX12_init_107 : decode cX12_init 107 = .ok (.aload_n 1, 1) := by decide +kernel
theorem dX12_init_108 : decode cX12_init 108 = .ok (.invokespecial 58, 3) := by decide +kernel
theorem dX12_init_111 : decode cX12_init 111 = .ok (.putfield 61, 3) := by decide +kernel
theorem dX12_init_114 : decode cX12_init 114 = .ok (.aload_n 0, 1) := by decide +kernel
theorem dX12_init_115 : decode cX12_init 115 = .ok (.new 65, 3) := by decide +kernel
theorem dX12_init_118 : decode cX12_init 118 = .ok (.dup, 1) := by decide +kernel
theorem dX12_init_119 : decode cX12_init 119 = .ok (.aload_n 0, 1) := by decide +kernel
theorem dX12_init_120 : decode cX12_init 120 = .ok (.getfield 49, 3) := by decide +kernel
theorem dX12_init_123 : decode cX12_init 123 = .ok (.aload_n 0, 1) := by decide +kernel
theorem dX12_init_124 : decode cX12_init 124 = .ok (.getfield 61, 3) := by decide +kernel
theorem dX12_init_127 : decode cX12_init 127 = .ok (.aload_n 1, 1) := by decide +kernel
theorem dX12_init_128 : decode cX12_init 128 = .ok (.invokespecial 67, 3) := by decide +kernel
theorem dX12_init_131 : decode cX12_init 131 = .ok (.putfield 70, 3) := by decide +kernel
theorem dX12_init_134 : decode cX12_init 134 = .ok (.aload_n 0, 1) := by decide +kernel
theorem dX12_init_135 : decode cX12_init 135 = .ok (.new 74, 3) := by decide +kernel
theorem dX12_init_138 : decode cX12_init 138 = .ok (.dup, 1) := by decide +kernel
theorem dX12_init_139 : decode cX12_init 139 = .ok (.iconst 2, 1) := by decide +kernel
theorem dX12_init_140 : decode cX12_init 140 = .ok (.invokespecial 76, 3) := by decide +kernel
theorem dX12_init_143 : decode cX12_init 143 = .ok (.putfield 79, 3) := by decide +kernel
theorem dX12_init_146 : decode cX12_init 146 = .ok (.aload_n 0, 1) := by decide +kernel
theorem dX12_init_147 : decode cX12_init 147 = .ok (.sipush 200, 3) := by decide +kernel
theorem dX12_init_150 : decode cX12_init 150 = .ok (.newarray .int, 2) := by decide +kernel
theorem dX12_init_152 : decode cX12_init 152 = .ok (.putfield 83, 3) := by decide +kernel
theorem dX12_init_155 : decode cX12_init 155 = .ok (.aload_n 0, 1) := by decide +kernel
theorem dX12_init_156 : decode cX12_init 156 = .ok (.iconst 5, 1) := by decide +kernel
theorem dX12_init_157 : decode cX12_init 157 = .ok (.newarray .long, 2) := by decide +kernel
theorem dX12_init_159 : decode cX12_init 159 = .ok (.putfield 87, 3) := by decide +kernel
theorem dX12_init_162 : decode cX12_init 162 = .ok (.aload_n 0, 1) := by decide +kernel
theorem dX12_init_163 : decode cX12_init 163 = .ok (.bipush 34, 2) := by decide +kernel
theorem dX12_init_165 : decode cX12_init 165 = .ok (.newarray .int, 2) := by decide +kernel
theorem dX12_init_167 : decode cX12_init 167 = .ok (.putfield 91, 3) := by decide +kernel
theorem dX12_init_170 : decode cX12_init 170 = .ok (.aload_n 0, 1) := by decide +kernel
theorem dX12_init_171 : decode cX12_init 171 = .ok (.bipush 16, 2) := by decide +kernel
theorem dX12_init_173 : decode cX12_init 173 = .ok (.newarray .int, 2) := by decide +kernel
theorem dX12_init_175 : decode cX12_init 175 = .ok (.putfield 94, 3) := by decide +kernel
theorem dX12_init_178 : decode cX12_init 178 = .ok (.aload_n 0, 1) := by decide +kernel
theorem dX12_init_179 : decode cX12_init 179 = .ok (.bipush 16, 2) := by decide +kernel
theorem dX12_init_181 : decode cX12_init 181 = .ok (.newarray .int, 2) := by decide +kernel
theorem dX12_init_183 : decode cX12_init 183 = .ok (.putfield 97, 3) := by decide +kernel
theorem dX12_init_186 : decode cX12_init 186 = .ok (.return_, 1) := by decide +kernel
abbrev vwCl : List vw_C := [(RJ0, TJ0, 4), (RJ4, TJ4, 4), (RJx00060, TJx00060, 6), (RX0, TX0, 18), (RX1, TX1, 7), (RX2, TX2, 16), (RX3, TX3, 7), (RX4, TX4, 20), (RX5, TX5, 2), (RX6, TX6, 14), (RX7, TX7, 19), (RX8, TX8, 3), (RX9, TX9, 17), (RX10, TX10, 6), (RX11, TX11, 19), (RX12, TX12, 18), (RX13, TX13, 126)]
