def RX0 : String := "ChanceWorks$Atlas"
def TX0 : u_T := fun k => match k with
  | 0 => ("ChanceWorks$Atlas", "machine", "LChanceWorks$Machine;", true)
  | 1 => ("ChanceWorks$Atlas", "web", "LChanceWorks$Web;", true)
  | 2 => ("ChanceWorks$Atlas", "states", "LChanceWorks$Hoard;", true)
  | 3 => ("ChanceWorks$Atlas", "endings", "LChanceWorks$Hoard;", true)
  | 4 => ("ChanceWorks$Atlas", "explored", "Z", false)
  | 5 => ("ChanceWorks$Atlas", "code", "LChanceWorks$Code;", false)
  | 6 => ("ChanceWorks$Atlas", "firsts", "[I", false)
  | 7 => ("ChanceWorks$Atlas", "totals", "[I", false)
  | 8 => ("ChanceWorks$Atlas", "gains", "[I", false)
  | 9 => ("ChanceWorks$Atlas", "plan", "[I", false)
  | 10 => ("ChanceWorks$Atlas", "chooses", "[Z", false)
  | 11 => ("ChanceWorks$Atlas", "hopeless", "[Z", false)
  | 12 => ("ChanceWorks$Atlas", "sorts", "[I", false)
  | 13 => ("ChanceWorks$Atlas", "numbers", "[I", false)
  | 14 => ("ChanceWorks$Atlas", "weights", "[I", false)
  | 15 => ("ChanceWorks$Atlas", "nexts", "I", false)
  | 16 => ("ChanceWorks$Atlas", "rings", "I", false)
  | _ => ("ChanceWorks$Atlas", "greatest", "I", false)
def tyX0 : Nat → FieldType := fun k => match k with
  | 0 => .object "ChanceWorks$Machine"
  | 1 => .object "ChanceWorks$Web"
  | 2 => .object "ChanceWorks$Hoard"
  | 3 => .object "ChanceWorks$Hoard"
  | 4 => .boolean
  | 5 => .object "ChanceWorks$Code"
  | 6 => .array .int
  | 7 => .array .int
  | 8 => .array .int
  | 9 => .array .int
  | 10 => .array .boolean
  | 11 => .array .boolean
  | 12 => .array .int
  | 13 => .array .int
  | 14 => .array .int
  | 15 => .int
  | 16 => .int
  | _ => .int
theorem nmX0 : ∀ a, a < 18 → ∀ b, b < 18 → a ≠ b → (TX0 a).2.1 ≠ (TX0 b).2.1 := by decide +kernel
theorem tyX0_ok : ∀ k, k < 18 → parseFieldDescriptor (TX0 k).2.2.1 = some (tyX0 k) := by decide +kernel
def RX1 : String := "ChanceWorks$Calc"
def TX1 : u_T := fun k => match k with
  | 0 => ("ChanceWorks$Calc", "quotient", "LChanceWorks$Num;", true)
  | 1 => ("ChanceWorks$Calc", "rest", "LChanceWorks$Num;", false)
  | 2 => ("ChanceWorks$Calc", "divisor", "LChanceWorks$Num;", true)
  | 3 => ("ChanceWorks$Calc", "x", "LChanceWorks$Num;", false)
  | 4 => ("ChanceWorks$Calc", "y", "LChanceWorks$Num;", false)
  | _ => ("ChanceWorks$Calc", "spare", "LChanceWorks$Num;", true)
def tyX1 : Nat → FieldType := fun k => match k with
  | 0 => .object "ChanceWorks$Num"
  | 1 => .object "ChanceWorks$Num"
  | 2 => .object "ChanceWorks$Num"
  | 3 => .object "ChanceWorks$Num"
  | 4 => .object "ChanceWorks$Num"
  | _ => .object "ChanceWorks$Num"
theorem nmX1 : ∀ a, a < 6 → ∀ b, b < 6 → a ≠ b → (TX1 a).2.1 ≠ (TX1 b).2.1 := by decide +kernel
theorem tyX1_ok : ∀ k, k < 6 → parseFieldDescriptor (TX1 k).2.2.1 = some (tyX1 k) := by decide +kernel
def RX2 : String := "ChanceWorks$Code"
def TX2 : u_T := fun k => match k with
  | 0 => ("ChanceWorks$Code", "varStarts", "[I", true)
  | 1 => ("ChanceWorks$Code", "arrayBases", "[I", true)
  | 2 => ("ChanceWorks$Code", "arraySizes", "[I", true)
  | 3 => ("ChanceWorks$Code", "firstStatements", "[I", true)
  | 4 => ("ChanceWorks$Code", "nameCounts", "[I", true)
  | 5 => ("ChanceWorks$Code", "ownCounts", "[I", true)
  | 6 => ("ChanceWorks$Code", "rows", "[I", false)
  | 7 => ("ChanceWorks$Code", "ops", "[I", false)
  | 8 => ("ChanceWorks$Code", "args", "[I", false)
  | 9 => ("ChanceWorks$Code", "vars", "I", false)
  | 10 => ("ChanceWorks$Code", "arrays", "I", false)
  | 11 => ("ChanceWorks$Code", "cells", "I", false)
  | 12 => ("ChanceWorks$Code", "functions", "I", false)
  | 13 => ("ChanceWorks$Code", "statements", "I", false)
  | 14 => ("ChanceWorks$Code", "main", "I", false)
  | _ => ("ChanceWorks$Code", "length", "I", false)
def tyX2 : Nat → FieldType := fun k => match k with
  | 0 => .array .int
  | 1 => .array .int
  | 2 => .array .int
  | 3 => .array .int
  | 4 => .array .int
  | 5 => .array .int
  | 6 => .array .int
  | 7 => .array .int
  | 8 => .array .int
  | 9 => .int
  | 10 => .int
  | 11 => .int
  | 12 => .int
  | 13 => .int
  | 14 => .int
  | _ => .int
theorem nmX2 : ∀ a, a < 16 → ∀ b, b < 16 → a ≠ b → (TX2 a).2.1 ≠ (TX2 b).2.1 := by decide +kernel
theorem tyX2_ok : ∀ k, k < 16 → parseFieldDescriptor (TX2 k).2.2.1 = some (tyX2 k) := by decide +kernel
def RX3 : String := "ChanceWorks$Hoard"
def TX3 : u_T := fun k => match k with
  | 0 => ("ChanceWorks$Hoard", "most", "I", true)
  | 1 => ("ChanceWorks$Hoard", "slots", "I", true)
  | 2 => ("ChanceWorks$Hoard", "starts", "[I", false)
  | 3 => ("ChanceWorks$Hoard", "table", "[I", false)
  | 4 => ("ChanceWorks$Hoard", "pool", "[I", false)
  | _ => ("ChanceWorks$Hoard", "total", "I", false)
def tyX3 : Nat → FieldType := fun k => match k with
  | 0 => .int
  | 1 => .int
  | 2 => .array .int
  | 3 => .array .int
  | 4 => .array .int
  | _ => .int
theorem nmX3 : ∀ a, a < 6 → ∀ b, b < 6 → a ≠ b → (TX3 a).2.1 ≠ (TX3 b).2.1 := by decide +kernel
theorem tyX3_ok : ∀ k, k < 6 → parseFieldDescriptor (TX3 k).2.2.1 = some (tyX3 k) := by decide +kernel
def RX4 : String := "ChanceWorks$Machine"
def TX4 : u_T := fun k => match k with
  | 0 => ("ChanceWorks$Machine", "code", "LChanceWorks$Code;", false)
  | 1 => ("ChanceWorks$Machine", "memory", "[I", true)
  | 2 => ("ChanceWorks$Machine", "shared", "I", false)
  | 3 => ("ChanceWorks$Machine", "open", "I", false)
  | 4 => ("ChanceWorks$Machine", "frame", "I", false)
  | 5 => ("ChanceWorks$Machine", "stack", "[I", true)
  | 6 => ("ChanceWorks$Machine", "pc", "I", false)
  | 7 => ("ChanceWorks$Machine", "worked", "[I", true)
  | 8 => ("ChanceWorks$Machine", "target", "I", false)
  | 9 => ("ChanceWorks$Machine", "going", "I", false)
  | 10 => ("ChanceWorks$Machine", "answer", "I", false)
  | 11 => ("ChanceWorks$Machine", "outcome", "I", false)
  | 12 => ("ChanceWorks$Machine", "number", "I", false)
  | 13 => ("ChanceWorks$Machine", "failure", "I", false)
  | 14 => ("ChanceWorks$Machine", "gained", "I", false)
  | 15 => ("ChanceWorks$Machine", "wants", "I", false)
  | 16 => ("ChanceWorks$Machine", "ways", "I", false)
  | 17 => ("ChanceWorks$Machine", "total", "I", false)
  | 18 => ("ChanceWorks$Machine", "values", "[I", true)
  | _ => ("ChanceWorks$Machine", "weights", "[I", true)
def tyX4 : Nat → FieldType := fun k => match k with
  | 0 => .object "ChanceWorks$Code"
  | 1 => .array .int
  | 2 => .int
  | 3 => .int
  | 4 => .int
  | 5 => .array .int
  | 6 => .int
  | 7 => .array .int
  | 8 => .int
  | 9 => .int
  | 10 => .int
  | 11 => .int
  | 12 => .int
  | 13 => .int
  | 14 => .int
  | 15 => .int
  | 16 => .int
  | 17 => .int
  | 18 => .array .int
  | _ => .array .int
theorem nmX4 : ∀ a, a < 20 → ∀ b, b < 20 → a ≠ b → (TX4 a).2.1 ≠ (TX4 b).2.1 := by decide +kernel
theorem tyX4_ok : ∀ k, k < 20 → parseFieldDescriptor (TX4 k).2.2.1 = some (tyX4 k) := by decide +kernel
def RX5 : String := "ChanceWorks$Num"
def TX5 : u_T := fun k => match k with
  | 0 => ("ChanceWorks$Num", "limbs", "[I", false)
  | _ => ("ChanceWorks$Num", "length", "I", false)
def tyX5 : Nat → FieldType := fun k => match k with
  | 0 => .array .int
  | _ => .int
abbrev wsX50 : List Cond := u_ws RX5 TX5 2
theorem nmX5 : ∀ a, a < 2 → ∀ b, b < 2 → a ≠ b → (TX5 a).2.1 ≠ (TX5 b).2.1 := by decide +kernel
theorem tyX5_ok : ∀ k, k < 2 → parseFieldDescriptor (TX5 k).2.2.1 = some (tyX5 k) := by decide +kernel
abbrev cX5_init : ByteArray := prog_7_method_1_code
def yX5_init : MethodName := ⟨RX5, "<init>", "(I)V"⟩
abbrev cX5_put : ByteArray := prog_7_method_4_code
def yX5_put : MethodName := ⟨RX5, "put", "(J)V"⟩
def RX6 : String := "ChanceWorks$Odds"
def TX6 : u_T := fun k => match k with
  | 0 => ("ChanceWorks$Odds", "atlas", "LChanceWorks$Atlas;", true)
  | 1 => ("ChanceWorks$Odds", "solver", "LChanceWorks$Solver;", true)
  | 2 => ("ChanceWorks$Odds", "calc", "LChanceWorks$Calc;", true)
  | 3 => ("ChanceWorks$Odds", "weighed", "Z", false)
  | 4 => ("ChanceWorks$Odds", "whole", "LChanceWorks$Num;", true)
  | 5 => ("ChanceWorks$Odds", "kept", "LChanceWorks$Num;", true)
  | 6 => ("ChanceWorks$Odds", "ended", "LChanceWorks$Num;", true)
  | 7 => ("ChanceWorks$Odds", "weights", "[LChanceWorks$Num;", false)
  | 8 => ("ChanceWorks$Odds", "groups", "LChanceWorks$Hoard;", true)
  | 9 => ("ChanceWorks$Odds", "sums", "[LChanceWorks$Num;", false)
  | 10 => ("ChanceWorks$Odds", "lefts", "[I", false)
  | 11 => ("ChanceWorks$Odds", "rights", "[I", false)
  | _ => ("ChanceWorks$Odds", "key", "[I", true)
def tyX6 : Nat → FieldType := fun k => match k with
  | 0 => .object "ChanceWorks$Atlas"
  | 1 => .object "ChanceWorks$Solver"
  | 2 => .object "ChanceWorks$Calc"
  | 3 => .boolean
  | 4 => .object "ChanceWorks$Num"
  | 5 => .object "ChanceWorks$Num"
  | 6 => .object "ChanceWorks$Num"
  | 7 => .array (.object "ChanceWorks$Num")
  | 8 => .object "ChanceWorks$Hoard"
  | 9 => .array (.object "ChanceWorks$Num")
  | 10 => .array .int
  | 11 => .array .int
  | _ => .array .int
theorem nmX6 : ∀ a, a < 13 → ∀ b, b < 13 → a ≠ b → (TX6 a).2.1 ≠ (TX6 b).2.1 := by decide +kernel
theorem tyX6_ok : ∀ k, k < 13 → parseFieldDescriptor (TX6 k).2.2.1 = some (tyX6 k) := by decide +kernel
def RX7 : String := "ChanceWorks$Parser"
def TX7 : u_T := fun k => match k with
  | 0 => ("ChanceWorks$Parser", "tape", "LChanceWorks$Tape;", true)
  | 1 => ("ChanceWorks$Parser", "code", "LChanceWorks$Code;", false)
  | 2 => ("ChanceWorks$Parser", "at", "I", false)
  | 3 => ("ChanceWorks$Parser", "kind", "I", false)
  | 4 => ("ChanceWorks$Parser", "open", "I", false)
  | 5 => ("ChanceWorks$Parser", "inside", "Z", false)
  | 6 => ("ChanceWorks$Parser", "varNames", "[I", true)
  | 7 => ("ChanceWorks$Parser", "arrayNames", "[I", true)
  | 8 => ("ChanceWorks$Parser", "functionNames", "[I", true)
  | 9 => ("ChanceWorks$Parser", "ownNames", "[I", true)
  | 10 => ("ChanceWorks$Parser", "owns", "I", false)
  | 11 => ("ChanceWorks$Parser", "owners", "[I", true)
  | 12 => ("ChanceWorks$Parser", "lasts", "[I", true)
  | 13 => ("ChanceWorks$Parser", "elses", "[Z", true)
  | 14 => ("ChanceWorks$Parser", "blocks", "I", false)
  | 15 => ("ChanceWorks$Parser", "waiting", "[I", false)
  | 16 => ("ChanceWorks$Parser", "waits", "I", false)
  | 17 => ("ChanceWorks$Parser", "faultCode", "I", false)
  | _ => ("ChanceWorks$Parser", "faultPlace", "I", false)
def tyX7 : Nat → FieldType := fun k => match k with
  | 0 => .object "ChanceWorks$Tape"
  | 1 => .object "ChanceWorks$Code"
  | 2 => .int
  | 3 => .int
  | 4 => .int
  | 5 => .boolean
  | 6 => .array .int
  | 7 => .array .int
  | 8 => .array .int
  | 9 => .array .int
  | 10 => .int
  | 11 => .array .int
  | 12 => .array .int
  | 13 => .array .boolean
  | 14 => .int
  | 15 => .array .int
  | 16 => .int
  | 17 => .int
  | _ => .int
theorem nmX7 : ∀ a, a < 19 → ∀ b, b < 19 → a ≠ b → (TX7 a).2.1 ≠ (TX7 b).2.1 := by decide +kernel
theorem tyX7_ok : ∀ k, k < 19 → parseFieldDescriptor (TX7 k).2.2.1 = some (tyX7 k) := by decide +kernel
def RX8 : String := "ChanceWorks$Ratio"
def TX8 : u_T := fun k => match k with
  | 0 => ("ChanceWorks$Ratio", "top", "LChanceWorks$Num;", true)
  | 1 => ("ChanceWorks$Ratio", "bottom", "LChanceWorks$Num;", true)
  | _ => ("ChanceWorks$Ratio", "sign", "I", false)
def tyX8 : Nat → FieldType := fun k => match k with
  | 0 => .object "ChanceWorks$Num"
  | 1 => .object "ChanceWorks$Num"
  | _ => .int
abbrev wsX80 : List Cond := u_ws RX8 TX8 3
theorem nmX8 : ∀ a, a < 3 → ∀ b, b < 3 → a ≠ b → (TX8 a).2.1 ≠ (TX8 b).2.1 := by decide +kernel
theorem tyX8_ok : ∀ k, k < 3 → parseFieldDescriptor (TX8 k).2.2.1 = some (tyX8 k) := by decide +kernel
abbrev cX8_init : ByteArray := prog_10_method_1_code
def yX8_init : MethodName := ⟨RX8, "<init>", "()V"⟩
def RX9 : String := "ChanceWorks$Solver"
def TX9 : u_T := fun k => match k with
  | 0 => ("ChanceWorks$Solver", "atlas", "LChanceWorks$Atlas;", true)
  | 1 => ("ChanceWorks$Solver", "web", "LChanceWorks$Web;", true)
  | 2 => ("ChanceWorks$Solver", "calc", "LChanceWorks$Calc;", true)
  | 3 => ("ChanceWorks$Solver", "solved", "Z", false)
  | 4 => ("ChanceWorks$Solver", "planned", "Z", false)
  | 5 => ("ChanceWorks$Solver", "visits", "[LChanceWorks$Ratio;", false)
  | 6 => ("ChanceWorks$Solver", "worths", "[LChanceWorks$Ratio;", false)
  | 7 => ("ChanceWorks$Solver", "whole", "LChanceWorks$Num;", true)
  | 8 => ("ChanceWorks$Solver", "top", "LChanceWorks$Num;", true)
  | 9 => ("ChanceWorks$Solver", "bottom", "LChanceWorks$Num;", true)
  | 10 => ("ChanceWorks$Solver", "term", "LChanceWorks$Num;", true)
  | 11 => ("ChanceWorks$Solver", "sum", "LChanceWorks$Num;", true)
  | 12 => ("ChanceWorks$Solver", "less", "LChanceWorks$Num;", true)
  | 13 => ("ChanceWorks$Solver", "cells", "[LChanceWorks$Num;", false)
  | 14 => ("ChanceWorks$Solver", "rows", "[I", false)
  | _ => ("ChanceWorks$Solver", "taken", "[I", false)
def tyX9 : Nat → FieldType := fun k => match k with
  | 0 => .object "ChanceWorks$Atlas"
  | 1 => .object "ChanceWorks$Web"
  | 2 => .object "ChanceWorks$Calc"
  | 3 => .boolean
  | 4 => .boolean
  | 5 => .array (.object "ChanceWorks$Ratio")
  | 6 => .array (.object "ChanceWorks$Ratio")
  | 7 => .object "ChanceWorks$Num"
  | 8 => .object "ChanceWorks$Num"
  | 9 => .object "ChanceWorks$Num"
  | 10 => .object "ChanceWorks$Num"
  | 11 => .object "ChanceWorks$Num"
  | 12 => .object "ChanceWorks$Num"
  | 13 => .array (.object "ChanceWorks$Num")
  | 14 => .array .int
  | _ => .array .int
theorem nmX9 : ∀ a, a < 16 → ∀ b, b < 16 → a ≠ b → (TX9 a).2.1 ≠ (TX9 b).2.1 := by decide +kernel
theorem tyX9_ok : ∀ k, k < 16 → parseFieldDescriptor (TX9 k).2.2.1 = some (tyX9 k) := by decide +kernel
def RX10 : String := "ChanceWorks$Tape"
def TX10 : u_T := fun k => match k with
  | 0 => ("ChanceWorks$Tape", "bytes", "[B", false)
  | 1 => ("ChanceWorks$Tape", "length", "I", false)
  | 2 => ("ChanceWorks$Tape", "kinds", "[I", false)
  | 3 => ("ChanceWorks$Tape", "places", "[I", false)
  | 4 => ("ChanceWorks$Tape", "lengths", "[I", false)
  | _ => ("ChanceWorks$Tape", "total", "I", false)
def tyX10 : Nat → FieldType := fun k => match k with
  | 0 => .array .byte
  | 1 => .int
  | 2 => .array .int
  | 3 => .array .int
  | 4 => .array .int
  | _ => .int
abbrev wsX100 : List Cond := u_ws RX10 TX10 6
theorem nmX10 : ∀ a, a < 6 → ∀ b, b < 6 → a ≠ b → (TX10 a).2.1 ≠ (TX10 b).2.1 := by decide +kernel
theorem tyX10_ok : ∀ k, k < 6 → parseFieldDescriptor (TX10 k).2.2.1 = some (tyX10 k) := by decide +kernel
abbrev cX10_init : ByteArray := prog_12_method_1_code
def yX10_init : MethodName := ⟨RX10, "<init>", "()V"⟩
def RX11 : String := "ChanceWorks$Web"
def TX11 : u_T := fun k => match k with
  | 0 => ("ChanceWorks$Web", "total", "I", false)
  | 1 => ("ChanceWorks$Web", "firsts", "[I", false)
  | 2 => ("ChanceWorks$Web", "targets", "[I", false)
  | 3 => ("ChanceWorks$Web", "backFirsts", "[I", false)
  | 4 => ("ChanceWorks$Web", "sources", "[I", false)
  | 5 => ("ChanceWorks$Web", "edges", "[I", false)
  | 6 => ("ChanceWorks$Web", "open", "[Z", false)
  | 7 => ("ChanceWorks$Web", "knots", "I", false)
  | 8 => ("ChanceWorks$Web", "knotFirsts", "[I", false)
  | 9 => ("ChanceWorks$Web", "knotOf", "[I", false)
  | 10 => ("ChanceWorks$Web", "order", "[I", false)
  | 11 => ("ChanceWorks$Web", "seen", "[I", false)
  | 12 => ("ChanceWorks$Web", "low", "[I", false)
  | 13 => ("ChanceWorks$Web", "cursor", "[I", false)
  | 14 => ("ChanceWorks$Web", "path", "[I", false)
  | 15 => ("ChanceWorks$Web", "heap", "[I", false)
  | 16 => ("ChanceWorks$Web", "heaped", "I", false)
  | 17 => ("ChanceWorks$Web", "placed", "I", false)
  | _ => ("ChanceWorks$Web", "stamp", "I", false)
def tyX11 : Nat → FieldType := fun k => match k with
  | 0 => .int
  | 1 => .array .int
  | 2 => .array .int
  | 3 => .array .int
  | 4 => .array .int
  | 5 => .array .int
  | 6 => .array .boolean
  | 7 => .int
  | 8 => .array .int
  | 9 => .array .int
  | 10 => .array .int
  | 11 => .array .int
  | 12 => .array .int
  | 13 => .array .int
  | 14 => .array .int
  | 15 => .array .int
  | 16 => .int
  | 17 => .int
  | _ => .int
theorem nmX11 : ∀ a, a < 19 → ∀ b, b < 19 → a ≠ b → (TX11 a).2.1 ≠ (TX11 b).2.1 := by decide +kernel
theorem tyX11_ok : ∀ k, k < 19 → parseFieldDescriptor (TX11 k).2.2.1 = some (tyX11 k) := by decide +kernel
def RX12 : String := "ChanceWorks"
def TX12 : u_T := fun k => match k with
  | 0 => ("ChanceWorks", "tape", "LChanceWorks$Tape;", true)
  | 1 => ("ChanceWorks", "parser", "LChanceWorks$Parser;", true)
  | 2 => ("ChanceWorks", "code", "LChanceWorks$Code;", false)
  | 3 => ("ChanceWorks", "spare", "LChanceWorks$Code;", false)
  | 4 => ("ChanceWorks", "ready", "Z", false)
  | 5 => ("ChanceWorks", "faultCode", "I", false)
  | 6 => ("ChanceWorks", "machine", "LChanceWorks$Machine;", true)
  | 7 => ("ChanceWorks", "atlas", "LChanceWorks$Atlas;", true)
  | 8 => ("ChanceWorks", "solver", "LChanceWorks$Solver;", true)
  | 9 => ("ChanceWorks", "odds", "LChanceWorks$Odds;", true)
  | 10 => ("ChanceWorks", "shown", "LChanceWorks$Ratio;", true)
  | 11 => ("ChanceWorks", "told", "[I", true)
  | 12 => ("ChanceWorks", "tolds", "I", false)
  | 13 => ("ChanceWorks", "playMade", "Z", false)
  | 14 => ("ChanceWorks", "record", "[J", true)
  | 15 => ("ChanceWorks", "lastShared", "[I", true)
  | 16 => ("ChanceWorks", "drawnWeights", "[I", false)
  | _ => ("ChanceWorks", "drawnTotals", "[I", false)
def tyX12 : Nat → FieldType := fun k => match k with
  | 0 => .object "ChanceWorks$Tape"
  | 1 => .object "ChanceWorks$Parser"
  | 2 => .object "ChanceWorks$Code"
  | 3 => .object "ChanceWorks$Code"
  | 4 => .boolean
  | 5 => .int
  | 6 => .object "ChanceWorks$Machine"
  | 7 => .object "ChanceWorks$Atlas"
  | 8 => .object "ChanceWorks$Solver"
  | 9 => .object "ChanceWorks$Odds"
  | 10 => .object "ChanceWorks$Ratio"
  | 11 => .array .int
  | 12 => .int
  | 13 => .boolean
  | 14 => .array .long
  | 15 => .array .int
  | 16 => .array .int
  | _ => .array .int
theorem nmX12 : ∀ a, a < 18 → ∀ b, b < 18 → a ≠ b → (TX12 a).2.1 ≠ (TX12 b).2.1 := by decide +kernel
theorem tyX12_ok : ∀ k, k < 18 → parseFieldDescriptor (TX12 k).2.2.1 = some (tyX12 k) := by decide +kernel
def RX13 : String := "ChanceWorksModel"
def TX13 : u_T := fun k => match k with
  | 0 => ("ChanceWorksModel", "code", "I", false)
  | 1 => ("ChanceWorksModel", "tape", "[B", true)
  | 2 => ("ChanceWorksModel", "size", "I", false)
  | 3 => ("ChanceWorksModel", "book", "I", false)
  | 4 => ("ChanceWorksModel", "tokens", "I", false)
  | 5 => ("ChanceWorksModel", "sorts", "[B", true)
  | 6 => ("ChanceWorksModel", "places", "[I", true)
  | 7 => ("ChanceWorksModel", "numbers", "[I", true)
  | 8 => ("ChanceWorksModel", "firsts", "[J", true)
  | 9 => ("ChanceWorksModel", "seconds", "[I", true)
  | 10 => ("ChanceWorksModel", "at", "I", false)
  | 11 => ("ChanceWorksModel", "fault", "I", false)
  | 12 => ("ChanceWorksModel", "faultPlace", "I", false)
  | 13 => ("ChanceWorksModel", "openCount", "I", false)
  | 14 => ("ChanceWorksModel", "stands", "Z", false)
  | 15 => ("ChanceWorksModel", "vars", "I", false)
  | 16 => ("ChanceWorksModel", "arrs", "I", false)
  | 17 => ("ChanceWorksModel", "cells", "I", false)
  | 18 => ("ChanceWorksModel", "funcs", "I", false)
  | 19 => ("ChanceWorksModel", "statements", "I", false)
  | 20 => ("ChanceWorksModel", "varTokens", "[I", true)
  | 21 => ("ChanceWorksModel", "varValues", "[I", true)
  | 22 => ("ChanceWorksModel", "arrTokens", "[I", true)
  | 23 => ("ChanceWorksModel", "arrSizes", "[I", true)
  | 24 => ("ChanceWorksModel", "arrFirsts", "[I", true)
  | 25 => ("ChanceWorksModel", "funcTokens", "[I", true)
  | 26 => ("ChanceWorksModel", "givens", "[I", true)
  | 27 => ("ChanceWorksModel", "variables", "[I", true)
  | 28 => ("ChanceWorksModel", "variableTokens", "[I", true)
  | 29 => ("ChanceWorksModel", "firstOf", "[I", true)
  | 30 => ("ChanceWorksModel", "kinds", "[I", true)
  | 31 => ("ChanceWorksModel", "begins", "[I", true)
  | 32 => ("ChanceWorksModel", "expressions", "[I", true)
  | 33 => ("ChanceWorksModel", "bodies", "[I", true)
  | 34 => ("ChanceWorksModel", "elses", "[I", true)
  | 35 => ("ChanceWorksModel", "nextOf", "[I", true)
  | 36 => ("ChanceWorksModel", "parents", "[I", true)
  | 37 => ("ChanceWorksModel", "follows", "[I", true)
  | 38 => ("ChanceWorksModel", "ofFunctions", "[I", true)
  | 39 => ("ChanceWorksModel", "refs", "[I", true)
  | 40 => ("ChanceWorksModel", "main", "I", false)
  | 41 => ("ChanceWorksModel", "function", "I", false)
  | 42 => ("ChanceWorksModel", "blocks", "I", false)
  | 43 => ("ChanceWorksModel", "owners", "[I", true)
  | 44 => ("ChanceWorksModel", "latest", "[I", true)
  | 45 => ("ChanceWorksModel", "isElse", "[Z", true)
  | 46 => ("ChanceWorksModel", "mode", "I", false)
  | 47 => ("ChanceWorksModel", "failure", "I", false)
  | 48 => ("ChanceWorksModel", "waiting", "I", false)
  | 49 => ("ChanceWorksModel", "values", "I", false)
  | 50 => ("ChanceWorksModel", "waits", "[I", true)
  | 51 => ("ChanceWorksModel", "waitRefs", "[I", true)
  | 52 => ("ChanceWorksModel", "piles", "[I", true)
  | 53 => ("ChanceWorksModel", "lastFault", "I", false)
  | 54 => ("ChanceWorksModel", "kept", "[I", true)
  | 55 => ("ChanceWorksModel", "cursor", "I", false)
  | 56 => ("ChanceWorksModel", "few", "[I", true)
  | 57 => ("ChanceWorksModel", "globals", "[I", true)
  | 58 => ("ChanceWorksModel", "calls", "I", false)
  | 59 => ("ChanceWorksModel", "ats", "[I", true)
  | 60 => ("ChanceWorksModel", "callVars", "[I", true)
  | 61 => ("ChanceWorksModel", "ended", "I", false)
  | 62 => ("ChanceWorksModel", "gained", "I", false)
  | 63 => ("ChanceWorksModel", "outcomes", "I", false)
  | 64 => ("ChanceWorksModel", "outValues", "[I", true)
  | 65 => ("ChanceWorksModel", "outWeights", "[I", true)
  | 66 => ("ChanceWorksModel", "outTotal", "I", false)
  | 67 => ("ChanceWorksModel", "place", "I", false)
  | 68 => ("ChanceWorksModel", "given", "[I", true)
  | 69 => ("ChanceWorksModel", "isExplored", "Z", false)
  | 70 => ("ChanceWorksModel", "states", "I", false)
  | 71 => ("ChanceWorksModel", "endings", "I", false)
  | 72 => ("ChanceWorksModel", "nextCount", "I", false)
  | 73 => ("ChanceWorksModel", "stateRows", "[I", true)
  | 74 => ("ChanceWorksModel", "hashes", "[I", true)
  | 75 => ("ChanceWorksModel", "endingRows", "[I", true)
  | 76 => ("ChanceWorksModel", "nextStarts", "[I", true)
  | 77 => ("ChanceWorksModel", "nextKinds", "[I", true)
  | 78 => ("ChanceWorksModel", "nextNumbers", "[I", true)
  | 79 => ("ChanceWorksModel", "nextWeights", "[I", true)
  | 80 => ("ChanceWorksModel", "totals", "[I", true)
  | 81 => ("ChanceWorksModel", "isChoice", "[Z", true)
  | 82 => ("ChanceWorksModel", "gains", "[I", true)
  | 83 => ("ChanceWorksModel", "plan", "[I", true)
  | 84 => ("ChanceWorksModel", "key", "[I", true)
  | 85 => ("ChanceWorksModel", "most", "I", false)
  | 86 => ("ChanceWorksModel", "reach", "[J", true)
  | 87 => ("ChanceWorksModel", "isHopeless", "[Z", true)
  | 88 => ("ChanceWorksModel", "rings", "I", false)
  | 89 => ("ChanceWorksModel", "greatestRing", "I", false)
  | 90 => ("ChanceWorksModel", "big", "[I", true)
  | 91 => ("ChanceWorksModel", "lengths", "[I", true)
  | 92 => ("ChanceWorksModel", "sign", "I", false)
  | 93 => ("ChanceWorksModel", "slots", "[I", true)
  | 94 => ("ChanceWorksModel", "isSolved", "Z", false)
  | 95 => ("ChanceWorksModel", "isOpen", "[Z", true)
  | 96 => ("ChanceWorksModel", "isDone", "[Z", true)
  | 97 => ("ChanceWorksModel", "ancestors", "[I", true)
  | 98 => ("ChanceWorksModel", "order", "[I", true)
  | 99 => ("ChanceWorksModel", "members", "[I", true)
  | 100 => ("ChanceWorksModel", "memberCount", "I", false)
  | 101 => ("ChanceWorksModel", "memberOf", "[I", true)
  | 102 => ("ChanceWorksModel", "visits", "[I", true)
  | 103 => ("ChanceWorksModel", "isShown", "Z", false)
  | 104 => ("ChanceWorksModel", "toldCount", "I", false)
  | 105 => ("ChanceWorksModel", "toldDraws", "[I", true)
  | 106 => ("ChanceWorksModel", "howPlayed", "I", false)
  | 107 => ("ChanceWorksModel", "playedNumber", "I", false)
  | 108 => ("ChanceWorksModel", "playedSteps", "I", false)
  | 109 => ("ChanceWorksModel", "playedDraws", "I", false)
  | 110 => ("ChanceWorksModel", "playedGain", "J", false)
  | 111 => ("ChanceWorksModel", "playedGlobals", "[I", true)
  | 112 => ("ChanceWorksModel", "seed", "J", false)
  | 113 => ("ChanceWorksModel", "bySeed", "Z", false)
  | 114 => ("ChanceWorksModel", "isBest", "Z", false)
  | 115 => ("ChanceWorksModel", "worths", "[I", true)
  | 116 => ("ChanceWorksModel", "worthSigns", "[I", true)
  | 117 => ("ChanceWorksModel", "newWorths", "[I", true)
  | 118 => ("ChanceWorksModel", "newSigns", "[I", true)
  | 119 => ("ChanceWorksModel", "newPlan", "[I", true)
  | 120 => ("ChanceWorksModel", "isHeavy", "[Z", true)
  | 121 => ("ChanceWorksModel", "listA", "[I", true)
  | 122 => ("ChanceWorksModel", "listB", "[I", true)
  | 123 => ("ChanceWorksModel", "listC", "[I", true)
  | 124 => ("ChanceWorksModel", "countA", "I", false)
  | _ => ("ChanceWorksModel", "countB", "I", false)
def tyX13 : Nat → FieldType := fun k => match k with
  | 0 => .int
  | 1 => .array .byte
  | 2 => .int
  | 3 => .int
  | 4 => .int
  | 5 => .array .byte
  | 6 => .array .int
  | 7 => .array .int
  | 8 => .array .long
  | 9 => .array .int
  | 10 => .int
  | 11 => .int
  | 12 => .int
  | 13 => .int
  | 14 => .boolean
  | 15 => .int
  | 16 => .int
  | 17 => .int
  | 18 => .int
  | 19 => .int
  | 20 => .array .int
  | 21 => .array .int
  | 22 => .array .int
  | 23 => .array .int
  | 24 => .array .int
  | 25 => .array .int
  | 26 => .array .int
  | 27 => .array .int
  | 28 => .array .int
  | 29 => .array .int
  | 30 => .array .int
  | 31 => .array .int
  | 32 => .array .int
  | 33 => .array .int
  | 34 => .array .int
  | 35 => .array .int
  | 36 => .array .int
  | 37 => .array .int
  | 38 => .array .int
  | 39 => .array .int
  | 40 => .int
  | 41 => .int
  | 42 => .int
  | 43 => .array .int
  | 44 => .array .int
  | 45 => .array .boolean
  | 46 => .int
  | 47 => .int
  | 48 => .int
  | 49 => .int
  | 50 => .array .int
  | 51 => .array .int
  | 52 => .array .int
  | 53 => .int
  | 54 => .array .int
  | 55 => .int
  | 56 => .array .int
  | 57 => .array .int
  | 58 => .int
  | 59 => .array .int
  | 60 => .array .int
  | 61 => .int
  | 62 => .int
  | 63 => .int
  | 64 => .array .int
  | 65 => .array .int
  | 66 => .int
  | 67 => .int
  | 68 => .array .int
  | 69 => .boolean
  | 70 => .int
  | 71 => .int
  | 72 => .int
  | 73 => .array .int
  | 74 => .array .int
  | 75 => .array .int
  | 76 => .array .int
  | 77 => .array .int
  | 78 => .array .int
  | 79 => .array .int
  | 80 => .array .int
  | 81 => .array .boolean
  | 82 => .array .int
  | 83 => .array .int
  | 84 => .array .int
  | 85 => .int
  | 86 => .array .long
  | 87 => .array .boolean
  | 88 => .int
  | 89 => .int
  | 90 => .array .int
  | 91 => .array .int
  | 92 => .int
  | 93 => .array .int
  | 94 => .boolean
  | 95 => .array .boolean
  | 96 => .array .boolean
  | 97 => .array .int
  | 98 => .array .int
  | 99 => .array .int
  | 100 => .int
  | 101 => .array .int
  | 102 => .array .int
  | 103 => .boolean
  | 104 => .int
  | 105 => .array .int
  | 106 => .int
  | 107 => .int
  | 108 => .int
  | 109 => .int
  | 110 => .long
  | 111 => .array .int
  | 112 => .long
  | 113 => .boolean
  | 114 => .boolean
  | 115 => .array .int
  | 116 => .array .int
  | 117 => .array .int
  | 118 => .array .int
  | 119 => .array .int
  | 120 => .array .boolean
  | 121 => .array .int
  | 122 => .array .int
  | 123 => .array .int
  | 124 => .int
  | _ => .int
theorem nmX13 : ∀ a, a < 126 → ∀ b, b < 126 → a ≠ b → (TX13 a).2.1 ≠ (TX13 b).2.1 := by decide +kernel
theorem tyX13_ok : ∀ k, k < 126 → parseFieldDescriptor (TX13 k).2.2.1 = some (tyX13 k) := by decide +kernel
def RJx00060 : String := "java/lang/ArrayIndexOutOfBoundsException"
def TJx00060 : u_T := fun k => match k with
  | 0 => ("java/lang/Throwable", "backtrace", "Ljava/lang/Object;", false)
  | 1 => ("java/lang/Throwable", "detailMessage", "Ljava/lang/String;", false)
  | 2 => ("java/lang/Throwable", "cause", "Ljava/lang/Throwable;", false)
  | 3 => ("java/lang/Throwable", "stackTrace", "[Ljava/lang/StackTraceElement;", false)
  | 4 => ("java/lang/Throwable", "depth", "I", false)
  | _ => ("java/lang/Throwable", "suppressedExceptions", "Ljava/util/List;", false)
def tyJx00060 : Nat → FieldType := fun k => match k with
  | 0 => .object "java/lang/Object"
  | 1 => .object "java/lang/String"
  | 2 => .object "java/lang/Throwable"
  | 3 => .array (.object "java/lang/StackTraceElement")
  | 4 => .int
  | _ => .object "java/util/List"
theorem nmJx00060 : ∀ a, a < 6 → ∀ b, b < 6 → a ≠ b → (TJx00060 a).2.1 ≠ (TJx00060 b).2.1 := by decide +kernel
theorem tyJx00060_ok : ∀ k, k < 6 → parseFieldDescriptor (TJx00060 k).2.2.1 = some (tyJx00060 k) := by decide +kernel
def RJ0 : String := "java/lang/String"
def TJ0 : u_T := fun k => match k with
  | 0 => ("java/lang/String", "value", "[B", true)
  | 1 => ("java/lang/String", "coder", "B", true)
  | 2 => ("java/lang/String", "hash", "I", false)
  | _ => ("java/lang/String", "hashIsZero", "Z", false)
def tyJ0 : Nat → FieldType := fun k => match k with
  | 0 => .array .byte
  | 1 => .byte
  | 2 => .int
  | _ => .boolean
theorem nmJ0 : ∀ a, a < 4 → ∀ b, b < 4 → a ≠ b → (TJ0 a).2.1 ≠ (TJ0 b).2.1 := by decide +kernel
theorem tyJ0_ok : ∀ k, k < 4 → parseFieldDescriptor (TJ0 k).2.2.1 = some (tyJ0 k) := by decide +kernel
def RJ4 : String := "java/lang/StringBuilder"
def TJ4 : u_T := fun k => match k with
  | 0 => ("java/lang/AbstractStringBuilder", "value", "[B", false)
  | 1 => ("java/lang/AbstractStringBuilder", "coder", "B", false)
  | 2 => ("java/lang/AbstractStringBuilder", "maybeLatin1", "Z", false)
  | _ => ("java/lang/AbstractStringBuilder", "count", "I", false)
def tyJ4 : Nat → FieldType := fun k => match k with
  | 0 => .array .byte
  | 1 => .byte
  | 2 => .boolean
  | _ => .int
theorem nmJ4 : ∀ a, a < 4 → ∀ b, b < 4 → a ≠ b → (TJ4 a).2.1 ≠ (TJ4 b).2.1 := by decide +kernel
theorem tyJ4_ok : ∀ k, k < 4 → parseFieldDescriptor (TJ4 k).2.2.1 = some (tyJ4 k) := by decide +kernel
def wsX5_init : List Cond := .code yX5_init cX5_init 2 none :: ([.methodLink RX5 1 objectInit, .instanceMethod objectInit, .code objectInit ⟨#[0xb1]⟩ 1 none, .methodLink RX5 7 Lib.Math.max.name, .static Lib.Math.max.name, .initialized "java/lang/Math", .code Lib.Math.max.name Lib.Math.max.code 2 (some .int), .arrayClass .int, .fieldLink RX5 13 "ChanceWorks$Num" "limbs" "[I"] ++ wsX50)
def wsX5_put : List Cond := .code yX5_put cX5_put 3 none :: ([.fieldLink RX5 13 "ChanceWorks$Num" "limbs" "[I", .constantLong RX5 29 (2147483647), .fieldLink RX5 25 "ChanceWorks$Num" "length" "I"] ++ wsX50 ++ (vx_atM "java/lang/ArrayIndexOutOfBoundsException" ["java/lang/IndexOutOfBoundsException", "java/lang/RuntimeException", "java/lang/Exception"]).filter goodWord)
def wsX8_init : List Cond := .code yX8_init cX8_init 1 none :: ([.methodLink RX8 3 objectInit, .instanceMethod objectInit, .code objectInit ⟨#[0xb1]⟩ 1 none, .classLink RX8 9 RX5, .instantiable RX5 2, .initialized RX5, .fieldLink RX8 14 "ChanceWorks$Ratio" "top" "LChanceWorks$Num;", .fieldLink RX8 20 "ChanceWorks$Ratio" "bottom" "LChanceWorks$Num;", .methodLink RX8 11 yX5_init, .instanceMethod yX5_init, .code yX5_init cX5_init 2 none, .methodLink RX5 1 objectInit, .methodLink RX5 7 Lib.Math.max.name, .static Lib.Math.max.name, .initialized "java/lang/Math", .code Lib.Math.max.name Lib.Math.max.code 2 (some .int), .arrayClass .int, .fieldLink RX5 13 "ChanceWorks$Num" "limbs" "[I", .methodLink RX8 23 yX5_put, .instanceMethod yX5_put, .selects RX5 yX5_put yX5_put, .code yX5_put cX5_put 3 none, .constantLong RX5 29 (2147483647), .fieldLink RX5 25 "ChanceWorks$Num" "length" "I"] ++ wsX50 ++ wsX80 ++ (vx_atM "java/lang/ArrayIndexOutOfBoundsException" ["java/lang/IndexOutOfBoundsException", "java/lang/RuntimeException", "java/lang/Exception"]).filter goodWord)
def wsX10_init : List Cond := .code yX10_init cX10_init 1 none :: ([.methodLink RX10 3 objectInit, .instanceMethod objectInit, .code objectInit ⟨#[0xb1]⟩ 1 none, .arrayClass .byte, .fieldLink RX10 9 "ChanceWorks$Tape" "bytes" "[B", .arrayClass .int, .fieldLink RX10 15 "ChanceWorks$Tape" "kinds" "[I", .fieldLink RX10 19 "ChanceWorks$Tape" "places" "[I", .fieldLink RX10 22 "ChanceWorks$Tape" "lengths" "[I"] ++ wsX100)
theorem dX5_init_0 : decode cX5_init 0 = .ok (.aload_n 0, 1) := by decide +kernel
theorem dX5_init_1 : decode cX5_init 1 = .ok (.invokespecial 1, 3) := by decide +kernel
theorem dX5_init_4 : decode cX5_init 4 = .ok (.aload_n 0, 1) := by decide +kernel
theorem dX5_init_5 : decode cX5_init 5 = .ok (.iload_n 1, 1) := by decide +kernel
theorem dX5_init_6 : decode cX5_init 6 = .ok (.iconst 2, 1) := by decide +kernel
theorem dX5_init_7 : decode cX5_init 7 = .ok (.invokestatic 7, 3) := by decide +kernel
theorem dX5_init_10 : decode cX5_init 10 = .ok (.newarray .int, 2) := by decide +kernel
theorem dX5_init_12 : decode cX5_init 12 = .ok (.putfield 13, 3) := by decide +kernel
theorem dX5_init_15 : decode cX5_init 15 = .ok (.return_, 1) := by decide +kernel
theorem dX5_put_0 : decode cX5_put 0 = .ok (.aload_n 0, 1) := by decide +kernel
theorem dX5_put_1 : decode cX5_put 1 = .ok (.getfield 13, 3) := by decide +kernel
theorem dX5_put_4 : decode cX5_put 4 = .ok (.iconst 0, 1) := by decide +kernel
theorem dX5_put_5 : decode cX5_put 5 = .ok (.lload_n 1, 1) := by decide +kernel
theorem dX5_put_6 : decode cX5_put 6 = .ok (.ldc2_w 29, 3) := by decide +kernel
theorem dX5_put_9 : decode cX5_put 9 = .ok (.land, 1) := by decide +kernel
theorem dX5_put_10 : decode cX5_put 10 = .ok (.l2i, 1) := by decide +kernel
theorem dX5_put_11 : decode cX5_put 11 = .ok (.iastore, 1) := by decide +kernel
theorem dX5_put_12 : decode cX5_put 12 = .ok (.aload_n 0, 1) := by decide +kernel
theorem dX5_put_13 : decode cX5_put 13 = .ok (.getfield 13, 3) := by decide +kernel
theorem dX5_put_16 : decode cX5_put 16 = .ok (.iconst 1, 1) := by decide +kernel
theorem dX5_put_17 : decode cX5_put 17 = .ok (.lload_n 1, 1) := by decide +kernel
theorem dX5_put_18 : decode cX5_put 18 = .ok (.bipush 31, 2) := by decide +kernel
theorem dX5_put_20 : decode cX5_put 20 = .ok (.lushr, 1) := by decide +kernel
theorem dX5_put_21 : decode cX5_put 21 = .ok (.l2i, 1) := by decide +kernel
theorem dX5_put_22 : decode cX5_put 22 = .ok (.iastore, 1) := by decide +kernel
theorem dX5_put_23 : decode cX5_put 23 = .ok (.aload_n 0, 1) := by decide +kernel
theorem dX5_put_24 : decode cX5_put 24 = .ok (.aload_n 0, 1) := by decide +kernel
theorem dX5_put_25 : decode cX5_put 25 = .ok (.getfield 13, 3) := by decide +kernel
theorem dX5_put_28 : decode cX5_put 28 = .ok (.iconst 1, 1) := by decide +kernel
theorem dX5_put_29 : decode cX5_put 29 = .ok (.iaload, 1) := by decide +kernel
theorem dX5_put_30 : decode cX5_put 30 = .ok (.ifCond .eq 7, 3) := by decide +kernel
theorem dX5_put_33 : decode cX5_put 33 = .ok (.iconst 2, 1) := by decide +kernel
theorem dX5_put_34 : decode cX5_put 34 = .ok (.goto 17, 3) := by decide +kernel
theorem dX5_put_37 : decode cX5_put 37 = .ok (.aload_n 0, 1) := by decide +kernel
theorem dX5_put_38 : decode cX5_put 38 = .ok (.getfield 13, 3) := by decide +kernel
theorem dX5_put_41 : decode cX5_put 41 = .ok (.iconst 0, 1) := by decide +kernel
theorem dX5_put_42 : decode cX5_put 42 = .ok (.iaload, 1) := by decide +kernel
theorem dX5_put_43 : decode cX5_put 43 = .ok (.ifCond .eq 7, 3) := by decide +kernel
theorem dX5_put_46 : decode cX5_put 46 = .ok (.iconst 1, 1) := by decide +kernel
theorem dX5_put_47 : decode cX5_put 47 = .ok (.goto 4, 3) := by decide +kernel
theorem dX5_put_50 : decode cX5_put 50 = .ok (.iconst 0, 1) := by decide +kernel
theorem dX5_put_51 : decode cX5_put 51 = .ok (.putfield 25, 3) := by decide +kernel
theorem dX5_put_54 : decode cX5_put 54 = .ok (.return_, 1) := by decide +kernel
set_option maxRecDepth 20000 in
theorem ggX8_init_X5_init : GoodIn wsX8_init wsX5_init := goodIn_r _ [11, 12, 2, 3, 13, 14, 15, 16, 17, 18, 25, 26] (by decide +kernel) (by decide +kernel)
set_option maxRecDepth 20000 in
theorem gX8_init_X5_init : GoodIn wsX8_init (wsX5_init) := ggX8_init_X5_init
set_option maxRecDepth 20000 in
theorem ggX8_init_X5_put : GoodIn wsX8_init wsX5_put := goodIn_ca (goodIn_r _ [22, 18, 23, 24, 25, 26] (by decide +kernel) (by decide +kernel)) (goodIn_sub (fun _ h => List.mem_cons_of_mem _ (List.mem_append_right _ h)) (by decide +kernel))
set_option maxRecDepth 20000 in
theorem gX8_init_X5_put : GoodIn wsX8_init (wsV RX8 23 RX5 yX5_put wsX5_put) := goodIn_app (goodIn_of _ (by decide +kernel)) ggX8_init_X5_put
theorem dX8_init_0 : decode cX8_init 0 = .ok (.aload_n 0, 1) := by decide +kernel
theorem dX8_init_1 : decode cX8_init 1 = .ok (.invokespecial 3, 3) := by decide +kernel
theorem dX8_init_4 : decode cX8_init 4 = .ok (.aload_n 0, 1) := by decide +kernel
theorem dX8_init_5 : decode cX8_init 5 = .ok (.new 9, 3) := by decide +kernel
theorem dX8_init_8 : decode cX8_init 8 = .ok (.dup, 1) := by decide +kernel
theorem dX8_init_9 : decode cX8_init 9 = .ok (.iconst 2, 1) := by decide +kernel
theorem dX8_init_10 : decode cX8_init 10 = .ok (.invokespecial 11, 3) := by decide +kernel
theorem dX8_init_13 : decode cX8_init 13 = .ok (.putfield 14, 3) := by decide +kernel
theorem dX8_init_16 : decode cX8_init 16 = .ok (.aload_n 0, 1) := by decide +kernel
theorem dX8_init_17 : decode cX8_init 17 = .ok (.new 9, 3) := by decide +kernel
theorem dX8_init_20 : decode cX8_init 20 = .ok (.dup, 1) := by decide +kernel
theorem dX8_init_21 : decode cX8_init 21 = .ok (.iconst 2, 1) := by decide +kernel
theorem dX8_init_22 : decode cX8_init 22 = .ok (.invokespecial 11, 3) := by decide +kernel
theorem dX8_init_25 : decode cX8_init 25 = .ok (.putfield 20, 3) := by decide +kernel
theorem dX8_init_28 : decode cX8_init 28 = .ok (.aload_n 0, 1) := by decide +kernel
theorem dX8_init_29 : decode cX8_init 29 = .ok (.getfield 20, 3) := by decide +kernel
theorem dX8_init_32 : decode cX8_init 32 = .ok (.lconst 1, 1) := by decide +kernel
theorem dX8_init_33 : decode cX8_init 33 = .ok (.invokevirtual 23, 3) := by decide +kernel
theorem dX8_init_36 : decode cX8_init 36 = .ok (.return_, 1) := by decide +kernel
theorem dX10_init_0 : decode cX10_init 0 = .ok (.aload_n 0, 1) := by decide +kernel
theorem dX10_init_1 : decode cX10_init 1 = .ok (.invokespecial 3, 3) := by decide +kernel
theorem dX10_init_4 : decode cX10_init 4 = .ok (.aload_n 0, 1) := by decide +kernel
theorem dX10_init_5 : decode cX10_init 5 = .ok (.sipush 240, 3) := by decide +kernel
theorem dX10_init_8 : decode cX10_init 8 = .ok (.newarray .byte, 2) := by decide +kernel
theorem dX10_init_10 : decode cX10_init 10 = .ok (.putfield 9, 3) := by decide +kernel
theorem dX10_init_13 : decode cX10_init 13 = .ok (.aload_n 0, 1) := by decide +kernel
theorem dX10_init_14 : decode cX10_init 14 = .ok (.bipush 64, 2) := by decide +kernel
theorem dX10_init_16 : decode cX10_init 16 = .ok (.newarray .int, 2) := by decide +kernel
theorem dX10_init_18 : decode cX10_init 18 = .ok (.putfield 15, 3) := by decide +kernel
theorem dX10_init_21 : decode cX10_init 21 = .ok (.aload_n 0, 1) := by decide +kernel
theorem dX10_init_22 : decode cX10_init 22 = .ok (.bipush 64, 2) := by decide +kernel
theorem dX10_init_24 : decode cX10_init 24 = .ok (.newarray .int, 2) := by decide +kernel
theorem dX10_init_26 : decode cX10_init 26 = .ok (.putfield 19, 3) := by decide +kernel
theorem dX10_init_29 : decode cX10_init 29 = .ok (.aload_n 0, 1) := by decide +kernel
theorem dX10_init_30 : decode cX10_init 30 = .ok (.bipush 64, 2) := by decide +kernel
theorem dX10_init_32 : decode cX10_init 32 = .ok (.newarray .int, 2) := by decide +kernel
theorem dX10_init_34 : decode cX10_init 34 = .ok (.putfield 22, 3) := by decide +kernel
theorem dX10_init_37 : decode cX10_init 37 = .ok (.return_, 1) := by decide +kernel
abbrev vwCl : List vw_C := [(RJ0, TJ0, 4), (RJ4, TJ4, 4), (RJx00060, TJx00060, 6), (RX0, TX0, 18), (RX1, TX1, 6), (RX2, TX2, 16), (RX3, TX3, 6), (RX4, TX4, 20), (RX5, TX5, 2), (RX6, TX6, 13), (RX7, TX7, 19), (RX8, TX8, 3), (RX9, TX9, 16), (RX10, TX10, 6), (RX11, TX11, 19), (RX12, TX12, 18), (RX13, TX13, 126)]
