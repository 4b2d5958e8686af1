set_option maxHeartbeats 1600000
/-! tokens out of bytes -/
def isLqq5 (c : Int32) : Bool := (decide (97 ≤ c) && decide (c ≤ 122)) || (decide (65 ≤ c) && decide (c ≤ 90)) || decide (c = 95)
def isDqq5 (c : Int32) : Bool := decide (48 ≤ c) && decide (c ≤ 57)
/-- a byte of the tape, -1 behind it -/
def bAqq5 (B : Nat → Int32) (n p : Nat) : Int32 := if p < n then B p else -1
/-- blanks and remarks skipped, from inside a remark or not -/
def skqq5 (B : Nat → Int32) (n : Nat) (c : Bool) (p : Nat) : Nat := if p < n then (if B p = 10 then skqq5 B n false (p + 1) else if B p = 35 then skqq5 B n true (p + 1) else if c = true ∨ B p = 9 ∨ B p = 13 ∨ B p = 32 then skqq5 B n c (p + 1) else p) else n
termination_by n - p
/-- where a run of bytes of a sort ends -/
def rnqq5 (f : Int32 → Bool) (B : Nat → Int32) (n p : Nat) : Nat := if p < n ∧ f (B p) = true then rnqq5 f B n (p + 1) else p
termination_by n - p
/-- where a token ends -/
def tEnq5 (B : Nat → Int32) (n p : Nat) : Nat := if isLqq5 (B p) = true then rnqq5 (fun x => isLqq5 x || isDqq5 x) B n (p + 1) else if isDqq5 (B p) = true then rnqq5 isDqq5 B n (p + 1) else if (B p = 61 ∨ B p = 33 ∨ B p = 60 ∨ B p = 62) ∧ bAqq5 B n (p + 1) = 61 then p + 2 else p + 1
/-- its bytes -/
def nmqq5 (B : Nat → Int32) (p s : Nat) : List Int32 := (List.range s).map (fun i => B (p + i))
def wdqq5 : List (List Int32 × Int32) := [([118, 97, 114], 150), ([97, 114, 114], 151), ([102, 117, 110, 99], 152), ([108, 111, 99, 97, 108], 153), ([105, 102], 154), ([101, 108, 115, 101], 155), ([119, 104, 105, 108, 101], 156), ([114, 101, 116, 117, 114, 110], 157), ([111, 98, 115, 101, 114, 118, 101], 158), ([103, 97, 105, 110], 159), ([112, 105, 99, 107], 160), ([102, 108, 105, 112], 161), ([99, 104, 111, 111, 115, 101], 162)]
def wkqq5 (l : List Int32) : Int32 := match wdqq5.lookup l with
  | some k => k
  | none => 140
def sGnq5 : List Int32 := [40, 41, 123, 125, 91, 93, 59, 44, 58, 126, 61, 60, 62, 43, 45, 42, 47, 37, 38, 124, 33]
/-- its kind -/
def tyqq5 (B : Nat → Int32) (n p : Nat) : Int32 := if isLqq5 (B p) = true then (if 12 < tEnq5 B n p - p then 143 else wkqq5 (nmqq5 B p (tEnq5 B n p - p))) else if isDqq5 (B p) = true then (if 9 < tEnq5 B n p - p then 143 else 141) else if tEnq5 B n p = p + 2 then (if B p = 61 then 128 else if B p = 33 then 129 else if B p = 60 then 130 else 131) else if B p ∈ sGnq5 then B p else 143
theorem rn_leqq5 {f : Int32 → Bool} {B : Nat → Int32} {n p : Nat} : p ≤ rnqq5 f B n p := by
  fun_induction rnqq5 f B n p with
  | case1 p h ih => omega
  | case2 p h => omega
theorem te_ltqq5 {B : Nat → Int32} {n p : Nat} : p < tEnq5 B n p := by
  unfold tEnq5
  split
  · exact rn_leqq5
  · split
    · exact rn_leqq5
    · split <;> omega
theorem sk_leqq5 {B : Nat → Int32} {n p : Nat} {c : Bool} (h : p ≤ n) : p ≤ skqq5 B n c p := by
  fun_induction skqq5 B n c p with
  | case1 c p h1 h2 ih => have := ih (by omega); omega
  | case2 c p h1 h2 h3 ih => have := ih (by omega); omega
  | case3 c p h1 h2 h3 h4 ih => have := ih (by omega); omega
  | case4 c p h1 h2 h3 h4 => omega
  | case5 c p h1 => omega
/-- the tokens from a place on: place, size, kind; the last is the end or a bad one -/
def tlqq5 (B : Nat → Int32) (n p : Nat) : List (Nat × Nat × Int32) := if skqq5 B n false p < n ∧ p ≤ skqq5 B n false p then (if tyqq5 B n (skqq5 B n false p) = 143 then [(skqq5 B n false p, tEnq5 B n (skqq5 B n false p) - skqq5 B n false p, 143)] else (skqq5 B n false p, tEnq5 B n (skqq5 B n false p) - skqq5 B n false p, tyqq5 B n (skqq5 B n false p)) :: tlqq5 B n (tEnq5 B n (skqq5 B n false p))) else [(n, 0, 142)]
termination_by n - p
decreasing_by
  have h := @te_ltqq5 B n (skqq5 B n false p)
  omega
def nvqq5 (l : List Int32) : Int32 := l.foldl (fun v d => v * 10 + d - 48) 0
