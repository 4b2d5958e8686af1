section
set_option maxHeartbeats 1600000
/-! the reading leaves the long rows alone (written by wip/p6/m/mkV0.py) -/
def kw6 (s σ : rS) : Prop := σ.2.2.2 = s.2.2.2
theorem kw_rf {s : rS} : kw6 s s := rfl
theorem kw_si {s σ : rS} {k : Nat} {x : Int32} (h : kw6 s σ) : kw6 s (siU σ k x) := h
theorem kw_ri {s σ : rS} {k i : Nat} {x : Int32} (h : kw6 s σ) : kw6 s (riU σ k i x) := h
theorem kw_if {s a b : rS} {c : Prop} [Decidable c] (ha : kw6 s a) (hb : kw6 s b) : kw6 s (if c then a else b) := by
  by_cases h : c
  · rw [if_pos h]; exact ha
  · rw [if_neg h]; exact hb
theorem kw_ifp {s : rS} {a b : rS × Int32} {c : Prop} [Decidable c] (ha : kw6 s a.1) (hb : kw6 s b.1) : kw6 s (if c then a else b).1 := by
  by_cases h : c
  · rw [if_pos h]; exact ha
  · rw [if_neg h]; exact hb
theorem kw_pb {s : rS} {α : Type} {a : α} {k : α → rS} (h : kw6 s (k a)) : kw6 s (pb5 a k) := h
theorem kw_pm {s : rS} {α : Type} {q : rS × α} {k : rS → α → rS} (h : kw6 s (k q.1 q.2)) : kw6 s (pm5 q k) := h
theorem kw_flaw {s σ : rS} {a b : Int32} (h : kw6 s σ) : kw6 s (g5_flaw a b σ) := by
  unfold g5_flaw
  exact kw_if (kw_if h h) h
theorem kw_look {s σ : rS} {a b : Int32} (h : kw6 s σ) : kw6 s (g5_look a b σ) := by
  unfold g5_look
  exact kw_if (kw_if h h) h
theorem kw_readNext {s : rS} {σ : rS} (h : kw6 s σ) : kw6 s (g5_readNext  σ) := by
  unfold g5_readNext
  try dsimp only [pb5, pm5]
  repeat' first
    | with_reducible exact h
    | dsimp only
    | with_reducible refine kw_flaw ?_
    | with_reducible refine kw_si ?_
    | with_reducible refine kw_ri ?_
    | with_reducible refine kw_if ?_ ?_
    | with_reducible refine kw_ifp ?_ ?_
theorem kw_go {s σ : rS} (h : kw6 s σ) : kw6 s (g5_go σ) := by
  unfold g5_go
  exact kw_if (kw_pb (kw_pb (kw_readNext h))) h
theorem kw_sign {s : rS} {a1 : Int32} {σ : rS} (h : kw6 s σ) : kw6 s (g5_sign a1 σ) := by
  unfold g5_sign
  try dsimp only [pb5, pm5]
  repeat' first
    | with_reducible exact h
    | dsimp only
    | with_reducible refine kw_flaw ?_
    | with_reducible refine kw_go ?_
    | with_reducible refine kw_si ?_
    | with_reducible refine kw_ri ?_
    | with_reducible refine kw_if ?_ ?_
    | with_reducible refine kw_ifp ?_ ?_
theorem kw_open_55 {s : rS} {s1 : Int32} {s2 : Int32} {σ : rS} (h : kw6 s σ) : kw6 s (g5_open_55 s1 s2 σ) := by
  unfold g5_open_55
  try dsimp only [pb5, pm5]
  repeat' first
    | with_reducible exact h
    | dsimp only
    | with_reducible refine kw_go ?_
    | with_reducible refine kw_si ?_
    | with_reducible refine kw_ri ?_
    | with_reducible refine kw_if ?_ ?_
    | with_reducible refine kw_ifp ?_ ?_
theorem kw_open_38 {s : rS} {σ : rS} (h : kw6 s σ) : kw6 s (g5_open_38  σ) := by
  unfold g5_open_38
  try dsimp only [pb5, pm5]
  repeat' first
    | with_reducible exact h
    | dsimp only
    | with_reducible refine kw_open_55 ?_
    | with_reducible refine kw_si ?_
    | with_reducible refine kw_ri ?_
    | with_reducible refine kw_if ?_ ?_
    | with_reducible refine kw_ifp ?_ ?_
theorem kw_open {s : rS} {a1 : Int32} {σ : rS} (h : kw6 s σ) : kw6 s (g5_open a1 σ) := by
  unfold g5_open
  try dsimp only [pb5, pm5]
  repeat' first
    | with_reducible exact h
    | dsimp only
    | with_reducible refine kw_flaw ?_
    | with_reducible refine kw_open_38 ?_
    | with_reducible refine kw_si ?_
    | with_reducible refine kw_ri ?_
    | with_reducible refine kw_if ?_ ?_
    | with_reducible refine kw_ifp ?_ ?_
theorem kw_close_18 {s : rS} {a1 : Int32} {s1 : Int32} {s2 : Int32} {σ : rS} (h : kw6 s σ) : kw6 s (g5_close_18 a1 s1 s2 σ) := by
  unfold g5_close_18
  try dsimp only [pb5, pm5]
  repeat' first
    | with_reducible exact h
    | dsimp only
    | with_reducible refine kw_sign ?_
    | with_reducible refine kw_si ?_
    | with_reducible refine kw_ri ?_
    | with_reducible refine kw_if ?_ ?_
    | with_reducible refine kw_ifp ?_ ?_
theorem kw_close {s : rS} {a1 : Int32} {σ : rS} (h : kw6 s σ) : kw6 s (g5_close a1 σ) := by
  unfold g5_close
  try dsimp only [pb5, pm5]
  repeat' first
    | with_reducible exact h
    | dsimp only
    | with_reducible refine kw_close_18 ?_
    | with_reducible refine kw_si ?_
    | with_reducible refine kw_ri ?_
    | with_reducible refine kw_if ?_ ?_
    | with_reducible refine kw_ifp ?_ ?_
theorem kw_due {s : rS} {a1 : Int32} {σ : rS} (h : kw6 s σ) : kw6 s (g5_due a1 σ).1 := by
  unfold g5_due
  try dsimp only [pb5, pm5]
  repeat' first
    | with_reducible exact h
    | dsimp only
    | with_reducible refine kw_flaw ?_
    | with_reducible refine kw_si ?_
    | with_reducible refine kw_ri ?_
    | with_reducible refine kw_if ?_ ?_
    | with_reducible refine kw_ifp ?_ ?_
theorem kw_fresh_70 {s : rS} {B18 : Int32 → Int32 → Int32 → Int32 → Int32 → Int32 → rS → rS × Int32} {a1 : Int32} {a2 : Int32} {a3 : Int32} {a4 : Int32} {a6 : Int32} {s0 : Int32} {σ : rS} (hB18 : ∀ (x0 : Int32) (x1 : Int32) (x2 : Int32) (x3 : Int32) (x4 : Int32) (x5 : Int32) (σ : rS), kw6 s σ → kw6 s (B18 x0 x1 x2 x3 x4 x5 σ).1) (h : kw6 s σ) : kw6 s (g5_fresh_70 B18 a1 a2 a3 a4 a6 s0 σ).1 := by
  unfold g5_fresh_70
  try dsimp only [pb5, pm5]
  repeat' first
    | with_reducible exact h
    | dsimp only
    | with_reducible refine hB18 _ _ _ _ _ _ _ ?_
    | with_reducible refine kw_si ?_
    | with_reducible refine kw_ri ?_
    | with_reducible refine kw_if ?_ ?_
    | with_reducible refine kw_ifp ?_ ?_
theorem kw_fresh_98 {s : rS} {a2 : Int32} {a3 : Int32} {a4 : Int32} {σ : rS} (h : kw6 s σ) : kw6 s (g5_fresh_98 a2 a3 a4 σ).1 := by
  unfold g5_fresh_98
  try dsimp only [pb5, pm5]
  repeat' first
    | with_reducible exact h
    | dsimp only
    | with_reducible refine kw_go ?_
    | with_reducible refine kw_flaw ?_
    | with_reducible refine kw_si ?_
    | with_reducible refine kw_ri ?_
    | with_reducible refine kw_if ?_ ?_
    | with_reducible refine kw_ifp ?_ ?_
theorem kw_fresh_78 {s : rS} {a2 : Int32} {a3 : Int32} {a4 : Int32} {a5 : Int32} {σ : rS} (h : kw6 s σ) : kw6 s (g5_fresh_78 a2 a3 a4 a5 σ).1 := by
  unfold g5_fresh_78
  try dsimp only [pb5, pm5]
  repeat' first
    | with_reducible exact h
    | dsimp only
    | with_reducible refine kw_fresh_98 ?_
    | with_reducible refine kw_flaw ?_
    | with_reducible refine kw_si ?_
    | with_reducible refine kw_ri ?_
    | with_reducible refine kw_if ?_ ?_
    | with_reducible refine kw_ifp ?_ ?_
theorem kw_fresh_18 {s : rS} (m : Nat) : ∀ (x0 : Int32) (x1 : Int32) (x2 : Int32) (x3 : Int32) (x4 : Int32) (x5 : Int32) (σ : rS), kw6 s σ → kw6 s (g5_fresh_18 m x0 x1 x2 x3 x4 x5 σ).1 := by
  induction m with
  | zero => exact fun _ _ _ _ _ _ _ h => h
  | succ m ih =>
    intro x0 x1 x2 x3 x4 x5 σ h
    rw [g5_fresh_18]
    try dsimp only [pb5, pm5]
    repeat' first
      | with_reducible exact h
      | dsimp only
      | with_reducible refine ih _ _ _ _ _ _ _ ?_
      | with_reducible refine kw_fresh_78 ?_
      | with_reducible refine kw_fresh_70 (fun y0 y1 y2 y3 y4 y5 σ9 h9 => ih y0 y1 y2 y3 y4 y5 σ9 h9) ?_
      | with_reducible refine kw_si ?_
      | with_reducible refine kw_ri ?_
      | with_reducible refine kw_if ?_ ?_
      | with_reducible refine kw_ifp ?_ ?_
theorem kw_fresh {s : rS} {a1 : Int32} {a2 : Int32} {a3 : Int32} {σ : rS} (h : kw6 s σ) : kw6 s (g5_fresh a1 a2 a3 σ).1 := by
  unfold g5_fresh
  try dsimp only [pb5, pm5]
  repeat' first
    | with_reducible exact h
    | dsimp only
    | with_reducible refine kw_due ?_
    | with_reducible refine kw_fresh_18 _ _ _ _ _ _ _ _ ?_
    | with_reducible refine kw_si ?_
    | with_reducible refine kw_ri ?_
    | with_reducible refine kw_if ?_ ?_
    | with_reducible refine kw_ifp ?_ ?_
theorem kw_hold {s : rS} {a1 : Int32} {a2 : Int32} {σ : rS} (h : kw6 s σ) : kw6 s (g5_hold a1 a2 σ) := by
  unfold g5_hold
  try dsimp only [pb5, pm5]
  repeat' first
    | with_reducible exact h
    | dsimp only
    | with_reducible refine kw_si ?_
    | with_reducible refine kw_ri ?_
    | with_reducible refine kw_if ?_ ?_
    | with_reducible refine kw_ifp ?_ ?_
theorem kw_apply_202 {s : rS} {s0 : Int32} {σ : rS} (h : kw6 s σ) : kw6 s (g5_apply_202 s0 σ) := by
  unfold g5_apply_202
  try dsimp only [pb5, pm5]
  repeat' first
    | with_reducible exact h
    | dsimp only
    | with_reducible refine kw_si ?_
    | with_reducible refine kw_ri ?_
    | with_reducible refine kw_if ?_ ?_
    | with_reducible refine kw_ifp ?_ ?_
theorem kw_apply_84 {s : rS} {a1 : Int32} {a2 : Int32} {a3 : Int32} {σ : rS} (h : kw6 s σ) : kw6 s (g5_apply_84 a1 a2 a3 σ) := by
  unfold g5_apply_84
  try dsimp only [pb5, pm5]
  repeat' first
    | with_reducible exact h
    | dsimp only
    | with_reducible refine kw_apply_202 ?_
    | with_reducible refine kw_si ?_
    | with_reducible refine kw_ri ?_
    | with_reducible refine kw_if ?_ ?_
    | with_reducible refine kw_ifp ?_ ?_
theorem kw_apply_74 {s : rS} {a1 : Int32} {a2 : Int32} {a3 : Int32} {σ : rS} (h : kw6 s σ) : kw6 s (g5_apply_74 a1 a2 a3 σ) := by
  unfold g5_apply_74
  try dsimp only [pb5, pm5]
  repeat' first
    | with_reducible exact h
    | dsimp only
    | with_reducible refine kw_apply_84 ?_
    | with_reducible refine kw_si ?_
    | with_reducible refine kw_ri ?_
    | with_reducible refine kw_if ?_ ?_
    | with_reducible refine kw_ifp ?_ ?_
theorem kw_apply {s : rS} {σ : rS} (h : kw6 s σ) : kw6 s (g5_apply  σ) := by
  unfold g5_apply
  try dsimp only [pb5, pm5]
  repeat' first
    | with_reducible exact h
    | dsimp only
    | with_reducible refine kw_apply_74 ?_
    | with_reducible refine kw_apply_84 ?_
    | with_reducible refine kw_si ?_
    | with_reducible refine kw_ri ?_
    | with_reducible refine kw_if ?_ ?_
    | with_reducible refine kw_ifp ?_ ?_
theorem kw_settle_0 {s : rS} (m : Nat) : ∀ (x0 : Int32) (σ : rS), kw6 s σ → kw6 s (g5_settle_0 m x0 σ) := by
  induction m with
  | zero => exact fun _ _ h => h
  | succ m ih =>
    intro x0 σ h
    rw [g5_settle_0]
    try dsimp only [pb5, pm5]
    repeat' first
      | with_reducible exact h
      | dsimp only
      | with_reducible refine ih _ _ ?_
      | with_reducible refine kw_apply ?_
      | with_reducible refine kw_si ?_
      | with_reducible refine kw_ri ?_
      | with_reducible refine kw_if ?_ ?_
      | with_reducible refine kw_ifp ?_ ?_
theorem kw_settle {s : rS} {a1 : Int32} {σ : rS} (h : kw6 s σ) : kw6 s (g5_settle a1 σ) := by
  unfold g5_settle
  try dsimp only [pb5, pm5]
  repeat' first
    | with_reducible exact h
    | dsimp only
    | with_reducible refine kw_settle_0 _ _ _ ?_
    | with_reducible refine kw_si ?_
    | with_reducible refine kw_ri ?_
    | with_reducible refine kw_if ?_ ?_
    | with_reducible refine kw_ifp ?_ ?_
theorem kw_turn_69 {s : rS} {B0 : rS → rS} {s1 : Int32} {s2 : Int32} {σ : rS} (hB0 : ∀  (σ : rS), kw6 s σ → kw6 s (B0  σ)) (h : kw6 s σ) : kw6 s (g5_turn_69 B0 s1 s2 σ) := by
  unfold g5_turn_69
  try dsimp only [pb5, pm5]
  repeat' first
    | with_reducible exact h
    | dsimp only
    | with_reducible refine hB0  _ ?_
    | with_reducible refine kw_si ?_
    | with_reducible refine kw_ri ?_
    | with_reducible refine kw_if ?_ ?_
    | with_reducible refine kw_ifp ?_ ?_
theorem kw_turn_20 {s : rS} {B0 : rS → rS} {σ : rS} (hB0 : ∀  (σ : rS), kw6 s σ → kw6 s (B0  σ)) (h : kw6 s σ) : kw6 s (g5_turn_20 B0 σ) := by
  unfold g5_turn_20
  try dsimp only [pb5, pm5]
  repeat' first
    | with_reducible refine kw_turn_69 hB0 ?_
    | with_reducible exact h
    | dsimp only
    | with_reducible refine hB0  _ ?_
    | with_reducible refine kw_si ?_
    | with_reducible refine kw_ri ?_
    | with_reducible refine kw_if ?_ ?_
    | with_reducible refine kw_ifp ?_ ?_
theorem kw_turn_0 {s : rS} (m : Nat) : ∀ (σ : rS), kw6 s σ → kw6 s (g5_turn_0 m  σ) := by
  induction m with
  | zero => exact fun _ h => h
  | succ m ih =>
    intro σ h
    rw [g5_turn_0]
    try dsimp only [pb5, pm5]
    repeat' first
      | with_reducible exact h
      | dsimp only
      | with_reducible refine ih _ ?_
      | with_reducible refine kw_turn_20 (fun  σ9 h9 => ih  σ9 h9) ?_
      | with_reducible refine kw_si ?_
      | with_reducible refine kw_ri ?_
      | with_reducible refine kw_if ?_ ?_
      | with_reducible refine kw_ifp ?_ ?_
theorem kw_turn {s : rS} {σ : rS} (h : kw6 s σ) : kw6 s (g5_turn  σ) := by
  unfold g5_turn
  try dsimp only [pb5, pm5]
  repeat' first
    | with_reducible exact h
    | dsimp only
    | with_reducible refine kw_turn_0 _ _ ?_
    | with_reducible refine kw_si ?_
    | with_reducible refine kw_ri ?_
    | with_reducible refine kw_if ?_ ?_
    | with_reducible refine kw_ifp ?_ ?_
theorem kw_push {s : rS} {a1 : Int32} {σ : rS} (h : kw6 s σ) : kw6 s (g5_push a1 σ) := by
  unfold g5_push
  try dsimp only [pb5, pm5]
  repeat' first
    | with_reducible exact h
    | dsimp only
    | with_reducible refine kw_turn ?_
    | with_reducible refine kw_si ?_
    | with_reducible refine kw_ri ?_
    | with_reducible refine kw_if ?_ ?_
    | with_reducible refine kw_ifp ?_ ?_
theorem kw_named_79 {s : rS} {a1 : Int32} {a2 : Int32} {σ : rS} (h : kw6 s σ) : kw6 s (g5_named_79 a1 a2 σ).1 := by
  unfold g5_named_79
  try dsimp only [pb5, pm5]
  repeat' first
    | with_reducible exact h
    | dsimp only
    | with_reducible refine kw_push ?_
    | with_reducible refine kw_open ?_
    | with_reducible refine kw_hold ?_
    | with_reducible refine kw_si ?_
    | with_reducible refine kw_ri ?_
    | with_reducible refine kw_if ?_ ?_
    | with_reducible refine kw_ifp ?_ ?_
theorem kw_named_34 {s : rS} {a1 : Int32} {σ : rS} (h : kw6 s σ) : kw6 s (g5_named_34 a1 σ).1 := by
  unfold g5_named_34
  try dsimp only [pb5, pm5]
  repeat' first
    | with_reducible exact h
    | dsimp only
    | with_reducible refine kw_look ?_
    | with_reducible refine kw_named_79 ?_
    | with_reducible refine kw_si ?_
    | with_reducible refine kw_ri ?_
    | with_reducible refine kw_if ?_ ?_
    | with_reducible refine kw_ifp ?_ ?_
theorem kw_named {s : rS} {σ : rS} (h : kw6 s σ) : kw6 s (g5_named  σ).1 := by
  unfold g5_named
  try dsimp only [pb5, pm5]
  repeat' first
    | with_reducible exact h
    | dsimp only
    | with_reducible refine kw_go ?_
    | with_reducible refine kw_named_34 ?_
    | with_reducible refine kw_flaw ?_
    | with_reducible refine kw_si ?_
    | with_reducible refine kw_ri ?_
    | with_reducible refine kw_if ?_ ?_
    | with_reducible refine kw_ifp ?_ ?_
theorem kw_operand_37 {s : rS} {s1 : Int32} {σ : rS} (h : kw6 s σ) : kw6 s (g5_operand_37 s1 σ).1 := by
  unfold g5_operand_37
  try dsimp only [pb5, pm5]
  repeat' first
    | with_reducible exact h
    | dsimp only
    | with_reducible refine kw_hold ?_
    | with_reducible refine kw_go ?_
    | with_reducible refine kw_si ?_
    | with_reducible refine kw_ri ?_
    | with_reducible refine kw_if ?_ ?_
    | with_reducible refine kw_ifp ?_ ?_
theorem kw_operand_18 {s : rS} {σ : rS} (h : kw6 s σ) : kw6 s (g5_operand_18  σ).1 := by
  unfold g5_operand_18
  try dsimp only [pb5, pm5]
  repeat' first
    | with_reducible exact h
    | dsimp only
    | with_reducible refine kw_operand_37 ?_
    | with_reducible refine kw_si ?_
    | with_reducible refine kw_ri ?_
    | with_reducible refine kw_if ?_ ?_
    | with_reducible refine kw_ifp ?_ ?_
theorem kw_operand {s : rS} {σ : rS} (h : kw6 s σ) : kw6 s (g5_operand  σ).1 := by
  unfold g5_operand
  try dsimp only [pb5, pm5]
  repeat' first
    | with_reducible exact h
    | dsimp only
    | with_reducible refine kw_go ?_
    | with_reducible refine kw_push ?_
    | with_reducible refine kw_named ?_
    | with_reducible refine kw_flaw ?_
    | with_reducible refine kw_open ?_
    | with_reducible refine kw_hold ?_
    | with_reducible refine kw_operand_18 ?_
    | with_reducible refine kw_si ?_
    | with_reducible refine kw_ri ?_
    | with_reducible refine kw_if ?_ ?_
    | with_reducible refine kw_ifp ?_ ?_
theorem kw_behind_73 {s : rS} {σ : rS} (h : kw6 s σ) : kw6 s (g5_behind_73  σ).1 := by
  unfold g5_behind_73
  try dsimp only [pb5, pm5]
  repeat' first
    | with_reducible exact h
    | dsimp only
    | with_reducible refine kw_hold ?_
    | with_reducible refine kw_go ?_
    | with_reducible refine kw_si ?_
    | with_reducible refine kw_ri ?_
    | with_reducible refine kw_if ?_ ?_
    | with_reducible refine kw_ifp ?_ ?_
theorem kw_behind_245 {s : rS} {σ : rS} (h : kw6 s σ) : kw6 s (g5_behind_245  σ).1 := by
  unfold g5_behind_245
  try dsimp only [pb5, pm5]
  repeat' first
    | with_reducible exact h
    | dsimp only
    | with_reducible refine kw_turn ?_
    | with_reducible refine kw_si ?_
    | with_reducible refine kw_ri ?_
    | with_reducible refine kw_if ?_ ?_
    | with_reducible refine kw_ifp ?_ ?_
theorem kw_behind_216 {s : rS} {a3 : Int32} {s1 : Int32} {σ : rS} (h : kw6 s σ) : kw6 s (g5_behind_216 a3 s1 σ).1 := by
  unfold g5_behind_216
  try dsimp only [pb5, pm5]
  repeat' first
    | with_reducible exact h
    | dsimp only
    | with_reducible refine kw_behind_245 ?_
    | with_reducible refine kw_si ?_
    | with_reducible refine kw_ri ?_
    | with_reducible refine kw_if ?_ ?_
    | with_reducible refine kw_ifp ?_ ?_
theorem kw_behind_93 {s : rS} {σ : rS} (h : kw6 s σ) : kw6 s (g5_behind_93  σ).1 := by
  unfold g5_behind_93
  try dsimp only [pb5, pm5]
  repeat' first
    | with_reducible exact h
    | dsimp only
    | with_reducible refine kw_settle ?_
    | with_reducible refine kw_close ?_
    | with_reducible refine kw_turn ?_
    | with_reducible refine kw_behind_245 ?_
    | with_reducible refine kw_behind_216 ?_
    | with_reducible refine kw_si ?_
    | with_reducible refine kw_ri ?_
    | with_reducible refine kw_if ?_ ?_
    | with_reducible refine kw_ifp ?_ ?_
theorem kw_behind_50 {s : rS} {a1 : Int32} {s1 : Int32} {σ : rS} (h : kw6 s σ) : kw6 s (g5_behind_50 a1 s1 σ).1 := by
  unfold g5_behind_50
  try dsimp only [pb5, pm5]
  repeat' first
    | with_reducible exact h
    | dsimp only
    | with_reducible refine kw_settle ?_
    | with_reducible refine kw_behind_93 ?_
    | with_reducible refine kw_behind_73 ?_
    | with_reducible refine kw_si ?_
    | with_reducible refine kw_ri ?_
    | with_reducible refine kw_if ?_ ?_
    | with_reducible refine kw_ifp ?_ ?_
theorem kw_behind_29 {s : rS} {s0 : Int32} {σ : rS} (h : kw6 s σ) : kw6 s (g5_behind_29 s0 σ).1 := by
  unfold g5_behind_29
  try dsimp only [pb5, pm5]
  repeat' first
    | with_reducible exact h
    | dsimp only
    | with_reducible refine kw_behind_50 ?_
    | with_reducible refine kw_si ?_
    | with_reducible refine kw_ri ?_
    | with_reducible refine kw_if ?_ ?_
    | with_reducible refine kw_ifp ?_ ?_
theorem kw_behind {s : rS} {σ : rS} (h : kw6 s σ) : kw6 s (g5_behind  σ).1 := by
  unfold g5_behind
  try dsimp only [pb5, pm5]
  repeat' first
    | with_reducible exact h
    | dsimp only
    | with_reducible refine kw_behind_29 ?_
    | with_reducible refine kw_si ?_
    | with_reducible refine kw_ri ?_
    | with_reducible refine kw_if ?_ ?_
    | with_reducible refine kw_ifp ?_ ?_
theorem kw_expression_51 {s : rS} {σ : rS} (h : kw6 s σ) : kw6 s (g5_expression_51  σ).1 := by
  unfold g5_expression_51
  try dsimp only [pb5, pm5]
  repeat' first
    | with_reducible exact h
    | dsimp only
    | with_reducible refine kw_si ?_
    | with_reducible refine kw_ri ?_
    | with_reducible refine kw_if ?_ ?_
    | with_reducible refine kw_ifp ?_ ?_
theorem kw_expression_12 {s : rS} (m : Nat) : ∀ (x0 : Int32) (σ : rS), kw6 s σ → kw6 s (g5_expression_12 m x0 σ).1 := by
  induction m with
  | zero => exact fun _ _ h => h
  | succ m ih =>
    intro x0 σ h
    rw [g5_expression_12]
    try dsimp only [pb5, pm5]
    repeat' first
      | with_reducible exact h
      | dsimp only
      | with_reducible refine ih _ _ ?_
      | with_reducible refine kw_expression_51 ?_
      | with_reducible refine kw_operand ?_
      | with_reducible refine kw_behind ?_
      | with_reducible refine kw_si ?_
      | with_reducible refine kw_ri ?_
      | with_reducible refine kw_if ?_ ?_
      | with_reducible refine kw_ifp ?_ ?_
theorem kw_expression {s : rS} {σ : rS} (h : kw6 s σ) : kw6 s (g5_expression  σ).1 := by
  unfold g5_expression
  try dsimp only [pb5, pm5]
  repeat' first
    | with_reducible exact h
    | dsimp only
    | with_reducible refine kw_expression_12 _ _ _ ?_
    | with_reducible refine kw_si ?_
    | with_reducible refine kw_ri ?_
    | with_reducible refine kw_if ?_ ?_
    | with_reducible refine kw_ifp ?_ ?_
theorem kw_openBlock {s : rS} {a1 : Int32} {a2 : Int32} {σ : rS} (h : kw6 s σ) : kw6 s (g5_openBlock a1 a2 σ) := by
  unfold g5_openBlock
  try dsimp only [pb5, pm5]
  repeat' first
    | with_reducible exact h
    | dsimp only
    | with_reducible refine kw_si ?_
    | with_reducible refine kw_ri ?_
    | with_reducible refine kw_if ?_ ?_
    | with_reducible refine kw_ifp ?_ ?_
theorem kw_newStatement_221 {s : rS} {a2 : Int32} {a3 : Int32} {σ : rS} (h : kw6 s σ) : kw6 s (g5_newStatement_221 a2 a3 σ).1 := by
  unfold g5_newStatement_221
  try dsimp only [pb5, pm5]
  repeat' first
    | with_reducible exact h
    | dsimp only
    | with_reducible refine kw_si ?_
    | with_reducible refine kw_ri ?_
    | with_reducible refine kw_if ?_ ?_
    | with_reducible refine kw_ifp ?_ ?_
theorem kw_newStatement_51 {s : rS} {a1 : Int32} {s0 : Int32} {σ : rS} (h : kw6 s σ) : kw6 s (g5_newStatement_51 a1 s0 σ).1 := by
  unfold g5_newStatement_51
  try dsimp only [pb5, pm5]
  repeat' first
    | with_reducible exact h
    | dsimp only
    | with_reducible refine kw_newStatement_221 ?_
    | with_reducible refine kw_si ?_
    | with_reducible refine kw_ri ?_
    | with_reducible refine kw_if ?_ ?_
    | with_reducible refine kw_ifp ?_ ?_
theorem kw_newStatement_33 {s : rS} {a1 : Int32} {σ : rS} (h : kw6 s σ) : kw6 s (g5_newStatement_33 a1 σ).1 := by
  unfold g5_newStatement_33
  try dsimp only [pb5, pm5]
  repeat' first
    | with_reducible exact h
    | dsimp only
    | with_reducible refine kw_newStatement_51 ?_
    | with_reducible refine kw_si ?_
    | with_reducible refine kw_ri ?_
    | with_reducible refine kw_if ?_ ?_
    | with_reducible refine kw_ifp ?_ ?_
theorem kw_newStatement {s : rS} {a1 : Int32} {σ : rS} (h : kw6 s σ) : kw6 s (g5_newStatement a1 σ).1 := by
  unfold g5_newStatement
  try dsimp only [pb5, pm5]
  repeat' first
    | with_reducible exact h
    | dsimp only
    | with_reducible refine kw_newStatement_33 ?_
    | with_reducible refine kw_flaw ?_
    | with_reducible refine kw_si ?_
    | with_reducible refine kw_ri ?_
    | with_reducible refine kw_if ?_ ?_
    | with_reducible refine kw_ifp ?_ ?_
theorem kw_tellVar_87 {s : rS} {a1 : Int32} {a2 : Int32} {σ : rS} (h : kw6 s σ) : kw6 s (g5_tellVar_87 a1 a2 σ) := by
  unfold g5_tellVar_87
  try dsimp only [pb5, pm5]
  repeat' first
    | with_reducible exact h
    | dsimp only
    | with_reducible refine kw_sign ?_
    | with_reducible refine kw_si ?_
    | with_reducible refine kw_ri ?_
    | with_reducible refine kw_if ?_ ?_
    | with_reducible refine kw_ifp ?_ ?_
theorem kw_tellVar_82 {s : rS} {a1 : Int32} {s0 : Int32} {σ : rS} (h : kw6 s σ) : kw6 s (g5_tellVar_82 a1 s0 σ) := by
  unfold g5_tellVar_82
  try dsimp only [pb5, pm5]
  repeat' first
    | with_reducible exact h
    | dsimp only
    | with_reducible refine kw_go ?_
    | with_reducible refine kw_tellVar_87 ?_
    | with_reducible refine kw_si ?_
    | with_reducible refine kw_ri ?_
    | with_reducible refine kw_if ?_ ?_
    | with_reducible refine kw_ifp ?_ ?_
theorem kw_tellVar_53 {s : rS} {a1 : Int32} {a3 : Int32} {σ : rS} (h : kw6 s σ) : kw6 s (g5_tellVar_53 a1 a3 σ) := by
  unfold g5_tellVar_53
  try dsimp only [pb5, pm5]
  repeat' first
    | with_reducible exact h
    | dsimp only
    | with_reducible refine kw_due ?_
    | with_reducible refine kw_tellVar_82 ?_
    | with_reducible refine kw_si ?_
    | with_reducible refine kw_ri ?_
    | with_reducible refine kw_if ?_ ?_
    | with_reducible refine kw_ifp ?_ ?_
theorem kw_tellVar {s : rS} {σ : rS} (h : kw6 s σ) : kw6 s (g5_tellVar  σ) := by
  unfold g5_tellVar
  try dsimp only [pb5, pm5]
  repeat' first
    | with_reducible exact h
    | dsimp only
    | with_reducible refine kw_go ?_
    | with_reducible refine kw_fresh ?_
    | with_reducible refine kw_tellVar_87 ?_
    | with_reducible refine kw_tellVar_53 ?_
    | with_reducible refine kw_si ?_
    | with_reducible refine kw_ri ?_
    | with_reducible refine kw_if ?_ ?_
    | with_reducible refine kw_ifp ?_ ?_
theorem kw_tellArr_56 {s : rS} {a1 : Int32} {a2 : Int32} {σ : rS} (h : kw6 s σ) : kw6 s (g5_tellArr_56 a1 a2 σ) := by
  unfold g5_tellArr_56
  try dsimp only [pb5, pm5]
  repeat' first
    | with_reducible exact h
    | dsimp only
    | with_reducible refine kw_go ?_
    | with_reducible refine kw_close ?_
    | with_reducible refine kw_sign ?_
    | with_reducible refine kw_si ?_
    | with_reducible refine kw_ri ?_
    | with_reducible refine kw_if ?_ ?_
    | with_reducible refine kw_ifp ?_ ?_
theorem kw_tellArr {s : rS} {σ : rS} (h : kw6 s σ) : kw6 s (g5_tellArr  σ) := by
  unfold g5_tellArr
  try dsimp only [pb5, pm5]
  repeat' first
    | with_reducible exact h
    | dsimp only
    | with_reducible refine kw_go ?_
    | with_reducible refine kw_fresh ?_
    | with_reducible refine kw_open ?_
    | with_reducible refine kw_due ?_
    | with_reducible refine kw_tellArr_56 ?_
    | with_reducible refine kw_flaw ?_
    | with_reducible refine kw_si ?_
    | with_reducible refine kw_ri ?_
    | with_reducible refine kw_if ?_ ?_
    | with_reducible refine kw_ifp ?_ ?_
theorem kw_arguments_65 {s : rS} {B28 : Int32 → rS → rS} {s0 : Int32} {σ : rS} (hB28 : ∀ (x0 : Int32) (σ : rS), kw6 s σ → kw6 s (B28 x0 σ)) (h : kw6 s σ) : kw6 s (g5_arguments_65 B28 s0 σ) := by
  unfold g5_arguments_65
  try dsimp only [pb5, pm5]
  repeat' first
    | with_reducible exact h
    | dsimp only
    | with_reducible refine hB28 _ _ ?_
    | with_reducible refine kw_go ?_
    | with_reducible refine kw_si ?_
    | with_reducible refine kw_ri ?_
    | with_reducible refine kw_if ?_ ?_
    | with_reducible refine kw_ifp ?_ ?_
theorem kw_arguments_77 {s : rS} {σ : rS} (h : kw6 s σ) : kw6 s (g5_arguments_77  σ) := by
  unfold g5_arguments_77
  try dsimp only [pb5, pm5]
  repeat' first
    | with_reducible exact h
    | dsimp only
    | with_reducible refine kw_close ?_
    | with_reducible refine kw_sign ?_
    | with_reducible refine kw_si ?_
    | with_reducible refine kw_ri ?_
    | with_reducible refine kw_if ?_ ?_
    | with_reducible refine kw_ifp ?_ ?_
theorem kw_arguments_28 {s : rS} (m : Nat) : ∀ (x0 : Int32) (σ : rS), kw6 s σ → kw6 s (g5_arguments_28 m x0 σ) := by
  induction m with
  | zero => exact fun _ _ h => h
  | succ m ih =>
    intro x0 σ h
    rw [g5_arguments_28]
    try dsimp only [pb5, pm5]
    repeat' first
      | with_reducible exact h
      | dsimp only
      | with_reducible refine ih _ _ ?_
      | with_reducible refine kw_arguments_77 ?_
      | with_reducible refine kw_expression ?_
      | with_reducible refine kw_arguments_65 (fun y0 σ9 h9 => ih y0 σ9 h9) ?_
      | with_reducible refine kw_si ?_
      | with_reducible refine kw_ri ?_
      | with_reducible refine kw_if ?_ ?_
      | with_reducible refine kw_ifp ?_ ?_
theorem kw_arguments {s : rS} {σ : rS} (h : kw6 s σ) : kw6 s (g5_arguments  σ) := by
  unfold g5_arguments
  try dsimp only [pb5, pm5]
  repeat' first
    | with_reducible exact h
    | dsimp only
    | with_reducible refine kw_open ?_
    | with_reducible refine kw_arguments_28 _ _ _ ?_
    | with_reducible refine kw_si ?_
    | with_reducible refine kw_ri ?_
    | with_reducible refine kw_if ?_ ?_
    | with_reducible refine kw_ifp ?_ ?_
theorem kw_tellDraw_55 {s : rS} {σ : rS} (h : kw6 s σ) : kw6 s (g5_tellDraw_55  σ) := by
  unfold g5_tellDraw_55
  try dsimp only [pb5, pm5]
  repeat' first
    | with_reducible exact h
    | dsimp only
    | with_reducible refine kw_close ?_
    | with_reducible refine kw_sign ?_
    | with_reducible refine kw_si ?_
    | with_reducible refine kw_ri ?_
    | with_reducible refine kw_if ?_ ?_
    | with_reducible refine kw_ifp ?_ ?_
theorem kw_tellDraw_18 {s : rS} {σ : rS} (h : kw6 s σ) : kw6 s (g5_tellDraw_18  σ) := by
  unfold g5_tellDraw_18
  try dsimp only [pb5, pm5]
  repeat' first
    | with_reducible exact h
    | dsimp only
    | with_reducible refine kw_go ?_
    | with_reducible refine kw_open ?_
    | with_reducible refine kw_expression ?_
    | with_reducible refine kw_tellDraw_55 ?_
    | with_reducible refine kw_sign ?_
    | with_reducible refine kw_si ?_
    | with_reducible refine kw_ri ?_
    | with_reducible refine kw_if ?_ ?_
    | with_reducible refine kw_ifp ?_ ?_
theorem kw_tellDraw_160 {s : rS} {B77 : Int32 → Int32 → rS → rS} {a1 : Int32} {s0 : Int32} {σ : rS} (hB77 : ∀ (x0 : Int32) (x1 : Int32) (σ : rS), kw6 s σ → kw6 s (B77 x0 x1 σ)) (h : kw6 s σ) : kw6 s (g5_tellDraw_160 B77 a1 s0 σ) := by
  unfold g5_tellDraw_160
  try dsimp only [pb5, pm5]
  repeat' first
    | with_reducible exact h
    | dsimp only
    | with_reducible refine hB77 _ _ _ ?_
    | with_reducible refine kw_go ?_
    | with_reducible refine kw_si ?_
    | with_reducible refine kw_ri ?_
    | with_reducible refine kw_if ?_ ?_
    | with_reducible refine kw_ifp ?_ ?_
theorem kw_tellDraw_125 {s : rS} {B77 : Int32 → Int32 → rS → rS} {a1 : Int32} {σ : rS} (hB77 : ∀ (x0 : Int32) (x1 : Int32) (σ : rS), kw6 s σ → kw6 s (B77 x0 x1 σ)) (h : kw6 s σ) : kw6 s (g5_tellDraw_125 B77 a1 σ) := by
  unfold g5_tellDraw_125
  try dsimp only [pb5, pm5]
  repeat' first
    | with_reducible refine kw_tellDraw_160 hB77 ?_
    | with_reducible exact h
    | dsimp only
    | with_reducible refine hB77 _ _ _ ?_
    | with_reducible refine kw_sign ?_
    | with_reducible refine kw_expression ?_
    | with_reducible refine kw_si ?_
    | with_reducible refine kw_ri ?_
    | with_reducible refine kw_if ?_ ?_
    | with_reducible refine kw_ifp ?_ ?_
theorem kw_tellDraw_172 {s : rS} {σ : rS} (h : kw6 s σ) : kw6 s (g5_tellDraw_172  σ) := by
  unfold g5_tellDraw_172
  try dsimp only [pb5, pm5]
  repeat' first
    | with_reducible exact h
    | dsimp only
    | with_reducible refine kw_close ?_
    | with_reducible refine kw_sign ?_
    | with_reducible refine kw_si ?_
    | with_reducible refine kw_ri ?_
    | with_reducible refine kw_if ?_ ?_
    | with_reducible refine kw_ifp ?_ ?_
theorem kw_tellDraw_77 {s : rS} (m : Nat) : ∀ (x0 x1 : Int32) (σ : rS), kw6 s σ → kw6 s (g5_tellDraw_77 m x0 x1 σ) := by
  induction m with
  | zero => exact fun _ _ _ h => h
  | succ m ih =>
    intro x0 x1 σ h
    have h3 := kw_expression h
    have h172 := kw_tellDraw_172 h
    have t : ∀ σ9, kw6 s σ9 → kw6 s (g5_tellDraw_125 (g5_tellDraw_77 m) x0 σ9) := fun σ9 h9 => kw_tellDraw_125 ih h9
    rw [g5_tellDraw_77]
    exact kw_pb (kw_if h172 (kw_if h172 (kw_pm (kw_pb (kw_if (t _ h3) (kw_pb (kw_if (t _ h3) (kw_if (kw_pb (t _ (kw_flaw h3))) (t _ h3)))))))))
theorem kw_tellDraw {s : rS} {σ : rS} (h : kw6 s σ) : kw6 s (g5_tellDraw  σ) := by
  unfold g5_tellDraw
  try dsimp only [pb5, pm5]
  repeat' first
    | with_reducible exact h
    | dsimp only
    | with_reducible refine kw_open ?_
    | with_reducible refine kw_tellDraw_77 _ _ _ _ ?_
    | with_reducible refine kw_tellDraw_18 ?_
    | with_reducible refine kw_si ?_
    | with_reducible refine kw_ri ?_
    | with_reducible refine kw_if ?_ ?_
    | with_reducible refine kw_ifp ?_ ?_
theorem kw_tellNamed_295 {s : rS} {σ : rS} (h : kw6 s σ) : kw6 s (g5_tellNamed_295  σ) := by
  unfold g5_tellNamed_295
  try dsimp only [pb5, pm5]
  repeat' first
    | with_reducible exact h
    | dsimp only
    | with_reducible refine kw_expression ?_
    | with_reducible refine kw_sign ?_
    | with_reducible refine kw_si ?_
    | with_reducible refine kw_ri ?_
    | with_reducible refine kw_if ?_ ?_
    | with_reducible refine kw_ifp ?_ ?_
theorem kw_tellNamed_244 {s : rS} {a1 : Int32} {a3 : Int32} {σ : rS} (h : kw6 s σ) : kw6 s (g5_tellNamed_244 a1 a3 σ) := by
  unfold g5_tellNamed_244
  try dsimp only [pb5, pm5]
  repeat' first
    | with_reducible exact h
    | dsimp only
    | with_reducible refine kw_tellNamed_295 ?_
    | with_reducible refine kw_go ?_
    | with_reducible refine kw_arguments ?_
    | with_reducible refine kw_si ?_
    | with_reducible refine kw_ri ?_
    | with_reducible refine kw_if ?_ ?_
    | with_reducible refine kw_ifp ?_ ?_
theorem kw_tellNamed_175 {s : rS} {a1 : Int32} {a3 : Int32} {σ : rS} (h : kw6 s σ) : kw6 s (g5_tellNamed_175 a1 a3 σ) := by
  unfold g5_tellNamed_175
  try dsimp only [pb5, pm5]
  repeat' first
    | with_reducible exact h
    | dsimp only
    | with_reducible refine kw_sign ?_
    | with_reducible refine kw_tellNamed_244 ?_
    | with_reducible refine kw_go ?_
    | with_reducible refine kw_open ?_
    | with_reducible refine kw_expression ?_
    | with_reducible refine kw_close ?_
    | with_reducible refine kw_si ?_
    | with_reducible refine kw_ri ?_
    | with_reducible refine kw_if ?_ ?_
    | with_reducible refine kw_ifp ?_ ?_
theorem kw_tellNamed_133 {s : rS} {a1 : Int32} {a3 : Int32} {σ : rS} (h : kw6 s σ) : kw6 s (g5_tellNamed_133 a1 a3 σ) := by
  unfold g5_tellNamed_133
  try dsimp only [pb5, pm5]
  repeat' first
    | with_reducible exact h
    | dsimp only
    | with_reducible refine kw_tellNamed_175 ?_
    | with_reducible refine kw_go ?_
    | with_reducible refine kw_tellDraw ?_
    | with_reducible refine kw_si ?_
    | with_reducible refine kw_ri ?_
    | with_reducible refine kw_if ?_ ?_
    | with_reducible refine kw_ifp ?_ ?_
theorem kw_tellNamed_109 {s : rS} {a1 : Int32} {a3 : Int32} {s1 : Int32} {s2 : Int32} {σ : rS} (h : kw6 s σ) : kw6 s (g5_tellNamed_109 a1 a3 s1 s2 σ) := by
  unfold g5_tellNamed_109
  try dsimp only [pb5, pm5]
  repeat' first
    | with_reducible exact h
    | dsimp only
    | with_reducible refine kw_look ?_
    | with_reducible refine kw_tellNamed_133 ?_
    | with_reducible refine kw_open ?_
    | with_reducible refine kw_expression ?_
    | with_reducible refine kw_close ?_
    | with_reducible refine kw_si ?_
    | with_reducible refine kw_ri ?_
    | with_reducible refine kw_if ?_ ?_
    | with_reducible refine kw_ifp ?_ ?_
theorem kw_tellNamed_90 {s : rS} {a1 : Int32} {a2 : Int32} {a3 : Int32} {σ : rS} (h : kw6 s σ) : kw6 s (g5_tellNamed_90 a1 a2 a3 σ) := by
  unfold g5_tellNamed_90
  try dsimp only [pb5, pm5]
  repeat' first
    | with_reducible exact h
    | dsimp only
    | with_reducible refine kw_tellNamed_109 ?_
    | with_reducible refine kw_si ?_
    | with_reducible refine kw_ri ?_
    | with_reducible refine kw_if ?_ ?_
    | with_reducible refine kw_ifp ?_ ?_
theorem kw_tellNamed {s : rS} {σ : rS} (h : kw6 s σ) : kw6 s (g5_tellNamed  σ) := by
  unfold g5_tellNamed
  try dsimp only [pb5, pm5]
  repeat' first
    | with_reducible exact h
    | dsimp only
    | with_reducible refine kw_newStatement ?_
    | with_reducible refine kw_go ?_
    | with_reducible refine kw_flaw ?_
    | with_reducible refine kw_tellNamed_90 ?_
    | with_reducible refine kw_arguments ?_
    | with_reducible refine kw_si ?_
    | with_reducible refine kw_ri ?_
    | with_reducible refine kw_if ?_ ?_
    | with_reducible refine kw_ifp ?_ ?_
theorem kw_tellLocal {s : rS} {σ : rS} (h : kw6 s σ) : kw6 s (g5_tellLocal  σ) := by
  unfold g5_tellLocal
  try dsimp only [pb5, pm5]
  repeat' first
    | with_reducible exact h
    | dsimp only
    | with_reducible refine kw_newStatement ?_
    | with_reducible refine kw_go ?_
    | with_reducible refine kw_fresh ?_
    | with_reducible refine kw_sign ?_
    | with_reducible refine kw_expression ?_
    | with_reducible refine kw_si ?_
    | with_reducible refine kw_ri ?_
    | with_reducible refine kw_if ?_ ?_
    | with_reducible refine kw_ifp ?_ ?_
theorem kw_tellStatement_68 {s : rS} {s1 : Int32} {σ : rS} (h : kw6 s σ) : kw6 s (g5_tellStatement_68 s1 σ) := by
  unfold g5_tellStatement_68
  try dsimp only [pb5, pm5]
  repeat' first
    | with_reducible exact h
    | dsimp only
    | with_reducible refine kw_newStatement ?_
    | with_reducible refine kw_go ?_
    | with_reducible refine kw_expression ?_
    | with_reducible refine kw_open ?_
    | with_reducible refine kw_openBlock ?_
    | with_reducible refine kw_si ?_
    | with_reducible refine kw_ri ?_
    | with_reducible refine kw_if ?_ ?_
    | with_reducible refine kw_ifp ?_ ?_
theorem kw_tellStatement_52 {s : rS} {σ : rS} (h : kw6 s σ) : kw6 s (g5_tellStatement_52  σ) := by
  unfold g5_tellStatement_52
  try dsimp only [pb5, pm5]
  repeat' first
    | with_reducible exact h
    | dsimp only
    | with_reducible refine kw_tellStatement_68 ?_
    | with_reducible refine kw_si ?_
    | with_reducible refine kw_ri ?_
    | with_reducible refine kw_if ?_ ?_
    | with_reducible refine kw_ifp ?_ ?_
theorem kw_tellStatement_164 {s : rS} {s1 : Int32} {σ : rS} (h : kw6 s σ) : kw6 s (g5_tellStatement_164 s1 σ) := by
  unfold g5_tellStatement_164
  try dsimp only [pb5, pm5]
  repeat' first
    | with_reducible exact h
    | dsimp only
    | with_reducible refine kw_newStatement ?_
    | with_reducible refine kw_go ?_
    | with_reducible refine kw_expression ?_
    | with_reducible refine kw_sign ?_
    | with_reducible refine kw_si ?_
    | with_reducible refine kw_ri ?_
    | with_reducible refine kw_if ?_ ?_
    | with_reducible refine kw_ifp ?_ ?_
theorem kw_tellStatement_133 {s : rS} {σ : rS} (h : kw6 s σ) : kw6 s (g5_tellStatement_133  σ) := by
  unfold g5_tellStatement_133
  try dsimp only [pb5, pm5]
  repeat' first
    | with_reducible exact h
    | dsimp only
    | with_reducible refine kw_tellStatement_164 ?_
    | with_reducible refine kw_si ?_
    | with_reducible refine kw_ri ?_
    | with_reducible refine kw_if ?_ ?_
    | with_reducible refine kw_ifp ?_ ?_
theorem kw_tellStatement {s σ : rS} (h : kw6 s σ) : kw6 s (g5_tellStatement σ) := by
  have h133 := kw_tellStatement_133 h
  have h52 := kw_tellStatement_52 h
  unfold g5_tellStatement
  exact kw_if (kw_pb (kw_tellNamed h)) (kw_pb (kw_if (kw_pb (kw_if (kw_pb (kw_if (kw_pb (kw_if (kw_pb (kw_if (kw_pb (kw_if (kw_pb (kw_flaw h)) h133)) h133)) h133)) h52)) h52)) (kw_pb (kw_tellLocal h))))
theorem kw_endBlock {s : rS} {σ : rS} (h : kw6 s σ) : kw6 s (g5_endBlock  σ) := by
  unfold g5_endBlock
  try dsimp only [pb5, pm5]
  repeat' first
    | with_reducible exact h
    | dsimp only
    | with_reducible refine kw_close ?_
    | with_reducible refine kw_go ?_
    | with_reducible refine kw_open ?_
    | with_reducible refine kw_openBlock ?_
    | with_reducible refine kw_si ?_
    | with_reducible refine kw_ri ?_
    | with_reducible refine kw_if ?_ ?_
    | with_reducible refine kw_ifp ?_ ?_
theorem kw_tellStatements_11 {s : rS} (m : Nat) : ∀ (σ : rS), kw6 s σ → kw6 s (g5_tellStatements_11 m  σ) := by
  induction m with
  | zero => exact fun _ h => h
  | succ m ih =>
    intro σ h
    rw [g5_tellStatements_11]
    try dsimp only [pb5, pm5]
    repeat' first
      | with_reducible exact h
      | dsimp only
      | with_reducible refine ih _ ?_
      | with_reducible refine kw_tellStatement ?_
      | with_reducible refine kw_endBlock ?_
      | with_reducible refine kw_si ?_
      | with_reducible refine kw_ri ?_
      | with_reducible refine kw_if ?_ ?_
      | with_reducible refine kw_ifp ?_ ?_
theorem kw_tellStatements {s : rS} {σ : rS} (h : kw6 s σ) : kw6 s (g5_tellStatements  σ) := by
  unfold g5_tellStatements
  try dsimp only [pb5, pm5]
  repeat' first
    | with_reducible exact h
    | dsimp only
    | with_reducible refine kw_openBlock ?_
    | with_reducible refine kw_tellStatements_11 _ _ ?_
    | with_reducible refine kw_si ?_
    | with_reducible refine kw_ri ?_
    | with_reducible refine kw_if ?_ ?_
    | with_reducible refine kw_ifp ?_ ?_
theorem kw_tellFunc_206 {s : rS} {B102 : Int32 → Int32 → rS → rS} {a1 : Int32} {s0 : Int32} {σ : rS} (hB102 : ∀ (x0 : Int32) (x1 : Int32) (σ : rS), kw6 s σ → kw6 s (B102 x0 x1 σ)) (h : kw6 s σ) : kw6 s (g5_tellFunc_206 B102 a1 s0 σ) := by
  unfold g5_tellFunc_206
  try dsimp only [pb5, pm5]
  repeat' first
    | with_reducible exact h
    | dsimp only
    | with_reducible refine hB102 _ _ _ ?_
    | with_reducible refine kw_go ?_
    | with_reducible refine kw_si ?_
    | with_reducible refine kw_ri ?_
    | with_reducible refine kw_if ?_ ?_
    | with_reducible refine kw_ifp ?_ ?_
theorem kw_tellFunc_185 {s : rS} {B102 : Int32 → Int32 → rS → rS} {a1 : Int32} {σ : rS} (hB102 : ∀ (x0 : Int32) (x1 : Int32) (σ : rS), kw6 s σ → kw6 s (B102 x0 x1 σ)) (h : kw6 s σ) : kw6 s (g5_tellFunc_185 B102 a1 σ) := by
  unfold g5_tellFunc_185
  try dsimp only [pb5, pm5]
  repeat' first
    | with_reducible refine kw_tellFunc_206 hB102 ?_
    | with_reducible exact h
    | dsimp only
    | with_reducible refine hB102 _ _ _ ?_
    | with_reducible refine kw_si ?_
    | with_reducible refine kw_ri ?_
    | with_reducible refine kw_if ?_ ?_
    | with_reducible refine kw_ifp ?_ ?_
theorem kw_tellFunc_218 {s : rS} {a1 : Int32} {σ : rS} (h : kw6 s σ) : kw6 s (g5_tellFunc_218 a1 σ) := by
  unfold g5_tellFunc_218
  try dsimp only [pb5, pm5]
  repeat' first
    | with_reducible exact h
    | dsimp only
    | with_reducible refine kw_close ?_
    | with_reducible refine kw_open ?_
    | with_reducible refine kw_tellStatements ?_
    | with_reducible refine kw_si ?_
    | with_reducible refine kw_ri ?_
    | with_reducible refine kw_if ?_ ?_
    | with_reducible refine kw_ifp ?_ ?_
theorem kw_tellFunc_102 {s : rS} (m : Nat) : ∀ (x0 : Int32) (x1 : Int32) (σ : rS), kw6 s σ → kw6 s (g5_tellFunc_102 m x0 x1 σ) := by
  induction m with
  | zero => exact fun _ _ _ h => h
  | succ m ih =>
    intro x0 x1 σ h
    rw [g5_tellFunc_102]
    try dsimp only [pb5, pm5]
    repeat' first
      | with_reducible exact h
      | dsimp only
      | with_reducible refine ih _ _ _ ?_
      | with_reducible refine kw_tellFunc_218 ?_
      | with_reducible refine kw_fresh ?_
      | with_reducible refine kw_tellFunc_185 (fun y0 y1 σ9 h9 => ih y0 y1 σ9 h9) ?_
      | with_reducible refine kw_si ?_
      | with_reducible refine kw_ri ?_
      | with_reducible refine kw_if ?_ ?_
      | with_reducible refine kw_ifp ?_ ?_
theorem kw_tellFunc_74 {s : rS} {a1 : Int32} {σ : rS} (h : kw6 s σ) : kw6 s (g5_tellFunc_74 a1 σ) := by
  unfold g5_tellFunc_74
  try dsimp only [pb5, pm5]
  repeat' first
    | with_reducible exact h
    | dsimp only
    | with_reducible refine kw_open ?_
    | with_reducible refine kw_tellFunc_102 _ _ _ _ ?_
    | with_reducible refine kw_si ?_
    | with_reducible refine kw_ri ?_
    | with_reducible refine kw_if ?_ ?_
    | with_reducible refine kw_ifp ?_ ?_
theorem kw_tellFunc_34 {s : rS} {a1 : Int32} {s1 : Int32} {σ : rS} (h : kw6 s σ) : kw6 s (g5_tellFunc_34 a1 s1 σ) := by
  unfold g5_tellFunc_34
  try dsimp only [pb5, pm5]
  repeat' first
    | with_reducible exact h
    | dsimp only
    | with_reducible refine kw_tellFunc_74 ?_
    | with_reducible refine kw_si ?_
    | with_reducible refine kw_ri ?_
    | with_reducible refine kw_if ?_ ?_
    | with_reducible refine kw_ifp ?_ ?_
theorem kw_tellFunc {s : rS} {σ : rS} (h : kw6 s σ) : kw6 s (g5_tellFunc  σ) := by
  unfold g5_tellFunc
  try dsimp only [pb5, pm5]
  repeat' first
    | with_reducible exact h
    | dsimp only
    | with_reducible refine kw_go ?_
    | with_reducible refine kw_fresh ?_
    | with_reducible refine kw_tellFunc_34 ?_
    | with_reducible refine kw_si ?_
    | with_reducible refine kw_ri ?_
    | with_reducible refine kw_if ?_ ?_
    | with_reducible refine kw_ifp ?_ ?_
theorem kw_look74 {s : rS} {B : Int32 → rS → rS} {a1 a2 a3 : Int32} {σ : rS} (hB : ∀ x σ, kw6 s σ → kw6 s (B x σ)) (h : kw6 s σ) : kw6 s (g5_lookAtCalls_74 B a1 a2 a3 σ) := hB _ _ h
theorem kw_look58 {s : rS} {B : Int32 → rS → rS} {a1 a2 a3 : Int32} {σ : rS} (hB : ∀ x σ, kw6 s σ → kw6 s (B x σ)) (h : kw6 s σ) : kw6 s (g5_lookAtCalls_58 B a1 a2 a3 σ) := kw_look74 hB h
theorem kw_look164 {s : rS} {B : Int32 → rS → rS} {a1 a2 : Int32} {σ : rS} (hB : ∀ x σ, kw6 s σ → kw6 s (B x σ)) (h : kw6 s σ) : kw6 s (g5_lookAtCalls_164 B a1 a2 σ) := hB _ _ h
theorem kw_look290 {s : rS} {B : Int32 → rS → rS} {a1 a2 a3 : Int32} {σ : rS} (hB : ∀ x σ, kw6 s σ → kw6 s (B x σ)) (h : kw6 s σ) : kw6 s (g5_lookAtCalls_290 B a1 a2 a3 σ) := hB _ _ h
theorem kw_look260 {s : rS} {B : Int32 → rS → rS} {a1 a2 : Int32} {σ : rS} (hB : ∀ x σ, kw6 s σ → kw6 s (B x σ)) (h : kw6 s σ) : kw6 s (g5_lookAtCalls_260 B a1 a2 σ) := kw_if (kw_look290 hB h) (kw_look290 hB h)
theorem kw_look214 {s : rS} {B : Int32 → rS → rS} (hB : ∀ x σ, kw6 s σ → kw6 s (B x σ)) (m : Nat) : ∀ (x0 x1 : Int32) (σ : rS), kw6 s σ → kw6 s (g5_lookAtCalls_214 B m x0 x1 σ) := by
  induction m with
  | zero => exact fun _ _ _ h => h
  | succ m ih =>
    intro x0 x1 σ h
    rw [g5_lookAtCalls_214]
    exact kw_if (kw_if (kw_look260 hB h) (kw_if (kw_pb (ih _ _ _ h)) (kw_look260 hB h))) (kw_look260 hB h)
theorem kw_look204 {s : rS} (m : Nat) : ∀ (x0 : Int32) (σ : rS), kw6 s σ → kw6 s (g5_lookAtCalls_204 m x0 σ) := by
  induction m with
  | zero => exact fun _ _ h => h
  | succ m ih =>
    intro x0 σ h
    rw [g5_lookAtCalls_204]
    exact kw_if h (kw_look214 ih _ _ _ _ h)
theorem kw_look98 {s : rS} (m : Nat) : ∀ (x0 : Int32) (σ : rS), kw6 s σ → kw6 s (g5_lookAtCalls_98 m x0 σ) := by
  induction m with
  | zero => exact fun _ _ h => h
  | succ m ih =>
    intro x0 σ h
    rw [g5_lookAtCalls_98]
    have h4 : ∀ σ9, kw6 s σ9 → kw6 s (g5_lookAtCalls_204 fu5 0 σ9) := fun σ9 h9 => kw_look204 _ _ _ h9
    exact kw_if (kw_pb (kw_if (h4 _ h) (kw_if (kw_pb (kw_pb (h4 _ h))) (h4 _ h)))) (kw_pb (kw_pb (kw_if (kw_if (kw_if (kw_look164 ih h) (kw_look164 ih h)) (kw_look164 ih h)) (kw_look164 ih h))))
theorem kw_look2 {s : rS} (m : Nat) : ∀ (x0 : Int32) (σ : rS), kw6 s σ → kw6 s (g5_lookAtCalls_2 m x0 σ) := by
  induction m with
  | zero => exact fun _ _ h => h
  | succ m ih =>
    intro x0 σ h
    rw [g5_lookAtCalls_2]
    have h8 : kw6 s (g5_lookAtCalls_98 fu5 0 (siU σ 40 (-1))) := kw_look98 _ _ _ h
    exact kw_if (kw_pb h8) (kw_if (kw_pb (kw_if (kw_pb (ih _ _ h)) (kw_pb (kw_pb (kw_if (kw_look58 ih h) (kw_pb (kw_if (kw_look74 ih h) (kw_look58 ih h)))))))) (kw_pb (ih _ _ h)))
theorem kw_tell161 {s σ : rS} (h : kw6 s σ) : kw6 s (g5_tellProgram_161 σ) := kw_if h (kw_pb (kw_look2 _ _ _ h))
theorem kw_tell84 {s : rS} (m : Nat) : ∀ (σ : rS), kw6 s σ → kw6 s (g5_tellProgram_84 m σ) := by
  induction m with
  | zero => exact fun _ h => h
  | succ m ih =>
    intro σ h
    rw [g5_tellProgram_84]
    exact kw_pb (kw_if (kw_tell161 h) (kw_if (kw_tell161 h) (kw_pb (kw_if (kw_pb (kw_if (kw_pb (kw_if (kw_pb (ih _ (kw_flaw h))) (kw_pb (ih _ (kw_tellFunc h))))) (kw_pb (ih _ (kw_tellArr h))))) (kw_pb (ih _ (kw_tellVar h)))))))
theorem kw_tell65 {s1 : Int32} {σ : rS} : (g5_tellProgram_65 s1 σ).2.2.2 = (g5_cutTape (siU σ 3 s1)).2.2.2 := by
  unfold g5_tellProgram_65
  exact kw_pb (kw_pb (kw_pb (kw_pb (kw_tell84 (s := g5_cutTape (siU σ 3 s1)) _ _ (kw_readNext rfl)))))
/-- cutting writes long rows only in its own half -/
theorem cw_l6 {B : Nat → Int32} {n Bk : Nat} (hn2 : n ≤ 65536) (hBk : Bk ≤ 65537) : ∀ (d mr cnt : Nat) (r : Int32) (σ : rS), okS5 σ → bS5 σ = B → nS5 σ = n → σ.1 3 = Int32.ofNat Bk → σ.1 4 = Int32.ofNat cnt → 0 ≤ r.toInt → r.toInt ≤ n → cnt ≤ r.toInt.toNat → n - r.toInt.toNat < d → d ≤ mr → ∀ j, (j < Bk ∨ Bk + 65536 < j) → (g5_cutTape_13 mr r 0 σ).2.2.2 8 j = σ.2.2.2 8 j
  | 0, _, _, _, _, _, _, _, _, _, _, _, _, h, _, _, _ => by omega
  | d + 1, mr, cnt, r, σ, HS, sB, sn, s3, s4, h0, h1, hc, hd, hmr, j, hj => by
    obtain ⟨mr, rfl⟩ : ∃ k, mr = k + 1 := ⟨mr - 1, by omega⟩
    have hsz : (σ.1 2).toInt = n := by have := HS.1; unfold nS5 at sn; omega
    have hT : (σ.1 3 + σ.1 4).toNatClampNeg = Bk + cnt := by rw [s3, s4, on_5 (by omega), cl_5 (by omega)]
    by_cases c : n ≤ r.toInt.toNat
    · have e1 : g5_cutTape_13 (mr + 1) r 0 σ = g5_cutTape_72 σ := by
        rw [g5_cutTape_13]
        exact if_pos (by rw [lei]; omega)
      rw [e1, (ct_75 hT).2.2.1]
    · have hp : r.toInt.toNat < n := by omega
      obtain ⟨σ1, e, so, nu, F, G, t1, t2, t3, t4⟩ := tk_S5 (a1 := r) (p := r.toInt.toNat) HS (by omega) (by omega) hT
      rw [sB, sn] at t2 t4
      obtain ⟨u1, u2, u3⟩ := tk_b5 t3
      have te1 := te_ltqq5 (B := B) (n := n) (p := r.toInt.toNat)
      have te2 := te_b5 (B := B) hp
      have hsk : (g5_skip e σ1).toInt = skqq5 B n false e.toInt.toNat := by
        rw [sk_S5 (u3 HS) (by omega) (by have w := t3.1 2; rw [w]; omega), u1, u2, sB, sn]
      have e1 : g5_cutTape_13 (mr + 1) r 0 σ = if so = 4 then g5_cutTape_58 (g5_cutTape_13 mr) (g5_skip e σ1) 1 σ1 else g5_cutTape_58 (g5_cutTape_13 mr) (g5_skip e σ1) 0 σ1 := by
        rw [g5_cutTape_13]
        dsimp only [pm5, pb5]
        rw [if_neg (by rw [lei]; omega), if_pos rfl, t1]
        dsimp only
        rw [t3.1 3, t3.1 4, hT, t3.2.2.2.1]
      have hs4 : (siU σ1 4 (σ1.1 4 + 1)).1 4 = Int32.ofNat (cnt + 1) := by
        rw [si1, if_pos rfl, t3.1 4, s4, on_15 (by omega)]
      have hs3 : (siU σ1 4 (σ1.1 4 + 1)).1 3 = Int32.ofNat Bk := by
        rw [si1, if_neg (by decide), t3.1 3, s3]
      have lw : (siU σ1 4 (σ1.1 4 + 1)).2.2.2 8 j = σ.2.2.2 8 j := t3.2.2.1 j (by omega)
      have sk3 := sk_leqq5 (B := B) (n := n) (p := e.toInt.toNat) (c := false) (by omega)
      have sk4 := sk_b5 (B := B) (n := n) (p := e.toInt.toNat) (c := false)
      rw [e1]
      by_cases k3 : so = 4
      · rw [if_pos k3]
        have e2 : g5_cutTape_58 (g5_cutTape_13 mr) (g5_skip e σ1) 1 σ1 = g5_cutTape_72 (siU σ1 4 (σ1.1 4 + 1)) := by
          unfold g5_cutTape_58
          dsimp only [pb5]
          obtain ⟨mr, rfl⟩ : ∃ k, mr = k + 1 := ⟨mr - 1, by omega⟩
          rw [g5_cutTape_13]
          by_cases z : (siU σ1 4 (σ1.1 4 + 1)).1 2 ≤ g5_skip e σ1
          · rw [if_pos z]
          · rw [if_neg z, if_neg (by decide)]
        rw [e2, (ct_75 (σ := siU σ1 4 (σ1.1 4 + 1)) (T := Bk + cnt + 1) (by rw [hs3, hs4, on_5 (by omega), cl_5 (by omega)]; omega)).2.2.1]
        exact lw
      · rw [if_neg k3]
        have e2 : g5_cutTape_58 (g5_cutTape_13 mr) (g5_skip e σ1) 0 σ1 = g5_cutTape_13 mr (g5_skip e σ1) 0 (siU σ1 4 (σ1.1 4 + 1)) := rfl
        rw [e2]
        have bb : bS5 (siU σ1 4 (σ1.1 4 + 1)) = B := by
          have z : bS5 (siU σ1 4 (σ1.1 4 + 1)) = bS5 σ1 := rfl
          rw [z, u1, sB]
        have n2' : (siU σ1 4 (σ1.1 4 + 1)).1 2 = σ.1 2 := by rw [si1, if_neg (by decide), t3.1 2]
        rw [cw_l6 hn2 hBk d mr (cnt + 1) (g5_skip e σ1) (siU σ1 4 (σ1.1 4 + 1)) (by unfold okS5 at HS ⊢; rw [n2']; exact HS) bb (by unfold nS5 at sn ⊢; rw [n2']; exact sn) hs3 hs4 (by omega) (by omega) (by omega) (by omega) (by omega) j hj]
        exact lw
theorem cut_l6 {σ : rS} {Bk : Nat} (HS : okS5 σ) (hBk : Bk ≤ 65537) (s3 : σ.1 3 = Int32.ofNat Bk) : ∀ j, (j < Bk ∨ Bk + 65536 < j) → (g5_cutTape σ).2.2.2 8 j = σ.2.2.2 8 j := fun j hj => by
  obtain ⟨n, sn⟩ : ∃ n, nS5 σ = n := ⟨_, rfl⟩
  have hsz : (σ.1 2).toInt = n := by have := HS.1; unfold nS5 at sn; omega
  have hn2 : n ≤ 65536 := by have := HS.2; omega
  unfold g5_cutTape
  dsimp only [pb5]
  have b1 : bS5 (siU σ 4 0) = bS5 σ := rfl
  have e2 : (siU σ 4 0).1 2 = σ.1 2 := rfl
  have o1 : okS5 (siU σ 4 0) := HS
  have hs := sk_S5 (a := 0) o1 (by decide) (by rw [e2, t0i]; exact HS.1)
  have z0 : (0 : Int32).toInt.toNat = 0 := rfl
  have nn : nS5 (siU σ 4 0) = n := sn
  rw [b1, nn, z0] at hs
  have sk4 := sk_b5 (B := bS5 σ) (n := n) (p := 0) (c := false)
  rw [cw_l6 hn2 hBk (n + 1) fu5 0 (g5_skip 0 (siU σ 4 0)) (siU σ 4 0) o1 b1 nn s3 rfl (by omega) (by omega) (by omega) (by omega) (by unfold fu5; omega) j hj]
  rfl
/-- a reading leaves the other half's long rows alone -/
theorem tell_l6 {σ : rS} (HS : okS5 σ) : ∀ j, (if σ.1 3 = 0 then j ≤ 65536 else 65537 ≤ j) → (g5_tellProgram σ).2.2.2 8 j = σ.2.2.2 8 j := fun j hj => by
  unfold g5_tellProgram
  rw [pb_e5, pb_e5, pb_e5, pb_e5, pb_e5, pb_e5, pb_e5, pb_e5, pb_e5, pb_e5]
  have s3 : (siU (siU (siU (siU (siU (siU (siU (siU (siU (siU σ 46 0) 47 0) 11 0) 12 0) 13 0) 15 0) 16 0) 17 0) 18 0) 19 0).1 3 = σ.1 3 := rfl
  rw [s3]
  by_cases c : σ.1 3 = 0
  · rw [if_pos c] at hj ⊢
    rw [kw_tell65]
    exact cut_l6 (σ := siU (siU (siU (siU (siU (siU (siU (siU (siU (siU (siU σ 46 0) 47 0) 11 0) 12 0) 13 0) 15 0) 16 0) 17 0) 18 0) 19 0) 3 65537) (Bk := 65537) HS (by decide) rfl j (by omega)
  · rw [if_neg c] at hj ⊢
    rw [kw_tell65]
    exact cut_l6 (σ := siU (siU (siU (siU (siU (siU (siU (siU (siU (siU (siU σ 46 0) 47 0) 11 0) 12 0) 13 0) 15 0) 16 0) 17 0) 18 0) 19 0) 3 0) (Bk := 0) HS (by decide) rfl j (by omega)

end
section
set_option maxHeartbeats 1600000
/-! the code of both sides between calls -/
def cu7 (κ : zS) (c : Nat) : E5 := (fun g => if g ∈ ci6 then zI κ g c else 0, fun g => if g = 506 ∨ g = 507 ∨ g = 508 then (fun j => if j < mb6 κ c g then zA κ (zR κ g c) j else 0) else if g ∈ cr6 then zA κ (zR κ g c) else fun _ => 0, fun _ => 0)
theorem ci_57 : ∀ g, g ∈ ci6 → g / 100 = 5 := by decide
/-- what leaves a code's fields and rows alone -/
theorem cu_f7 {C : zC} {n0 c : Nat} {κ τ : zS} {F : Nat → Nat → Prop} (W : zW C n0 κ) (T : zT κ c = 5) (Z : zF F κ τ) (h : ∀ f, f / 100 = 5 → ¬ F f c) : cu7 τ c = cu7 κ c := by
  have i : ∀ g, g / 100 = 5 → zI τ g c = zI κ g c := fun g q => Z.i (h g q)
  have b : ∀ g, mb6 τ c g = mb6 κ c g := fun g => by
    unfold mb6
    rw [i 513 (by decide), i 515 (by decide)]
  have a : ∀ g, ((g = 506 ∨ g = 507 ∨ g = 508) ∨ g ∈ cr6) → zA τ (zR τ g c) = zA κ (zR κ g c) := fun g hg => by
    obtain ⟨f1, f2⟩ := cr_t6 g hg
    exact (Z.row W f1 (by decide) (T.trans f2.symm) (h g f2)).1
  unfold cu7
  refine Prod.ext (funext fun g => ?_) (Prod.ext (funext fun g => ?_) rfl)
  · show (if g ∈ ci6 then zI τ g c else 0) = if g ∈ ci6 then zI κ g c else 0
    by_cases q : g ∈ ci6
    · rw [if_pos q, if_pos q, i g (ci_57 g q)]
    · rw [if_neg q, if_neg q]
  · show (if g = 506 ∨ g = 507 ∨ g = 508 then (fun j => if j < mb6 τ c g then zA τ (zR τ g c) j else 0) else if g ∈ cr6 then zA τ (zR τ g c) else fun _ => 0) = (if g = 506 ∨ g = 507 ∨ g = 508 then (fun j => if j < mb6 κ c g then zA κ (zR κ g c) j else 0) else if g ∈ cr6 then zA κ (zR κ g c) else fun _ => 0)
    by_cases q1 : g = 506 ∨ g = 507 ∨ g = 508
    · rw [if_pos q1, if_pos q1, a g (Or.inl q1), b]
    · rw [if_neg q1, if_neg q1]
      by_cases q2 : g ∈ cr6
      · rw [if_pos q2, if_pos q2, a g (Or.inr q2)]
      · rw [if_neg q2, if_neg q2]
theorem cu_a7 {κ : zS} {m c : Nat} : (∀ g, g < 600 → (am6 (ur κ maCode m c) m).1 g = (cu7 κ c).1 g) ∧ (∀ g, g < 600 → (am6 (ur κ maCode m c) m).2.1 g = (cu7 κ c).2.1 g) := by
  have rc : zR (ur κ maCode m c) maCode m = c := if_pos ⟨rfl, rfl⟩
  have ro : ∀ f b, f < 600 → zR (ur κ maCode m c) f b = zR κ f b := fun f b q => if_neg (fun y => absurd q (by rw [y.1]; decide))
  refine ⟨fun g hg => ?_, fun g hg => ?_⟩
  · show (if g ∈ ci6 then zI (ur κ maCode m c) g (zR (ur κ maCode m c) maCode m) else if g ∈ mi6 then zI (ur κ maCode m c) g m else 0) = if g ∈ ci6 then zI κ g c else 0
    by_cases q : g ∈ ci6
    · rw [if_pos q, if_pos q, rc]; rfl
    · rw [if_neg q, if_neg q, if_neg (fun y => ci_i6.2.2.1 g y hg)]
  · show (if g = 506 ∨ g = 507 ∨ g = 508 then (fun j => if j < mb6 (ur κ maCode m c) (zR (ur κ maCode m c) maCode m) g then zA (ur κ maCode m c) (zR (ur κ maCode m c) g (zR (ur κ maCode m c) maCode m)) j else 0) else if g ∈ cr6 then zA (ur κ maCode m c) (zR (ur κ maCode m c) g (zR (ur κ maCode m c) maCode m)) else if g ∈ mr6 then zA (ur κ maCode m c) (zR (ur κ maCode m c) g m) else fun _ => 0) = (if g = 506 ∨ g = 507 ∨ g = 508 then (fun j => if j < mb6 κ c g then zA κ (zR κ g c) j else 0) else if g ∈ cr6 then zA κ (zR κ g c) else fun _ => 0)
    rw [rc, ro g c hg]
    by_cases q : g = 506 ∨ g = 507 ∨ g = 508
    · rw [if_pos q, if_pos q]; rfl
    · rw [if_neg q, if_neg q]
      by_cases q2 : g ∈ cr6
      · rw [if_pos q2, if_pos q2]; rfl
      · rw [if_neg q2, if_neg q2, if_neg (fun y => ci_i6.2.2.2.2.2 g y hg)]
theorem cu_b7 {κ : zS} {p c : Nat} (hc : zR κ paCode p = c) : (∀ g, g < 600 → (cu7 κ c).1 g = (ab5 κ p).1 g) ∧ (∀ g, g < 600 → (cu7 κ c).2.1 g = (ab5 κ p).2.1 g) := by
  obtain ⟨a1, a2⟩ := ab_am6 (m := 0) hc
  obtain ⟨b1, b2⟩ := cu_a7 (κ := κ) (m := 0) (c := c)
  exact ⟨fun g hg => (b1 g hg).symm.trans (a1 g hg), fun g hg => (b2 g hg).symm.trans (a2 g hg)⟩
/-- the half of the token rows that a book lies in -/
def hf7 (b : Int32) (j : Nat) : Prop := if b = 0 then j ≤ 65536 else (65537 ≤ j ∧ j ≤ 131073)
abbrev kf7 : List Nat := [3, 14, 15, 16, 17, 18, 19, 40]
abbrev kz7 : List Nat := [5, 6, 7, 9, 20, 21, 22, 23, 24, 25, 26, 27, 28, 29, 30, 31, 32, 33, 34, 35, 36, 37, 38, 39]
/-- the reference's code stays -/
def kR7 (σ τ : rS) : Prop := (∀ g, g ∈ kf7 → τ.1 g = σ.1 g) ∧ (∀ p, p ∈ kPt → ∀ i, i < p.2.2 → τ.2.2.1 p.1 i = σ.2.2.1 p.1 i) ∧ (∀ k, k = 5 ∨ k = 6 ∨ k = 7 ∨ k = 9 ∨ k = 39 → ∀ j, hf7 (σ.1 3) j → τ.2.2.1 k j = σ.2.2.1 k j) ∧ (∀ j, hf7 (σ.1 3) j → τ.2.2.2 8 j = σ.2.2.2 8 j)
theorem kR_f7 {σ τ : rS} (hf : ∀ k, k ∈ kf7 → τ.1 k = σ.1 k) (hr : ∀ k, k ∈ kz7 → τ.2.2.1 k = σ.2.2.1 k) (hl : ∀ j, τ.2.2.2 8 j = σ.2.2.2 8 j) : kR7 σ τ := ⟨hf, fun p hp i _ => by rw [hr p.1 ((by decide : ∀ p, p ∈ kPt → p.1 ∈ kz7) p hp)], fun k hk j _ => by rw [hr k (by rcases hk with h | h | h | h | h <;> rw [h] <;> decide)], fun j _ => hl j⟩
/-- the code of both sides -/
def CR7 (nv s w : Nat) (e : E5) (σ : rS) : Prop := ∃ T X Bk N Z na f, (TR5 T X Bk N Z ∧ T.2.1 (N - 1) = 142) ∧ FN6 T Bk N nv na f s e (siU σ 11 0) ∧ sx5 σ = X ∧ (∀ k, k < f → ∃ n, n ≤ 4 ∧ σ.2.2.1 26 k = Int32.ofNat n) ∧ (nv ≤ w ∧ w ≤ 34 ∧ (w : Int) = nv + (e.1 511).toInt) ∧ σ.1 3 = Int32.ofNat Bk ∧ (Bk = 0 ∨ Bk = 65537)
theorem CR_76 {nv s w : Nat} {e e' : E5} {σ : rS} (h : CR7 nv s w e σ) (h1 : ∀ g, g < 600 → e'.1 g = e.1 g) (h2 : ∀ g, g < 600 → e'.2.1 g = e.2.1 g) (h3 : e'.2.2 705 = 256 ∧ e'.2.2 707 = 16 ∧ e'.2.2 701 = 142) : CR6 nv s w e' σ := by
  obtain ⟨T, X, Bk, N, Z, na, f, g1, g2, g3, g4, g5, _⟩ := h
  exact ⟨T, X, Bk, N, Z, na, f, g1, FN_x6 g2 ⟨⟨h1, h2, trivial⟩, fun _ _ => rfl, fun _ _ => rfl, rfl⟩, g3, g4, by rw [h1 511 (by decide)]; exact g5, h3⟩
/-- the token rows where they are read -/
theorem TR_x7 {T : T5} {X Y : X5} {Bk N : Nat} {Z : Int32} (h : TR5 T X Bk N Z) (q : ∀ t, t < N → Y.1 (Bk + t) = X.1 (Bk + t) ∧ Y.2.1 (Bk + t) = X.2.1 (Bk + t) ∧ Y.2.2.1 (Bk + t) = X.2.2.1 (Bk + t) ∧ Y.2.2.2.1 (Bk + t) = X.2.2.2.1 (Bk + t) ∧ Y.2.2.2.2 (Bk + t) = X.2.2.2.2 (Bk + t)) : TR5 T Y Bk N Z := by
  obtain ⟨h1, h2, h3, h4, h5, h6, h7, h8, h9⟩ := h
  refine ⟨h1, fun t ht => ?_, fun t ht => ?_, h4, fun t ht k => ?_, fun t u ht hu k1 k2 => ?_, h7, fun t ht k => ?_, h9⟩
  · rw [(q t ht).2.1]; exact h2 t ht
  · rw [(q t ht).1, (q t ht).2.2.1]; exact h3 t ht
  · rw [(q t ht).2.2.1]; exact h5 t ht k
  · rw [(q t ht).2.2.2.1, (q t ht).2.2.2.2, (q u hu).2.2.2.1, (q u hu).2.2.2.2]; exact h6 t u ht hu k1 k2
  · rw [(q t ht).2.2.2.1, (q t ht).2.2.2.2]; exact h8 t ht k
theorem CR_k7 {nv s w : Nat} {e : E5} {σ τ : rS} (h : CR7 nv s w e σ) (k : kR7 σ τ) : CR7 nv s w e τ := by
  obtain ⟨T, X, Bk, N, Z, na, f, ⟨g1, g0⟩, g2, g3, g4, ⟨w1, w2, w3⟩, b1, b2⟩ := h
  obtain ⟨k1, k2, k3, k4⟩ := k
  obtain ⟨⟨t1, t2, t3, t4⟩, _⟩ := id g1
  have hh : ∀ t, t < N → hf7 (σ.1 3) (Bk + t) := fun t ht => by
    unfold hf7
    rw [b1]
    rcases b2 with b2 | b2
    · rw [b2]
      rw [if_pos (show Int32.ofNat 0 = 0 from rfl)]
      omega
    · rw [b2]
      rw [if_neg (show ¬ Int32.ofNat 65537 = 0 by decide)]
      omega
  obtain ⟨⟨⟨a0, a1⟩, ⟨a2, a3⟩, ⟨a4, a5⟩, ⟨a6, a7⟩, i, i1, i2, i3, i4⟩, ⟨c0, c1, c2, c3, c4⟩, p3, p4, p5, p6, ⟨q1, q2, q3⟩, ⟨gl1, gl2, gl3, gl4, gl5⟩, R, r1, r2⟩ := g2
  have fl : ∀ g, g ∈ kf7 → g ≠ 11 → (siU τ 11 0).1 g = (siU σ 11 0).1 g := fun g q n => by
    rw [si1, si1, if_neg n, if_neg n]
    exact k1 g q
  have rw2 : ∀ (p : Nat × Nat × Nat), p ∈ kPt → ∀ i, i < p.2.2 → (siU τ 11 0).2.2.1 p.1 i = (siU σ 11 0).2.2.1 p.1 i := k2
  have n39 : ∀ t, t < N → (siU τ 11 0).2.2.1 39 (Bk + t) = (siU σ 11 0).2.2.1 39 (Bk + t) := fun t ht => k3 39 (by omega) _ (hh t ht)
  have m30 : ∀ i, i < 150 → (siU τ 11 0).2.2.1 30 i = (siU σ 11 0).2.2.1 30 i := rw2 (30, 157, 150) (by decide)
  have m31 : ∀ i, i < 150 → (siU τ 11 0).2.2.1 31 i = (siU σ 11 0).2.2.1 31 i := rw2 (31, 307, 150) (by decide)
  have m32 : ∀ i, i < 150 → (siU τ 11 0).2.2.1 32 i = (siU σ 11 0).2.2.1 32 i := rw2 (32, 457, 150) (by decide)
  have m33 : ∀ i, i < 150 → (siU τ 11 0).2.2.1 33 i = (siU σ 11 0).2.2.1 33 i := rw2 (33, 607, 150) (by decide)
  have m34 : ∀ i, i < 150 → (siU τ 11 0).2.2.1 34 i = (siU σ 11 0).2.2.1 34 i := rw2 (34, 757, 150) (by decide)
  have m37 : ∀ i, i < 150 → (siU τ 11 0).2.2.1 37 i = (siU σ 11 0).2.2.1 37 i := rw2 (37, 1207, 150) (by decide)
  have m38 : ∀ i, i < 150 → (siU τ 11 0).2.2.1 38 i = (siU σ 11 0).2.2.1 38 i := rw2 (38, 1357, 150) (by decide)
  have m26 : ∀ i, i < 10 → (siU τ 11 0).2.2.1 26 i = (siU σ 11 0).2.2.1 26 i := rw2 (26, 47, 10) (by decide)
  have m27 : ∀ i, i < 10 → (siU τ 11 0).2.2.1 27 i = (siU σ 11 0).2.2.1 27 i := rw2 (27, 57, 10) (by decide)
  have m29 : ∀ i, i < 10 → (siU τ 11 0).2.2.1 29 i = (siU σ 11 0).2.2.1 29 i := rw2 (29, 147, 10) (by decide)
  have m21 : ∀ i, i < 10 → (siU τ 11 0).2.2.1 21 i = (siU σ 11 0).2.2.1 21 i := rw2 (21, 18, 10) (by decide)
  have m23 : ∀ i, i < 3 → (siU τ 11 0).2.2.1 23 i = (siU σ 11 0).2.2.1 23 i := rw2 (23, 31, 3) (by decide)
  have m24 : ∀ i, i < 3 → (siU τ 11 0).2.2.1 24 i = (siU σ 11 0).2.2.1 24 i := rw2 (24, 34, 3) (by decide)
  refine ⟨T, sx5 τ, Bk, N, Z, na, f, ⟨TR_x7 g1 (fun t ht => ?_), g0⟩, ⟨⟨⟨a0, a1⟩, ⟨a2, a3⟩, ⟨a4, a5⟩, ⟨a6, a7⟩, i, i1, i2, by rw [fl 40 (by decide) (by decide)]; exact i3, i4⟩, ⟨by rw [si1, if_pos rfl], by rw [fl 15 (by decide) (by decide)]; exact c1, by rw [fl 16 (by decide) (by decide)]; exact c2, by rw [fl 18 (by decide) (by decide)]; exact c3, by rw [fl 19 (by decide) (by decide)]; exact c4⟩, fun j hj => ?_, fun j hj => ?_, fun j hj k5 => ?_, fun k hk => ?_, ⟨fun g hg => ?_, fun g hg => ?_, q3⟩, ⟨fun k hk => ?_, fun k hk => ?_, ?_, gl4, gl5⟩, R, r1, r2⟩, rfl, fun k hk => ?_, ⟨w1, w2, w3⟩, by rw [k1 3 (by decide)]; exact b1, b2⟩
  · rw [← g3]
    exact ⟨k3 5 (by omega) _ (hh t ht), k3 6 (by omega) _ (hh t ht), k3 7 (by omega) _ (hh t ht), k3 9 (by omega) _ (hh t ht), k4 _ (hh t ht)⟩
  · obtain ⟨z, z1, z2⟩ := p3 j hj
    exact ⟨z, z1, st_m6 z2 (cm_e6 rfl rfl rfl) (Nat.le_refl _) (Nat.le_refl _) (fun _ _ => rfl) (m30 j (by omega)) (m31 j (by omega)) (m32 j (by omega)) (fun t ht _ _ => n39 t (by omega))⟩
  · have l := p4 j hj
    unfold lf6 at l ⊢
    rw [m33 j (by omega), m34 j (by omega), m37 j (by omega), m38 j (by omega)]
    exact l
  · rw [m30 j (by omega)] at k5
    obtain ⟨t, k, u1, u2, u3, u4, u5, u6, u7, u8⟩ := p5 j hj k5
    exact ⟨t, k, u1, u2, u3, u4, by rw [m32 j (by omega)]; exact u5, u6, by rw [n39 t u1]; exact u7, u8⟩
  · rw [m26 k (by omega)]; exact p6 k hk
  · rw [m27 g (by omega)]; exact q1 g hg
  · rw [m29 g (by omega)]; exact q2 g hg
  · rw [m21 k (by omega)]; exact gl1 k hk
  · rw [m23 k (by omega), m24 k (by omega)]; exact gl2 k hk
  · rw [fl 17 (by decide) (by decide)]; exact gl3
  · have z := m26 k (by omega)
    have z2 : τ.2.2.1 26 k = σ.2.2.1 26 k := z
    rw [z2]; exact g4 k hk
/-- behind a good text of both sides -/
theorem CR_g7 {T : T5} {X : X5} {Bk N nv na f s : Nat} {Z : Int32} {e e2 : E5} {σ σ' : rS} (H : TR5 T X Bk N Z) (hE : T.2.1 (N - 1) = 142) (F : FN6 T Bk N nv na f s e2 σ) (hs : sx5 σ = X) (hb : Bk = 0 ∨ Bk = 65537) (h26 : eB (σ'.2.2.1 26) 0 5) (h1 : ∀ g, g < 600 → e.1 g = e2.1 g) (h2 : ∀ g, g < 600 → e.2.1 g = e2.2.1 g) (h3 : σ'.1 3 = Int32.ofNat Bk) (hf : ∀ g, g ∈ kf7 → g ≠ 3 → g ≠ 14 → σ'.1 g = σ.1 g) (hr : σ'.2 = σ.2) : ∃ w, CR7 nv s w e σ' := by
  obtain ⟨⟨⟨_, v1⟩, ⟨_, v2⟩, _⟩, _, _, _, _, _, _, ⟨_, _, _, g4, g5⟩, _⟩ := id F
  have e5 := h1 511 (by decide)
  have b0 : σ.1 11 = 0 := F.2.1.1
  refine ⟨nv + (e2.1 511).toInt.toNat, T, X, Bk, N, Z, na, f, ⟨H, hE⟩, FN_x6 F ⟨⟨h1, h2, trivial⟩, fun g q => ?_, fun g _ => by show σ'.2.2.1 g = σ.2.2.1 g; rw [hr], by show σ'.2.2.2 = σ.2.2.2; rw [hr]⟩, by rw [← hs]; unfold sx5; rw [hr], fun k _ => n26_6 h26 k, ⟨by omega, by omega, by rw [e5]; omega⟩, h3, hb⟩
  rw [si1]
  by_cases c : g = 11
  · rw [if_pos c, c]; exact b0.symm
  · rw [if_neg c]
    exact hf g (by rcases q with q | q | q | q | q | q | q <;> first | exact absurd q c | (rw [q]; decide)) (by omega) (by omega)

end
section
set_option maxHeartbeats 1600000
/-! what was explored, of both sides, between calls -/
abbrev Av8 : Type := (Nat → Int32) × (Nat → Nat → Int32)
/-- what the class's atlas holds -/
def av8 (κ : zS) (t : Nat) : Av8 := (fun g => if g = 0 then zI κ hoTotal (zR κ atStates t) else if g = 1 then zI κ hoTotal (zR κ atEndings t) else if g = 2 then zI κ atNexts t else if g = 3 then zI κ atRings t else zI κ atGreatest t, fun g => if g = 0 then zA κ (zR κ hoStarts (zR κ atStates t)) else if g = 1 then zA κ (zR κ hoPool (zR κ atStates t)) else if g = 2 then zA κ (zR κ hoStarts (zR κ atEndings t)) else if g = 3 then zA κ (zR κ hoPool (zR κ atEndings t)) else if g = 4 then zA κ (zR κ atFirsts t) else if g = 5 then zA κ (zR κ atTotals t) else if g = 6 then zA κ (zR κ atGains t) else if g = 7 then zA κ (zR κ atChooses t) else if g = 8 then zA κ (zR κ atSorts t) else if g = 9 then zA κ (zR κ atNumbers t) else if g = 10 then zA κ (zR κ atWeights t) else zA κ (zR κ atHopeless t))
theorem av_f8 {C : zC} {n0 t : Nat} {κ τ : zS} {F : Nat → Nat → Prop} (W : zW C n0 κ) (T : zT κ t = 3) (Z : zF F κ τ) (h : ∀ f, f / 100 = 3 → f ≠ atPlan → ¬ F f t) (h1 : ∀ f, f / 100 = 6 → ¬ F f (zR κ atStates t)) (h2 : ∀ f, f / 100 = 6 → ¬ F f (zR κ atEndings t)) : av8 τ t = av8 κ t := by
  have tS := ty_atStates W T
  have tE := ty_atEndings W T
  have rS : zR τ atStates t = zR κ atStates t := Z.r (h _ (by decide) (by decide))
  have rE : zR τ atEndings t = zR κ atEndings t := Z.r (h _ (by decide) (by decide))
  have i0 : zI τ hoTotal (zR κ atStates t) = zI κ hoTotal (zR κ atStates t) := Z.i (h1 _ (by decide))
  have i1 : zI τ hoTotal (zR κ atEndings t) = zI κ hoTotal (zR κ atEndings t) := Z.i (h2 _ (by decide))
  have i2 : zI τ atNexts t = zI κ atNexts t := Z.i (h _ (by decide) (by decide))
  have i3 : zI τ atRings t = zI κ atRings t := Z.i (h _ (by decide) (by decide))
  have i4 : zI τ atGreatest t = zI κ atGreatest t := Z.i (h _ (by decide) (by decide))
  have a0 := (Z.row W (show zr hoStarts = some 20 by decide +kernel) (by decide) tS (h1 hoStarts (by decide))).1
  have a1 := (Z.row W (show zr hoPool = some 20 by decide +kernel) (by decide) tS (h1 hoPool (by decide))).1
  have a2 := (Z.row W (show zr hoStarts = some 20 by decide +kernel) (by decide) tE (h2 hoStarts (by decide))).1
  have a3 := (Z.row W (show zr hoPool = some 20 by decide +kernel) (by decide) tE (h2 hoPool (by decide))).1
  have a4 := (Z.row W (show zr atFirsts = some 20 by decide +kernel) (by decide) T (h atFirsts (by decide) (by decide))).1
  have a5 := (Z.row W (show zr atTotals = some 20 by decide +kernel) (by decide) T (h atTotals (by decide) (by decide))).1
  have a6 := (Z.row W (show zr atGains = some 20 by decide +kernel) (by decide) T (h atGains (by decide) (by decide))).1
  have a7 := (Z.row W (show zr atChooses = some 23 by decide +kernel) (by decide) T (h atChooses (by decide) (by decide))).1
  have a8 := (Z.row W (show zr atSorts = some 20 by decide +kernel) (by decide) T (h atSorts (by decide) (by decide))).1
  have a9 := (Z.row W (show zr atNumbers = some 20 by decide +kernel) (by decide) T (h atNumbers (by decide) (by decide))).1
  have a10 := (Z.row W (show zr atWeights = some 20 by decide +kernel) (by decide) T (h atWeights (by decide) (by decide))).1
  have a11 := (Z.row W (show zr atHopeless = some 23 by decide +kernel) (by decide) T (h atHopeless (by decide) (by decide))).1
  unfold av8
  rw [rS, rE, i0, i1, i2, i3, i4, a0, a1, a2, a3, a4, a5, a6, a7, a8, a9, a10, a11]
/-- a state's row, of both sides -/
def KS8 (w s d : Nat) (K q : Nat → Int32) : Prop := (0 < d ∧ d ≤ 12 ∧ w ≤ 34 ∧ q 0 = Int32.ofNat d) ∧ (∀ i, i < w → K i = q (1 + i)) ∧ (∀ c, c < d → K (w + 9 * c) = q (35 + 9 * c)) ∧ (∀ c k, c < d → k < 8 → K (w + 9 * c + 1 + k) = q (36 + 9 * c + k)) ∧ (∀ c, c < d → ∃ j, j < s ∧ K (w + 9 * c) = Int32.ofNat j)
theorem KS_68 {w s d : Nat} {r K q : Nat → Int32} (h : KS6 w s d r K q) : KS8 w s d K q := by
  obtain ⟨h1, h2, _, h4, h5, _, h7, h8⟩ := h
  refine ⟨h1, h2, h4, h5, fun c hc => ?_⟩
  by_cases e : c + 1 < d
  · obtain ⟨j, j1, j2, _⟩ := h7 c e
    exact ⟨j, j1, j2⟩
  · have e2 : c = d - 1 := by omega
    rw [e2]
    exact h8
/-- what was explored, of both sides -/
def AT8 (w s : Nat) (v : Av8) (σ : rS) : Prop := ∃ n m x : Nat, (σ.1 70 = Int32.ofNat n ∧ σ.1 71 = Int32.ofNat m ∧ σ.1 72 = Int32.ofNat x) ∧ (n ≤ 1000 ∧ m ≤ 1000 ∧ x ≤ 20000) ∧ (v.1 0 = Int32.ofNat n ∧ v.1 1 = Int32.ofNat m ∧ v.1 2 = Int32.ofNat x) ∧ (∀ g, g < n → ∃ d K, KS8 w s d K (fun i => σ.2.2.1 73 (143 * g + i)) ∧ hkM9 (v.2 0) (v.2 1) (n : Int) K (w + 9 * d : Nat) g) ∧ (∀ g, g < m → ∃ K, (∀ i, i < w → K i = σ.2.2.1 75 (35 * g + 1 + i)) ∧ K w = σ.2.2.1 75 (35 * g) ∧ hkM9 (v.2 2) (v.2 3) (m : Int) K (w + 1 : Nat) g) ∧ (∀ j, j < x → v.2 8 j = σ.2.2.1 77 j ∧ v.2 9 j = σ.2.2.1 78 j ∧ v.2 10 j = σ.2.2.1 79 j) ∧ (∀ j, j < n → v.2 4 j = σ.2.2.1 76 j ∧ v.2 5 j = σ.2.2.1 80 j ∧ v.2 6 j = σ.2.2.1 82 j ∧ v.2 7 j = σ.2.2.1 81 j) ∧ (0 < n → v.2 4 n = σ.2.2.1 76 n)
abbrev ke8 : List Nat := [69, 70, 71, 72, 88, 89, 104, 106, 107, 108, 109]
abbrev kd7 : List Nat := [69, 70, 71, 72, 88, 89]
abbrev ky7 : List Nat := [73, 74, 75, 76, 77, 78, 79, 80, 81, 82, 87]
abbrev kx7 : List Nat := [73, 74, 75, 76, 77, 78, 79, 80, 81, 82, 83, 87]
abbrev kt8 : List Nat := [73, 75, 76, 77, 78, 79, 80, 81, 82]
abbrev ky8 : List Nat := [73, 74, 75, 76, 77, 78, 79, 80, 81, 82, 87, 105, 111]
abbrev kx8 : List Nat := [73, 74, 75, 76, 77, 78, 79, 80, 81, 82, 83, 87, 105, 111]
def nM16 (σ τ : rS) : Prop := ∀ k, 15 ≤ k → k ≤ 18 → τ.2.2.1 91 k = σ.2.2.1 91 k ∧ ∀ i, i < 40000 → τ.2.2.1 90 (40000 * k + i) = σ.2.2.1 90 (40000 * k + i)
def kN16 (σ τ : rS) : Prop := (∀ g, g = 94 ∨ g = 103 ∨ g = 114 → τ.1 g = σ.1 g) ∧ (∀ g, g = 95 ∨ g = 102 ∨ g = 115 ∨ g = 116 → τ.2.2.1 g = σ.2.2.1 g) ∧ nM16 σ τ
theorem nM_r16 {σ τ : rS} (h90 : τ.2.2.1 90 = σ.2.2.1 90) (h91 : τ.2.2.1 91 = σ.2.2.1 91) : nM16 σ τ := fun k _ _ => ⟨by rw [h91], fun i _ => by rw [h90]⟩
theorem nM_K16 {σ τ : rS} (h : nK σ τ) : nM16 σ τ := fun k k0 _ => h k (by omega)
abbrev kf16 : List Nat := [94, 103, 114]
abbrev kh16 : List Nat := [95, 102, 115, 116]
theorem kN_f16 {σ τ : rS} (hf : ∀ k, k ∈ kf16 → τ.1 k = σ.1 k) (hr : ∀ k, k ∈ kh16 → τ.2.2.1 k = σ.2.2.1 k) (hn : nM16 σ τ) : kN16 σ τ := ⟨fun g q => hf g (by rcases q with q | q | q <;> rw [q] <;> decide), fun g q => hr g (by rcases q with q | q | q | q <;> rw [q] <;> decide), hn⟩
/-- the reference's tables stay -/
def kS8 (σ τ : rS) : Prop := (∀ g, g ∈ ke8 → τ.1 g = σ.1 g) ∧ (∀ g, g ∈ kx8 → τ.2.2.1 g = σ.2.2.1 g) ∧ τ.2.1 110 = σ.2.1 110 ∧ kN16 σ τ
/-- the same, the plan aside -/
def kT8 (σ τ : rS) : Prop := (∀ g, g ∈ ke8 → τ.1 g = σ.1 g) ∧ (∀ g, g ∈ ky8 → τ.2.2.1 g = σ.2.2.1 g) ∧ τ.2.1 110 = σ.2.1 110
theorem kS_t8 {σ τ : rS} (h : kS8 σ τ) : kT8 σ τ := ⟨h.1, fun g q => h.2.1 g ((by decide : ∀ g, g ∈ ky8 → g ∈ kx8) g q), h.2.2.1⟩
/-- the same, draws told aside -/
def kT7 (σ τ : rS) : Prop := (∀ g, g ∈ kd7 → τ.1 g = σ.1 g) ∧ (∀ g, g ∈ ky7 → τ.2.2.1 g = σ.2.2.1 g)
def kX7 (σ τ : rS) : Prop := (∀ g, g ∈ kd7 → τ.1 g = σ.1 g) ∧ (∀ g, g ∈ kx7 → τ.2.2.1 g = σ.2.2.1 g)
theorem kT_7 {σ τ : rS} (h : kT8 σ τ) : kT7 σ τ := ⟨fun g q => h.1 g ((by decide : ∀ g, g ∈ kd7 → g ∈ ke8) g q), fun g q => h.2.1 g ((by decide : ∀ g, g ∈ ky7 → g ∈ ky8) g q)⟩
theorem kX_7 {σ τ : rS} (h : kX7 σ τ) : kT7 σ τ := ⟨h.1, fun g q => h.2 g ((by decide : ∀ g, g ∈ ky7 → g ∈ kx7) g q)⟩
theorem AT_k8 {w s : Nat} {v : Av8} {σ τ : rS} (h : AT8 w s v σ) (f : ∀ g, g = 70 ∨ g = 71 ∨ g = 72 → τ.1 g = σ.1 g) (r : ∀ g, g ∈ kt8 → τ.2.2.1 g = σ.2.2.1 g) : AT8 w s v τ := by
  obtain ⟨n, m, x, ⟨a1, a2, a3⟩, a4, a5, a6, a7, a8, a9, a10⟩ := h
  refine ⟨n, m, x, ⟨by rw [f 70 (by decide)]; exact a1, by rw [f 71 (by decide)]; exact a2, by rw [f 72 (by decide)]; exact a3⟩, a4, a5, ?_, ?_, ?_, ?_, ?_⟩
  · rw [r 73 (by decide)]; exact a6
  · rw [r 75 (by decide)]; exact a7
  · rw [r 77 (by decide), r 78 (by decide), r 79 (by decide)]; exact a8
  · rw [r 76 (by decide), r 80 (by decide), r 82 (by decide), r 81 (by decide)]; exact a9
  · rw [r 76 (by decide)]; exact a10
/-- out of what exploring leaves -/
theorem AT_d8 {u s w l t : Nat} {κ : zS} {σ : rS} (h : DX6 u s w l κ t σ) (hw : w ≤ 34) : AT8 w s (av8 κ t) σ := by
  obtain ⟨n, e70, ⟨n2, m, x, SH, EH, ⟨f1, f2, f3, _⟩, ⟨b1, b2, b3⟩, _, en, ht⟩, B, f0⟩ := h
  have b9 : n2 ≤ 1000 := SH.2.2.1
  have le : n2 ≤ n := by
    refine Decidable.byContradiction (fun c => ?_)
    have q := congrArg Int32.toInt (f1.symm.trans e70)
    rw [ofn_i (by omega), ofn_i (by omega)] at q
    omega
  obtain ⟨_, s1, s2, s3⟩ := SH
  obtain ⟨_, e1, e2, e3⟩ := EH
  refine ⟨n2, m, x, ⟨f1, f2, f3⟩, ⟨by omega, e2, b3⟩, ⟨s1, e1, en⟩, fun g hg => ?_, fun g hg => ?_, ht, fun j hj => B j (by omega), fun q => ?_⟩
  · obtain ⟨d, K, k1, k2, _⟩ := s3 g hg
    have l9 := k1.1.2.1
    refine ⟨d, K, KS_68 k1, ?_⟩
    have z : hkM9 (zA κ (zR κ hoStarts (zR κ atStates t))) (zA κ (zR κ hoPool (zR κ atStates t))) ((zI κ hoTotal (zR κ atStates t)).toInt) K (Int32.ofNat (w + 9 * d)).toInt g := k2
    rw [s1, ofn_i (by omega), ofn_i (by omega)] at z
    exact z
  · obtain ⟨K, k1, _, k3, k4, _⟩ := e3 g hg
    refine ⟨K, k1, k3, ?_⟩
    have z : hkM9 (zA κ (zR κ hoStarts (zR κ atEndings t))) (zA κ (zR κ hoPool (zR κ atEndings t))) ((zI κ hoTotal (zR κ atEndings t)).toInt) K (Int32.ofNat (w + 1)).toInt g := k4
    rw [e1, ofn_i (by omega), ofn_i (by omega)] at z
    exact z
  · by_cases c : n2 = n
    · rw [c]; exact f0 (by omega)
    · exact (B n2 (by omega)).1
/-- which states are hopeless, of both sides -/
def HQ8 (v : Av8) (σ : rS) : Prop := ∀ k, k < (σ.1 70).toNatClampNeg → (v.2 11 k ≠ 0 ↔ σ.2.2.1 87 k ≠ 0)
theorem HQ_k8 {v : Av8} {σ τ : rS} (h : HQ8 v σ) (k : kT7 σ τ) : HQ8 v τ := by
  unfold HQ8
  rw [k.1 70 (by decide), k.2 87 (by decide)]
  exact h
theorem HQ_x8 {v : Av8} {σc σ : rS} (h : hC8 (v.2 11) σc) (g : hl8 σc σ (σc.1 70).toNatClampNeg) (e : σ.1 70 = σc.1 70) : HQ8 v σ := fun k hk => by
  rw [e] at hk
  rw [h k hk, g k hk]
/-- rings and the greatest of them, of both sides -/
def RQ8 (v : Av8) (σ : rS) : Prop := v.1 3 = σ.1 88 ∧ v.1 4 = σ.1 89
theorem RQ_k8 {v : Av8} {σ τ : rS} (h : RQ8 v σ) (k : kT7 σ τ) : RQ8 v τ := by
  unfold RQ8
  rw [k.1 88 (by decide), k.1 89 (by decide)]
  exact h
theorem RQ_x8 {v : Av8} {σc σ : rS} (h : rC8 (v.1 3) (v.1 4) σc) (g : rC8 (σ.1 88) (σ.1 89) σc) : RQ8 v σ := ⟨h.1.trans g.1.symm, h.2.trans g.2.symm⟩
theorem no_k8 {σ τ : rS} (h : no8 σ) (k : kT7 σ τ) : no8 τ := by
  unfold no8
  rw [k.1 70 (by decide), k.1 71 (by decide), k.1 72 (by decide)]
  exact h

end
section
set_option maxHeartbeats 1600000
/-! the reference: ending, next, value by what they answer -/
def ec8 (σ : rS) (k i : Int32) : Prop := σ.1 69 ≠ 0 ∧ (0 ≤ k ∧ k < σ.1 71) ∧ -1 ≤ i ∧ i < σ.1 15 + σ.1 17
def ev8 (σ : rS) (k i : Int32) : Int32 := σ.2.2.1 75 ((((35 : Int32) * k) + (1 : Int32)) + i).toNatClampNeg
def XE8 (k i : Int32) (σ σ' : rS) (v : Int32) : Prop := (ec8 σ k i ∧ σ'.1 0 = 0 ∧ v = ev8 σ k i) ∨ (¬ ec8 σ k i ∧ σ'.1 0 = 1)
def nc8 (σ : rS) (k i w : Int32) : Prop := (σ.1 69 ≠ 0 ∧ 0 ≤ k ∧ k < σ.1 70) ∧ (0 ≤ i ∧ i < σ.2.2.1 76 (k + (1 : Int32)).toNatClampNeg - σ.2.2.1 76 k.toNatClampNeg) ∧ 0 ≤ w ∧ w ≤ 2
def nv8 (σ : rS) (k i w : Int32) : Int32 := if w = 0 then σ.2.2.1 77 (σ.2.2.1 76 k.toNatClampNeg + i).toNatClampNeg else if w = 1 then σ.2.2.1 78 (σ.2.2.1 76 k.toNatClampNeg + i).toNatClampNeg else σ.2.2.1 79 (σ.2.2.1 76 k.toNatClampNeg + i).toNatClampNeg
def XN8 (k i w : Int32) (σ σ' : rS) (v : Int32) : Prop := (nc8 σ k i w ∧ σ'.1 0 = 0 ∧ v = nv8 σ k i w) ∨ (¬ nc8 σ k i w ∧ σ'.1 0 = 1)
def vb8 (σ : rS) (k c i : Int32) : Prop := (σ.1 69 ≠ 0 ∧ 0 ≤ k ∧ k < σ.1 70) ∧ 0 ≤ i ∧ -1 ≤ c
def vc8 (σ : rS) (k c i : Int32) : Prop := vb8 σ k c i ∧ ((c = -1 ∧ i < σ.1 15 + σ.1 17) ∨ (c ≠ -1 ∧ c < σ.2.2.1 73 ((143 : Int32) * k).toNatClampNeg ∧ i < σ.2.2.1 27 (σ.2.2.1 38 (σ.2.2.1 73 ((((143 : Int32) * k) + (35 : Int32)) + ((9 : Int32) * c)).toNatClampNeg).toNatClampNeg).toNatClampNeg))
def vv8 (σ : rS) (k c i : Int32) : Int32 := if c = -1 then σ.2.2.1 73 ((((143 : Int32) * k) + (1 : Int32)) + i).toNatClampNeg else σ.2.2.1 73 (((((143 : Int32) * k) + (36 : Int32)) + ((9 : Int32) * c)) + i).toNatClampNeg
def XV8 (k c i : Int32) (σ σ' : rS) (v : Int32) : Prop := (vc8 σ k c i ∧ σ'.1 0 = 0 ∧ v = vv8 σ k c i) ∨ (¬ vc8 σ k c i ∧ σ'.1 0 = 1)
theorem ending_g5 {C : rCx} (hC : cOK C)  {σ : rS} {a1 : Int32} {a2 : Int32} {Q : Int32 → rS → Prop} (hp : exP σ ∧ tyAll σ) (h : ∀ (v : Int32) (σ' : rS), ((frG [0] [] σ σ') ∧ (XE8 a1 a2 σ σ' v)) → Q v σ') : cI C 0 m_ending [.ref (co C), .int a1, .int a2] σ Q := by
  refine m_ending_run hC ?_
  unfold w_ending_0
  have hj43 : ∀ (l1 : Int32) (l2 : Int32) (s1 : Int32) (τ : rS), ((σ = τ ∧ l1 = a1 ∧ l2 = a2 ∧ (s1 ≤ 0 → 0 ≤ a1 ∧ a1 < 1000 ∧ -1 ≤ a2 ∧ a2 < 34)) ∧ ((s1 = 0 ∧ ec8 σ a1 a2) ∨ (s1 = 1 ∧ ¬ ec8 σ a1 a2))) → w_ending_43 C Q  l1 l2 s1 τ := by
    rintro y43_1 y43_2 y43_s1 _ ⟨⟨rfl, j43⟩, hE⟩
    unfold w_ending_43
    intro σ_1 hσ_1
    have e0 : σ_1.1 0 = y43_s1 := by rw [hσ_1, si1, if_pos rfl]
    obtain ⟨e1, e2, jw⟩ := j43
    refine ⟨fun c2 => ?_, fun c2 => ?_⟩
    · skip
      refine ⟨ib_35000.mpr ?_, ?_⟩
      · clear h; obtain ⟨w1, w2, w3, w4⟩ := jw (by rw [← e0]; exact c2)
        rw [e1, e2]; exact xe2 w1 w2 w3 w4
      refine h _ _ ?_
      · refine and_5 ?_ (fun o9 => ?_)  -- q2
        · clear h; rw [hσ_1]; exact frG_0 (by decide)
        · clear o9
          rcases hE with ⟨z1, z2⟩ | ⟨z1, z2⟩
          · exact Or.inl ⟨z2, e0.trans z1, by rw [hσ_1, si2, e1, e2]; rfl⟩
          · rw [e0, z1] at c2; exact absurd c2 (by decide)
    · skip
      refine h _ _ ?_
      · refine and_5 ?_ (fun o9 => ?_)  -- q3
        · clear h; rw [hσ_1]; exact frG_0 (by decide)
        · clear o9
          rcases hE with ⟨z1, z2⟩ | ⟨z1, z2⟩
          · exact absurd (by rw [e0, z1]; decide) c2
          · exact Or.inr ⟨z2, e0.trans z1⟩
  refine ⟨fun c3 => ?_, fun c3 => ?_⟩
  · skip
    refine hj43 _ _ _ _ ?_
    · refine and_5 ?_ (fun o9 => Or.inr ⟨rfl, fun z => z.1 c3⟩)  -- k4
      clear h; exact ⟨rfl, rfl, rfl, fun z => absurd z (by decide)⟩
  · skip
    refine ⟨fun c4 => ?_, fun c4 => ?_⟩
    · skip
      refine hj43 _ _ _ _ ?_
      · refine and_5 ?_ (fun o9 => Or.inr ⟨rfl, fun z => absurd c4 (Int32.not_lt.mpr z.2.1.1)⟩)  -- k5
        clear h; exact ⟨rfl, rfl, rfl, fun z => absurd z (by decide)⟩
    · skip
      refine ⟨fun c5 => ?_, fun c5 => ?_⟩
      · skip
        refine hj43 _ _ _ _ ?_
        · refine and_5 ?_ (fun o9 => Or.inr ⟨rfl, fun z => absurd z.2.1.2 (Int32.not_lt.mpr c5)⟩)  -- k6
          clear h; exact ⟨rfl, rfl, rfl, fun z => absurd z (by decide)⟩
      · skip
        refine ⟨fun c6 => ?_, fun c6 => ?_⟩
        · skip
          refine hj43 _ _ _ _ ?_
          · refine and_5 ?_ (fun o9 => Or.inr ⟨rfl, fun z => absurd c6 (Int32.not_lt.mpr z.2.2.1)⟩)  -- k7
            clear h; exact ⟨rfl, rfl, rfl, fun z => absurd z (by decide)⟩
        · skip
          refine ⟨fun c7 => ?_, fun c7 => ?_⟩
          · skip
            refine hj43 _ _ _ _ ?_
            · refine and_5 ?_ (fun o9 => Or.inl ⟨rfl, c3, ⟨Int32.not_lt.mp c4, Int32.not_le.mp c5⟩, Int32.not_lt.mp c6, c7⟩)  -- k8
              clear h; exact ⟨rfl, rfl, rfl, fun _ => ⟨Int32.not_lt.mp c4, Int32.lt_of_lt_of_le (Int32.not_le.mp c5) hp.1.1.2.1.2, Int32.not_lt.mp c6, Int32.lt_of_lt_of_le c7 (vc34 hp.2).2⟩⟩
          · skip
            refine hj43 _ _ _ _ ?_
            · refine and_5 ?_ (fun o9 => Or.inr ⟨rfl, fun z => c7 z.2.2.2⟩)  -- k9
              clear h; exact ⟨rfl, rfl, rfl, fun z => absurd z (by decide)⟩

theorem next_g5 {C : rCx} (hC : cOK C)  {σ : rS} {a1 : Int32} {a2 : Int32} {a3 : Int32} {Q : Int32 → rS → Prop} (hp : exP σ) (h : ∀ (v : Int32) (σ' : rS), ((frG [0] [] σ σ') ∧ (XN8 a1 a2 a3 σ σ' v)) → Q v σ') : cI C 1 m_next [.ref (co C), .int a1, .int a2, .int a3] σ Q := by
  refine m_next_run hC ?_
  unfold w_next_0
  have hj46 : ∀ (l1 : Int32) (l2 : Int32) (l3 : Int32) (s1 : Int32) (τ : rS), ((σ = τ ∧ l1 = a1 ∧ l2 = a2 ∧ l3 = a3 ∧ (s1 ≤ 0 → 0 ≤ a1 ∧ a1 < σ.1 70 ∧ 0 ≤ a2 ∧ a2 < rd σ 76 (a1 + 1) - rd σ 76 a1)) ∧ ((s1 = 0 ∧ nc8 σ a1 a2 a3) ∨ (s1 = 1 ∧ ¬ nc8 σ a1 a2 a3))) → w_next_46 C Q  l1 l2 l3 s1 τ := by
    rintro y46_1 y46_2 y46_3 y46_s1 _ ⟨⟨rfl, j46⟩, hE⟩
    unfold w_next_46
    intro σ_1 hσ_1
    have e0 : σ_1.1 0 = y46_s1 := by rw [hσ_1, si1, if_pos rfl]
    obtain ⟨e1, e2, e3, jw⟩ := j46
    refine ⟨fun c2 => ?_, fun c2 => ?_⟩
    · skip
      refine ⟨ib_1001.mpr ?_, ?_⟩
      · clear h; have w := jw (by rw [← e0]; exact c2)
        have k := k1001 w.1 (Int32.lt_of_lt_of_le w.2.1 hp.1.1.2)
        rw [e1]; exact ⟨w.1, k.2.2.1⟩
      intro x3 hx3
      have w := jw (by rw [← e0]; exact c2)
      have sn := st_ns hp.1 w.1 w.2.1
      have ni := nx_in sn.1 sn.2.1 sn.2.2 w.2.2.1 w.2.2.2
      have ex : x3 = rd σ 76 a1 + a2 := by rw [hx3, e1, e2, hσ_1, si2]
      have b : 0 ≤ x3 ∧ x3 < 20000 := by rw [ex]; exact ⟨ni.1, Int32.lt_of_lt_of_le ni.2 sn.2.2⟩
      refine ⟨fun c4 => ?_, fun c4 => ?_⟩
      · skip
        refine ⟨fun c5 => ?_, fun c5 => ?_⟩
        · skip
          refine ⟨ib_20000.mpr ?_, ?_⟩
          · clear h; exact b  -- b2
          refine h _ _ ?_
          · refine and_5 ?_ (fun o9 => ?_)  -- q3
            · clear h; rw [hσ_1]; exact frG_0 (by decide)
            · clear o9
              rcases hE with ⟨z1, z2⟩ | ⟨z1, z2⟩
              · exact Or.inl ⟨z2, e0.trans z1, by unfold nv8; rw [if_neg (by rw [← e3]; exact c4), if_neg (by rw [← e3]; exact c5), ex, hσ_1, si2]⟩
              · rw [e0, z1] at c2; exact absurd c2 (by decide)
        · skip
          refine ⟨ib_20000.mpr ?_, ?_⟩
          · clear h; exact b  -- b4
          refine h _ _ ?_
          · refine and_5 ?_ (fun o9 => ?_)  -- q5
            · clear h; rw [hσ_1]; exact frG_0 (by decide)
            · clear o9
              rcases hE with ⟨z1, z2⟩ | ⟨z1, z2⟩
              · exact Or.inl ⟨z2, e0.trans z1, by unfold nv8; rw [if_neg (by rw [← e3]; exact c4), if_pos (by rw [← e3]; exact c5), ex, hσ_1, si2]⟩
              · rw [e0, z1] at c2; exact absurd c2 (by decide)
      · skip
        refine ⟨ib_20000.mpr ?_, ?_⟩
        · clear h; exact b  -- b6
        refine h _ _ ?_
        · refine and_5 ?_ (fun o9 => ?_)  -- q7
          · clear h; rw [hσ_1]; exact frG_0 (by decide)
          · clear o9
            rcases hE with ⟨z1, z2⟩ | ⟨z1, z2⟩
            · exact Or.inl ⟨z2, e0.trans z1, by unfold nv8; rw [if_pos (by rw [← e3]; exact c4), ex, hσ_1, si2]⟩
            · rw [e0, z1] at c2; exact absurd c2 (by decide)
    · skip
      refine h _ _ ?_
      · refine and_5 ?_ (fun o9 => ?_)  -- q8
        · clear h; rw [hσ_1]; exact frG_0 (by decide)
        · clear o9
          rcases hE with ⟨z1, z2⟩ | ⟨z1, z2⟩
          · exact absurd (by rw [e0, z1]; decide) c2
          · exact Or.inr ⟨z2, e0.trans z1⟩
  refine isState_c hC  (fun r6 q8 => ?_)
  refine ⟨fun c9 => ?_, fun c9 => ?_⟩
  · skip
    refine hj46 _ _ _ _ _ ?_
    · refine and_5 ?_ (fun o9 => Or.inr ⟨rfl, fun z => q8.2.mpr z.1 c9⟩)  -- k9
      clear h; exact ⟨rfl, rfl, rfl, rfl, fun z => absurd z (by decide)⟩
  · skip
    refine ⟨fun c10 => ?_, fun c10 => ?_⟩
    · skip
      refine hj46 _ _ _ _ _ ?_
      · refine and_5 ?_ (fun o9 => Or.inr ⟨rfl, fun z => absurd c10 (Int32.not_lt.mpr z.2.1.1)⟩)  -- k10
        clear h; exact ⟨rfl, rfl, rfl, rfl, fun z => absurd z (by decide)⟩
    · skip
      have w := q8.2.mp c9
      have k := k1001 w.2.1 (Int32.lt_of_lt_of_le w.2.2 hp.1.1.2)
      refine ⟨ib_1001.mpr ?_, ?_⟩
      · clear h; exact ⟨k.1, k.2.1⟩  -- b11
      refine ⟨ib_1001.mpr ?_, ?_⟩
      · clear h; exact ⟨w.2.1, k.2.2.1⟩  -- b12
      refine ⟨fun c11 => ?_, fun c11 => ?_⟩
      · skip
        refine hj46 _ _ _ _ _ ?_
        · refine and_5 ?_ (fun o9 => Or.inr ⟨rfl, fun z => absurd z.2.1.2 (Int32.not_lt.mpr c11)⟩)  -- k13
          clear h; exact ⟨rfl, rfl, rfl, rfl, fun z => absurd z (by decide)⟩
      · skip
        refine within_c hC  (fun r12 q14 => ?_)
        refine ⟨fun c15 => ?_, fun c15 => ?_⟩
        · skip
          refine hj46 _ _ _ _ _ ?_
          · refine and_5 ?_ (fun o9 => Or.inl ⟨rfl, q8.2.mp c9, ⟨Int32.not_lt.mp c10, Int32.not_le.mp c11⟩, q14.2.mp c15⟩)  -- k14
            clear h; exact ⟨rfl, rfl, rfl, rfl, fun _ => ⟨w.2.1, w.2.2, Int32.not_lt.mp c10, Int32.not_le.mp c11⟩⟩
        · skip
          refine hj46 _ _ _ _ _ ?_
          · refine and_5 ?_ (fun o9 => Or.inr ⟨rfl, fun z => q14.2.mpr z.2.2 c15⟩)  -- k15
            clear h; exact ⟨rfl, rfl, rfl, rfl, fun z => absurd z (by decide)⟩

theorem value_g5 {C : rCx} (hC : cOK C)  {σ : rS} {a1 : Int32} {a2 : Int32} {a3 : Int32} {Q : Int32 → rS → Prop} (hp : exP σ ∧ tyAll σ) (h : ∀ (v : Int32) (σ' : rS), ((frG [0] [] σ σ') ∧ (XV8 a1 a2 a3 σ σ' v)) → Q v σ') : cI C 1 m_value [.ref (co C), .int a1, .int a2, .int a3] σ Q := by
  refine m_value_run hC ?_
  unfold w_value_0
  have hj126 : ∀ (l1 : Int32) (l2 : Int32) (l3 : Int32) (s1 : Int32) (τ : rS), ((σ = τ ∧ l1 = a1 ∧ l2 = a2 ∧ l3 = a3 ∧ (s1 ≤ 0 → 0 ≤ a1 ∧ a1 < σ.1 70 ∧ 0 ≤ a3 ∧ ((a2 = -1 ∧ a3 < 34) ∨ (0 ≤ a2 ∧ a2 < 12 ∧ a3 < 8)))) ∧ ((s1 = 0 ∧ vc8 σ a1 a2 a3) ∨ (s1 = 1 ∧ ¬ vc8 σ a1 a2 a3))) → w_value_126 C Q  l1 l2 l3 s1 τ := by
    rintro y126_1 y126_2 y126_3 y126_s1 _ ⟨⟨rfl, j126⟩, hE⟩
    unfold w_value_126
    intro σ_1 hσ_1
    have e0 : σ_1.1 0 = y126_s1 := by rw [hσ_1, si1, if_pos rfl]
    obtain ⟨e1, e2, e3, jw⟩ := j126
    refine ⟨fun c2 => ?_, fun c2 => ?_⟩
    · skip
      refine ⟨fun c3 => ?_, fun c3 => ?_⟩
      · skip
        refine ⟨ib_143000.mpr ?_, ?_⟩
        · clear h; obtain ⟨w1, w2, w3, w4⟩ := jw (by rw [← e0]; exact c2)
          rw [e2] at c3
          rw [e1, e2, e3]
          rcases w4 with z | z
          · exact absurd z.1 c3
          · exact (xr9 w1 (Int32.lt_of_lt_of_le w2 hp.1.1.1.2) z.1 z.2.1 w3 z.2.2).1
        refine h _ _ ?_
        · refine and_5 ?_ (fun o9 => ?_)  -- q2
          · clear h; rw [hσ_1]; exact frG_0 (by decide)
          · clear o9
            rcases hE with ⟨z1, z2⟩ | ⟨z1, z2⟩
            · exact Or.inl ⟨z2, e0.trans z1, by unfold vv8; rw [if_neg (by rw [← e2]; exact c3), hσ_1, si2, e1, e2, e3]⟩
            · rw [e0, z1] at c2; exact absurd c2 (by decide)
      · skip
        refine ⟨ib_143000.mpr ?_, ?_⟩
        · clear h; obtain ⟨w1, w2, w3, w4⟩ := jw (by rw [← e0]; exact c2)
          rw [e2] at c3
          rw [e1, e3]
          rcases w4 with z | z
          · exact xr1 w1 (Int32.lt_of_lt_of_le w2 hp.1.1.1.2) w3 z.2
          · rw [c3] at z; exact absurd z.1 (by decide)
        refine h _ _ ?_
        · refine and_5 ?_ (fun o9 => ?_)  -- q4
          · clear h; rw [hσ_1]; exact frG_0 (by decide)
          · clear o9
            rcases hE with ⟨z1, z2⟩ | ⟨z1, z2⟩
            · exact Or.inl ⟨z2, e0.trans z1, by unfold vv8; rw [if_pos (by rw [← e2]; exact c3), hσ_1, si2, e1, e3]⟩
            · rw [e0, z1] at c2; exact absurd c2 (by decide)
    · skip
      refine h _ _ ?_
      · refine and_5 ?_ (fun o9 => ?_)  -- q5
        · clear h; rw [hσ_1]; exact frG_0 (by decide)
        · clear o9
          rcases hE with ⟨z1, z2⟩ | ⟨z1, z2⟩
          · exact absurd (by rw [e0, z1]; decide) c2
          · exact Or.inr ⟨z2, e0.trans z1⟩
  have hj115 : ∀ (l1 : Int32) (l2 : Int32) (l3 : Int32) (l4 : Int32) (τ : rS), ((σ = τ ∧ l1 = a1 ∧ l2 = a2 ∧ l3 = a3 ∧ (l4 ≠ 0 → 0 ≤ a1 ∧ a1 < σ.1 70 ∧ 0 ≤ a3 ∧ ((a2 = -1 ∧ a3 < 34) ∨ (0 ≤ a2 ∧ a2 < 12 ∧ a3 < 8)))) ∧ ((l4 = 0 ∧ ¬ vc8 σ a1 a2 a3) ∨ (¬ l4 = 0 ∧ vc8 σ a1 a2 a3))) → w_value_115 C Q  l1 l2 l3 l4 τ := by
    rintro y115_1 y115_2 y115_3 y115_4 _ ⟨⟨rfl, j115⟩, hE⟩
    unfold w_value_115
    obtain ⟨e1, e2, e3, jw⟩ := j115
    refine ⟨fun c4 => ?_, fun c4 => ?_⟩
    · skip
      refine hj126 _ _ _ _ _ ?_
      · refine and_5 ?_ (fun o9 => Or.inr ⟨rfl, hE.elim (fun z => z.2) (fun z => absurd c4 z.1)⟩)  -- k6
        clear h; exact ⟨rfl, e1, e2, e3, fun z => absurd z (by decide)⟩
    · skip
      refine hj126 _ _ _ _ _ ?_
      · refine and_5 ?_ (fun o9 => Or.inl ⟨rfl, hE.elim (fun z => absurd z.1 c4) (fun z => z.2)⟩)  -- k7
        clear h; exact ⟨rfl, e1, e2, e3, fun _ => jw c4⟩
  have hj57 : ∀ (l1 : Int32) (l2 : Int32) (l3 : Int32) (l4 : Int32) (τ : rS), ((σ = τ ∧ l1 = a1 ∧ l2 = a2 ∧ l3 = a3 ∧ (l4 ≠ 0 → 0 ≤ a1 ∧ a1 < σ.1 70 ∧ 0 ≤ a3 ∧ 0 ≤ a2)) ∧ ((l4 = 0 ∧ ¬ vc8 σ a1 a2 a3) ∨ (¬ l4 = 0 ∧ vb8 σ a1 a2 a3 ∧ ¬ a2 = -1))) → w_value_57 C Q  l1 l2 l3 l4 τ := by
    rintro y57_1 y57_2 y57_3 y57_4 _ ⟨⟨rfl, j57⟩, hE⟩
    unfold w_value_57
    obtain ⟨e1, e2, e3, jw⟩ := j57
    refine ⟨fun c5 => ?_, fun c5 => ?_⟩
    · skip
      refine hj115 _ _ _ _ _ ?_
      · refine and_5 ?_ (fun o9 => Or.inl ⟨c5, hE.elim (fun z => z.2) (fun z => absurd c5 z.1)⟩)  -- k8
        clear h; exact ⟨rfl, e1, e2, e3, fun z => absurd c5 z⟩
    · skip
      obtain ⟨w1, w2, w3, w4⟩ := jw c5
      have k1 := Int32.lt_of_lt_of_le w2 hp.1.1.1.2
      obtain ⟨r1, r2, r3⟩ := hp.1.2.1 a1 w1 w2
      refine ⟨ib_143000.mpr ?_, ?_⟩
      · clear h; rw [e1]; exact (xr w1 k1 (Int32.le_refl 0) (by decide)).2  -- b9
      refine ⟨fun c6 => ?_, fun c6 => ?_⟩
      · skip
        refine hj115 _ _ _ _ _ ?_
        · refine and_5 ?_ (fun o9 => ?_)  -- k10
          · clear h; exact ⟨rfl, e1, e2, e3, fun z => absurd rfl z⟩
          · clear o9
            rcases hE with z | z
            · exact absurd z.1 c5
            · refine Or.inl ⟨rfl, fun y => ?_⟩
              rcases y.2 with q | q
              · exact z.2.2 q.1
              · rw [e1, e2] at c6
                exact absurd q.2.1 (Int32.not_lt.mpr c6)
      · skip
        rw [e1, e2] at c6
        have c12 : a2 < 12 := Int32.lt_of_lt_of_le (Int32.not_le.mp c6) r2
        have at_ := r3 a2 w4 (Int32.not_le.mp c6)
        refine ⟨ib_143000.mpr ?_, ?_⟩
        · clear h; rw [e1, e2]; exact (xr9 w1 k1 w4 c12 (Int32.le_refl 0) (by decide)).2  -- b11
        refine ⟨ib_150.mpr ?_, ?_⟩
        · clear h; rw [e1, e2]; exact at_  -- b12
        refine ⟨ib_10.mpr ?_, ?_⟩
        · clear h; exact hp.2.2.2.2.1.2.2.2.2.2.1 _  -- b13
        refine ⟨fun c7 => ?_, fun c7 => ?_⟩
        · skip
          refine hj115 _ _ _ _ _ ?_
          · refine and_5 ?_ (fun o9 => ?_)  -- k14
            · clear h; exact ⟨rfl, e1, e2, e3, fun z => absurd rfl z⟩
            · clear o9
              rcases hE with z | z
              · exact absurd z.1 c5
              · refine Or.inl ⟨rfl, fun y => ?_⟩
                rcases y.2 with q | q
                · exact z.2.2 q.1
                · rw [e1, e2, e3] at c7
                  exact absurd q.2.2 (Int32.not_lt.mpr c7)
        · skip
          refine hj115 _ _ _ _ _ ?_
          · refine and_5 ?_ (fun o9 => ?_)  -- k15
            · clear h; rw [e3] at c7
              exact ⟨rfl, e1, e2, e3, fun _ => ⟨w1, w2, w3, Or.inr ⟨w4, c12, lt_89 c7 (hp.2.2.1.2.2.2.2.2 _).2⟩⟩⟩
            · clear o9
              rcases hE with z | z
              · exact absurd z.1 c5
              · refine Or.inr ⟨by decide, z.2.1, Or.inr ⟨z.2.2, Int32.not_le.mp c6, ?_⟩⟩
                rw [e1, e2, e3] at c7
                exact Int32.not_le.mp c7
  have hj22 : ∀ (l1 : Int32) (l2 : Int32) (l3 : Int32) (s0 : Int32) (τ : rS), ((σ = τ ∧ l1 = a1 ∧ l2 = a2 ∧ l3 = a3 ∧ nb s0 ∧ (s0 ≠ 0 → 0 ≤ a1 ∧ a1 < σ.1 70 ∧ 0 ≤ a3 ∧ -1 ≤ a2)) ∧ ((s0 = 0 ∧ ¬ vb8 σ a1 a2 a3) ∨ (¬ s0 = 0 ∧ vb8 σ a1 a2 a3))) → w_value_22 C Q  l1 l2 l3 s0 τ := by
    rintro y22_1 y22_2 y22_3 y22_s0 _ ⟨⟨rfl, j22⟩, hE⟩
    unfold w_value_22
    obtain ⟨e1, e2, e3, jn, jw⟩ := j22
    refine ⟨fun c8 => ?_, fun c8 => ?_⟩
    · skip
      refine hj57 _ _ _ _ _ ?_
      · refine and_5 ?_ (fun o9 => Or.inl ⟨c8, hE.elim (fun z y => z.2 y.1) (fun z => absurd c8 z.1)⟩)  -- k16
        clear h; exact ⟨rfl, e1, e2, e3, fun z => absurd c8 z⟩
    · skip
      refine ⟨fun c9 => ?_, fun c9 => ?_⟩
      · skip
        refine hj57 _ _ _ _ _ ?_
        · refine and_5 ?_ (fun o9 => Or.inr ⟨c8, hE.elim (fun z => absurd z.1 c8) (fun z => z.2), by rw [← e2]; exact c9⟩)  -- k17
          clear h; obtain ⟨w1, w2, w3, w4⟩ := jw c8
          rw [e2] at c9
          exact ⟨rfl, e1, e2, e3, fun _ => ⟨w1, w2, w3, m1_0 w4 c9⟩⟩
      · skip
        refine ⟨fun c10 => ?_, fun c10 => ?_⟩
        · skip
          refine hj115 _ _ _ _ _ ?_
          · refine and_5 ?_ (fun o9 => ?_)  -- k18
            · clear h; exact ⟨rfl, e1, e2, e3, fun z => absurd rfl z⟩
            · clear o9
              rcases hE with z | z
              · exact absurd z.1 c8
              · refine Or.inl ⟨rfl, fun y => ?_⟩
                rcases y.2 with q | q
                · rw [e3] at c10
                  exact absurd q.2 (Int32.not_lt.mpr c10)
                · exact q.1 (e2.symm.trans c9)
        · skip
          refine hj115 _ _ _ _ _ ?_
          · refine and_5 ?_ (fun o9 => ?_)  -- k19
            · clear h; obtain ⟨w1, w2, w3, w4⟩ := jw c8
              rw [e2] at c9
              rw [e3] at c10
              exact ⟨rfl, e1, e2, e3, fun _ => ⟨w1, w2, w3, Or.inl ⟨c9, Int32.lt_of_lt_of_le (Int32.not_le.mp c10) (vc34 hp.2).2⟩⟩⟩
            · clear o9
              rcases hE with z | z
              · exact absurd z.1 c8
              · refine Or.inr ⟨by decide, z.2, Or.inl ⟨e2.symm.trans c9, ?_⟩⟩
                rw [e3] at c10
                exact Int32.not_le.mp c10
  refine isState_c hC  (fun r11 q13 => ?_)
  refine ⟨fun c14 => ?_, fun c14 => ?_⟩
  · skip
    refine hj22 _ _ _ _ _ ?_
    · refine and_5 ?_ (fun o9 => Or.inl ⟨rfl, fun y => q13.2.mpr y.1 c14⟩)  -- k20
      clear h; exact ⟨rfl, rfl, rfl, rfl, nb_0, fun z => absurd rfl z⟩
  · skip
    refine ⟨fun c15 => ?_, fun c15 => ?_⟩
    · skip
      refine hj22 _ _ _ _ _ ?_
      · refine and_5 ?_ (fun o9 => Or.inl ⟨rfl, fun y => absurd c15 (Int32.not_lt.mpr y.2.1)⟩)  -- k21
        clear h; exact ⟨rfl, rfl, rfl, rfl, nb_0, fun z => absurd rfl z⟩
    · skip
      refine ⟨fun c16 => ?_, fun c16 => ?_⟩
      · skip
        refine hj22 _ _ _ _ _ ?_
        · refine and_5 ?_ (fun o9 => Or.inl ⟨rfl, fun y => absurd c16 (Int32.not_lt.mpr y.2.2)⟩)  -- k22
          clear h; exact ⟨rfl, rfl, rfl, rfl, nb_0, fun z => absurd rfl z⟩
      · skip
        refine hj22 _ _ _ _ _ ?_
        · refine and_5 ?_ (fun o9 => Or.inr ⟨by decide, q13.2.mp c14, Int32.not_lt.mp c15, Int32.not_lt.mp c16⟩)  -- k23
          clear h; exact ⟨rfl, rfl, rfl, rfl, nb_1, fun _ => ⟨(q13.2.mp c14).2.1, (q13.2.mp c14).2.2, Int32.not_lt.mp c15, Int32.not_lt.mp c16⟩⟩

end
section
set_option maxHeartbeats 1600000
/-! the reference: state by what it answers -/
def sc8 (σ : rS) (k w : Int32) : Prop := (σ.1 69 ≠ 0 ∧ 0 ≤ k ∧ k < σ.1 70) ∧ 0 ≤ w ∧ w ≤ 5
def sl8 (σ : rS) (k : Int32) : Int32 := σ.2.2.1 73 (((((143 : Int32) * k) + (35 : Int32)) + ((9 : Int32) * ((σ.2.2.1 73 (((143 : Int32) * k)).toNatClampNeg) - (1 : Int32))))).toNatClampNeg
def sv8 (σ : rS) (k w : Int32) : Int32 := if w.toInt = 0 then sl8 σ k else if w.toInt = 1 then σ.2.2.1 73 ((143 : Int32) * k).toNatClampNeg else if w.toInt = 2 then σ.2.2.1 76 (k + (1 : Int32)).toNatClampNeg - σ.2.2.1 76 k.toNatClampNeg else if w.toInt = 3 then (if σ.2.2.1 81 k.toNatClampNeg = 0 then 0 else 1) else if w.toInt = 4 then (if σ.2.2.1 87 k.toNatClampNeg = 0 then 0 else 1) else σ.2.2.1 80 k.toNatClampNeg
def XT8 (k w : Int32) (σ σ' : rS) (v : Int32) : Prop := (sc8 σ k w ∧ σ'.1 0 = 0 ∧ v = sv8 σ k w) ∨ (¬ sc8 σ k w ∧ σ'.1 0 = 1)
theorem latestAt_g5 {C : rCx} (hC : cOK C)  {σ : rS} {a1 : Int32} {Q : Int32 → rS → Prop} (hp : 0 ≤ a1 ∧ a1 < 1000 ∧ rowR σ a1) (h : ∀ (v : Int32), ((0 ≤ v ∧ v < 150) ∧ (v = sl8 σ a1)) → Q v σ) : cI C 0 m_latestAt [.ref (co C), .int a1] σ Q := by
  refine m_latestAt_run hC ?_
  unfold w_latestAt_0
  obtain ⟨h0, h1, r1, r2, r3⟩ := hp
  have m := c_m1 r1 r2
  have d := c_d1 r1 r2
  refine ⟨ib_143000.mpr ?_, ?_⟩
  · clear h; exact (xr h0 h1 (Int32.le_refl 0) (by decide)).2  -- b1
  refine ⟨ib_143000.mpr ?_, ?_⟩
  · clear h; exact (xr9 h0 h1 m.1 m.2 (Int32.le_refl 0) (by decide)).2  -- b2
  refine h _ ?_
  · refine and_5 ?_ (fun o9 => rfl)  -- q3
    clear h; exact r3 _ m.1 d

theorem state_g5 {C : rCx} (hC : cOK C)  {σ : rS} {a1 : Int32} {a2 : Int32} {Q : Int32 → rS → Prop} (hp : exP σ) (h : ∀ (v : Int32) (σ' : rS), ((frG [0] [] σ σ') ∧ (XT8 a1 a2 σ σ' v)) → Q v σ') : cI C 1 m_state [.ref (co C), .int a1, .int a2] σ Q := by
  refine m_state_run hC ?_
  unfold w_state_0
  have hj23 : ∀ (l1 : Int32) (l2 : Int32) (s1 : Int32) (τ : rS), ((σ = τ ∧ l1 = a1 ∧ l2 = a2 ∧ (s1 ≤ 0 → 0 ≤ a1 ∧ a1 < σ.1 70)) ∧ ((s1 = 0 ∧ sc8 σ a1 a2) ∨ (s1 = 1 ∧ ¬ sc8 σ a1 a2))) → w_state_23 C Q  l1 l2 s1 τ := by
    rintro y23_1 y23_2 y23_s1 _ ⟨⟨rfl, j23⟩, hE⟩
    unfold w_state_23
    intro σ_1 hσ_1
    have e0 : σ_1.1 0 = y23_s1 := by rw [hσ_1, si1, if_pos rfl]
    obtain ⟨e1, e2, jw⟩ := j23
    refine ⟨fun c2 => ?_, fun c2 => ?_⟩
    · skip
      refine ⟨fun c3 => ?_, fun c3 => ?_, fun c3 => ?_, fun c3 => ?_, fun c3 => ?_, fun c3 => ?_⟩
      · skip
        refine ⟨ib_1000.mpr ?_, ?_⟩
        · clear h; have w := jw (by rw [← e0]; exact c2)
          rw [e1]; exact ⟨w.1, Int32.lt_of_lt_of_le w.2 hp.1.1.2⟩
        refine h _ _ ?_
        · refine and_5 ?_ (fun o9 => ?_)  -- q2
          · clear h; rw [hσ_1]; exact frG_0 (by decide)
          · clear o9
            rcases hE with ⟨z1, z2⟩ | ⟨z1, z2⟩
            · rw [e2] at c3
              refine Or.inl ⟨z2, e0.trans z1, ?_⟩
              unfold sv8
              rw [if_neg (by omega), if_neg (by omega), if_neg (by omega), if_neg (by omega), if_neg (by omega), hσ_1, si2, e1]
            · rw [e0, z1] at c2; exact absurd c2 (by decide)
      · skip
        refine latestAt_g5 hC  ?_ (fun r4 q6 => ?_)
        · clear h; have w := jw (by rw [← e0]; exact c2)
          have r := hp.2.1 a1 w.1 w.2
          rw [e1, hσ_1]; exact ⟨w.1, Int32.lt_of_lt_of_le w.2 hp.1.1.2, r⟩
        obtain ⟨q6, z9⟩ := q6
        refine h _ _ ?_
        · refine and_5 ?_ (fun o9 => ?_)  -- q4
          · clear h; rw [hσ_1]; exact frG_0 (by decide)
          · clear o9
            rcases hE with ⟨z1, z2⟩ | ⟨z1, z2⟩
            · rw [e2] at c3
              refine Or.inl ⟨z2, e0.trans z1, ?_⟩
              unfold sv8
              rw [if_pos c3, z9]
              unfold sl8
              rw [hσ_1, si2, e1]
            · rw [e0, z1] at c2; exact absurd c2 (by decide)
      · skip
        refine ⟨ib_143000.mpr ?_, ?_⟩
        · clear h; have w := jw (by rw [← e0]; exact c2)
          rw [e1]; exact (xr w.1 (Int32.lt_of_lt_of_le w.2 hp.1.1.2) (Int32.le_refl 0) (by decide)).2
        refine h _ _ ?_
        · refine and_5 ?_ (fun o9 => ?_)  -- q6
          · clear h; rw [hσ_1]; exact frG_0 (by decide)
          · clear o9
            rcases hE with ⟨z1, z2⟩ | ⟨z1, z2⟩
            · rw [e2] at c3
              refine Or.inl ⟨z2, e0.trans z1, ?_⟩
              unfold sv8
              rw [if_neg (by omega), if_pos c3, hσ_1, si2, e1]
            · rw [e0, z1] at c2; exact absurd c2 (by decide)
      · skip
        refine ⟨ib_1001.mpr ?_, ?_⟩
        · clear h; have w := jw (by rw [← e0]; exact c2)
          have k := k1001 w.1 (Int32.lt_of_lt_of_le w.2 hp.1.1.2)
          rw [e1]; exact ⟨k.1, k.2.1⟩
        refine ⟨ib_1001.mpr ?_, ?_⟩
        · clear h; have w := jw (by rw [← e0]; exact c2)
          have k := k1001 w.1 (Int32.lt_of_lt_of_le w.2 hp.1.1.2)
          rw [e1]; exact ⟨w.1, k.2.2.1⟩
        refine h _ _ ?_
        · refine and_5 ?_ (fun o9 => ?_)  -- q9
          · clear h; rw [hσ_1]; exact frG_0 (by decide)
          · clear o9
            rcases hE with ⟨z1, z2⟩ | ⟨z1, z2⟩
            · rw [e2] at c3
              refine Or.inl ⟨z2, e0.trans z1, ?_⟩
              unfold sv8
              rw [if_neg (by omega), if_neg (by omega), if_pos c3, hσ_1, si2, e1]
            · rw [e0, z1] at c2; exact absurd c2 (by decide)
      · skip
        refine ⟨ib_1000.mpr ?_, ?_⟩
        · clear h; have w := jw (by rw [← e0]; exact c2)
          rw [e1]; exact ⟨w.1, Int32.lt_of_lt_of_le w.2 hp.1.1.2⟩
        refine ⟨fun c7 => ?_, fun c7 => ?_⟩
        · skip
          refine h _ _ ?_
          · refine and_5 ?_ (fun o9 => ?_)  -- q11
            · clear h; rw [hσ_1]; exact frG_0 (by decide)
            · clear o9
              rcases hE with ⟨z1, z2⟩ | ⟨z1, z2⟩
              · rw [e2] at c3
                refine Or.inl ⟨z2, e0.trans z1, ?_⟩
                unfold sv8
                rw [hσ_1, si2, e1] at c7
                rw [if_neg (by omega), if_neg (by omega), if_neg (by omega), if_pos c3, if_pos c7]
              · rw [e0, z1] at c2; exact absurd c2 (by decide)
        · skip
          refine h _ _ ?_
          · refine and_5 ?_ (fun o9 => ?_)  -- q12
            · clear h; rw [hσ_1]; exact frG_0 (by decide)
            · clear o9
              rcases hE with ⟨z1, z2⟩ | ⟨z1, z2⟩
              · rw [e2] at c3
                refine Or.inl ⟨z2, e0.trans z1, ?_⟩
                unfold sv8
                rw [hσ_1, si2, e1] at c7
                rw [if_neg (by omega), if_neg (by omega), if_neg (by omega), if_pos c3, if_neg c7]
              · rw [e0, z1] at c2; exact absurd c2 (by decide)
      · skip
        refine ⟨ib_1000.mpr ?_, ?_⟩
        · clear h; have w := jw (by rw [← e0]; exact c2)
          rw [e1]; exact ⟨w.1, Int32.lt_of_lt_of_le w.2 hp.1.1.2⟩
        refine ⟨fun c8 => ?_, fun c8 => ?_⟩
        · skip
          refine h _ _ ?_
          · refine and_5 ?_ (fun o9 => ?_)  -- q14
            · clear h; rw [hσ_1]; exact frG_0 (by decide)
            · clear o9
              rcases hE with ⟨z1, z2⟩ | ⟨z1, z2⟩
              · rw [e2] at c3
                refine Or.inl ⟨z2, e0.trans z1, ?_⟩
                unfold sv8
                rw [hσ_1, si2, e1] at c8
                rw [if_neg (by omega), if_neg (by omega), if_neg (by omega), if_neg (by omega), if_pos c3, if_pos c8]
              · rw [e0, z1] at c2; exact absurd c2 (by decide)
        · skip
          refine h _ _ ?_
          · refine and_5 ?_ (fun o9 => ?_)  -- q15
            · clear h; rw [hσ_1]; exact frG_0 (by decide)
            · clear o9
              rcases hE with ⟨z1, z2⟩ | ⟨z1, z2⟩
              · rw [e2] at c3
                refine Or.inl ⟨z2, e0.trans z1, ?_⟩
                unfold sv8
                rw [hσ_1, si2, e1] at c8
                rw [if_neg (by omega), if_neg (by omega), if_neg (by omega), if_neg (by omega), if_pos c3, if_neg c8]
              · rw [e0, z1] at c2; exact absurd c2 (by decide)
    · skip
      refine h _ _ ?_
      · refine and_5 ?_ (fun o9 => ?_)  -- q16
        · clear h; rw [hσ_1]; exact frG_0 (by decide)
        · clear o9
          rcases hE with ⟨z1, z2⟩ | ⟨z1, z2⟩
          · exact absurd (by rw [e0, z1]; decide) c2
          · exact Or.inr ⟨z2, e0.trans z1⟩
  refine isState_c hC  (fun r9 q11 => ?_)
  refine ⟨fun c12 => ?_, fun c12 => ?_⟩
  · skip
    refine hj23 _ _ _ _ ?_
    · refine and_5 ?_ (fun o9 => Or.inr ⟨rfl, fun z => q11.2.mpr z.1 c12⟩)  -- k17
      clear h; exact ⟨rfl, rfl, rfl, fun z => absurd z (by decide)⟩
  · skip
    refine within_c hC  (fun r13 q15 => ?_)
    refine ⟨fun c16 => ?_, fun c16 => ?_⟩
    · skip
      refine hj23 _ _ _ _ ?_
      · refine and_5 ?_ (fun o9 => Or.inl ⟨rfl, q11.2.mp c12, q15.2.mp c16⟩)  -- k18
        clear h; exact ⟨rfl, rfl, rfl, fun _ => (q11.2.mp c12).2⟩
    · skip
      refine hj23 _ _ _ _ ?_
      · refine and_5 ?_ (fun o9 => Or.inr ⟨rfl, fun z => q15.2.mpr z.2 c16⟩)  -- k19
        clear h; exact ⟨rfl, rfl, rfl, fun z => absurd z (by decide)⟩

end
