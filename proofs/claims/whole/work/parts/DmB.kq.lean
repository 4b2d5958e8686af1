section
set_option maxHeartbeats 1600000
/-! what stands of a fault stays (written by wip/p5/m/mkKQ.py) -/
def kq5 (s σ : rS) : Prop := s.1 11 ≠ 0 → σ.1 11 = s.1 11 ∧ σ.1 12 = s.1 12
theorem kq_rf {s : rS} : kq5 s s := fun _ => ⟨rfl, rfl⟩
theorem kq_si {s σ : rS} {k : Nat} {x : Int32} (h1 : ¬ 11 = k) (h2 : ¬ 12 = k) (h : kq5 s σ) : kq5 s (siU σ k x) := fun z => by
  rw [si1, si1, if_neg h1, if_neg h2]
  exact h z
theorem kq_ri {s σ : rS} {k i : Nat} {x : Int32} (h : kq5 s σ) : kq5 s (riU σ k i x) := h
theorem kq_if {s a b : rS} {c : Prop} [Decidable c] (ha : kq5 s a) (hb : kq5 s b) : kq5 s (if c then a else b) := by
  by_cases h : c
  · rw [if_pos h]; exact ha
  · rw [if_neg h]; exact hb
theorem kq_ifp {s : rS} {a b : rS × Int32} {c : Prop} [Decidable c] (ha : kq5 s a.1) (hb : kq5 s b.1) : kq5 s (if c then a else b).1 := by
  by_cases h : c
  · rw [if_pos h]; exact ha
  · rw [if_neg h]; exact hb
theorem kq_pb {s : rS} {α : Type} {a : α} {k : α → rS} (h : kq5 s (k a)) : kq5 s (pb5 a k) := h
theorem kq_pm {s : rS} {α : Type} {q : rS × α} {k : rS → α → rS} (h : kq5 s (k q.1 q.2)) : kq5 s (pm5 q k) := h
theorem kq_flaw {s σ : rS} {a b : Int32} (h : kq5 s σ) : kq5 s (g5_flaw a b σ) := fun z => by
  obtain ⟨x, y⟩ := h z
  unfold g5_flaw
  rw [if_neg (by rw [x]; exact z)]
  exact ⟨x, y⟩
theorem kq_go {s σ : rS} (h : kq5 s σ) : kq5 s (g5_go σ) := fun z => by
  obtain ⟨x, y⟩ := h z
  unfold g5_go
  rw [if_neg (by rw [x]; exact z)]
  exact ⟨x, y⟩
theorem kq_look {s σ : rS} {a b : Int32} (h : kq5 s σ) : kq5 s (g5_look a b σ) := fun z => by
  obtain ⟨x, y⟩ := h z
  unfold g5_look g5_look_28
  dsimp only [pb5]
  rw [if_neg (show ¬ σ.1 11 = 0 by rw [x]; exact z), ite_self]
  exact ⟨x, y⟩
theorem kq_readNext {s : rS} {σ : rS} (h : kq5 s σ) : kq5 s (g5_readNext  σ) := by
  unfold g5_readNext
  try dsimp only [pb5, pm5]
  repeat' first
    | with_reducible exact h
    | dsimp only
    | with_reducible refine kq_flaw ?_
    | with_reducible refine kq_si (by decide) (by decide) ?_
    | with_reducible refine kq_ri ?_
    | with_reducible refine kq_if ?_ ?_
    | with_reducible refine kq_ifp ?_ ?_
theorem kq_sign {s : rS} {a1 : Int32} {σ : rS} (h : kq5 s σ) : kq5 s (g5_sign a1 σ) := by
  unfold g5_sign
  try dsimp only [pb5, pm5]
  repeat' first
    | with_reducible exact h
    | dsimp only
    | with_reducible refine kq_flaw ?_
    | with_reducible refine kq_go ?_
    | with_reducible refine kq_si (by decide) (by decide) ?_
    | with_reducible refine kq_ri ?_
    | with_reducible refine kq_if ?_ ?_
    | with_reducible refine kq_ifp ?_ ?_
theorem kq_open_55 {s : rS} {s1 : Int32} {s2 : Int32} {σ : rS} (h : kq5 s σ) : kq5 s (g5_open_55 s1 s2 σ) := by
  unfold g5_open_55
  try dsimp only [pb5, pm5]
  repeat' first
    | with_reducible exact h
    | dsimp only
    | with_reducible refine kq_go ?_
    | with_reducible refine kq_si (by decide) (by decide) ?_
    | with_reducible refine kq_ri ?_
    | with_reducible refine kq_if ?_ ?_
    | with_reducible refine kq_ifp ?_ ?_
theorem kq_open_38 {s : rS} {σ : rS} (h : kq5 s σ) : kq5 s (g5_open_38  σ) := by
  unfold g5_open_38
  try dsimp only [pb5, pm5]
  repeat' first
    | with_reducible exact h
    | dsimp only
    | with_reducible refine kq_open_55 ?_
    | with_reducible refine kq_si (by decide) (by decide) ?_
    | with_reducible refine kq_ri ?_
    | with_reducible refine kq_if ?_ ?_
    | with_reducible refine kq_ifp ?_ ?_
theorem kq_open {s : rS} {a1 : Int32} {σ : rS} (h : kq5 s σ) : kq5 s (g5_open a1 σ) := by
  unfold g5_open
  try dsimp only [pb5, pm5]
  repeat' first
    | with_reducible exact h
    | dsimp only
    | with_reducible refine kq_flaw ?_
    | with_reducible refine kq_open_38 ?_
    | with_reducible refine kq_si (by decide) (by decide) ?_
    | with_reducible refine kq_ri ?_
    | with_reducible refine kq_if ?_ ?_
    | with_reducible refine kq_ifp ?_ ?_
theorem kq_close_18 {s : rS} {a1 : Int32} {s1 : Int32} {s2 : Int32} {σ : rS} (h : kq5 s σ) : kq5 s (g5_close_18 a1 s1 s2 σ) := by
  unfold g5_close_18
  try dsimp only [pb5, pm5]
  repeat' first
    | with_reducible exact h
    | dsimp only
    | with_reducible refine kq_sign ?_
    | with_reducible refine kq_si (by decide) (by decide) ?_
    | with_reducible refine kq_ri ?_
    | with_reducible refine kq_if ?_ ?_
    | with_reducible refine kq_ifp ?_ ?_
theorem kq_close {s : rS} {a1 : Int32} {σ : rS} (h : kq5 s σ) : kq5 s (g5_close a1 σ) := by
  unfold g5_close
  try dsimp only [pb5, pm5]
  repeat' first
    | with_reducible exact h
    | dsimp only
    | with_reducible refine kq_close_18 ?_
    | with_reducible refine kq_si (by decide) (by decide) ?_
    | with_reducible refine kq_ri ?_
    | with_reducible refine kq_if ?_ ?_
    | with_reducible refine kq_ifp ?_ ?_
theorem kq_due {s : rS} {a1 : Int32} {σ : rS} (h : kq5 s σ) : kq5 s (g5_due a1 σ).1 := by
  unfold g5_due
  try dsimp only [pb5, pm5]
  repeat' first
    | with_reducible exact h
    | dsimp only
    | with_reducible refine kq_flaw ?_
    | with_reducible refine kq_si (by decide) (by decide) ?_
    | with_reducible refine kq_ri ?_
    | with_reducible refine kq_if ?_ ?_
    | with_reducible refine kq_ifp ?_ ?_
theorem kq_fresh_70 {s : rS} {B18 : Int32 → Int32 → Int32 → Int32 → Int32 → Int32 → rS → rS × Int32} {a1 : Int32} {a2 : Int32} {a3 : Int32} {a4 : Int32} {a6 : Int32} {s0 : Int32} {σ : rS} (hB18 : ∀ (x0 : Int32) (x1 : Int32) (x2 : Int32) (x3 : Int32) (x4 : Int32) (x5 : Int32) (σ : rS), kq5 s σ → kq5 s (B18 x0 x1 x2 x3 x4 x5 σ).1) (h : kq5 s σ) : kq5 s (g5_fresh_70 B18 a1 a2 a3 a4 a6 s0 σ).1 := by
  unfold g5_fresh_70
  try dsimp only [pb5, pm5]
  repeat' first
    | with_reducible exact h
    | dsimp only
    | with_reducible refine hB18 _ _ _ _ _ _ _ ?_
    | with_reducible refine kq_si (by decide) (by decide) ?_
    | with_reducible refine kq_ri ?_
    | with_reducible refine kq_if ?_ ?_
    | with_reducible refine kq_ifp ?_ ?_
theorem kq_fresh_98 {s : rS} {a2 : Int32} {a3 : Int32} {a4 : Int32} {σ : rS} (h : kq5 s σ) : kq5 s (g5_fresh_98 a2 a3 a4 σ).1 := by
  unfold g5_fresh_98
  try dsimp only [pb5, pm5]
  repeat' first
    | with_reducible exact h
    | dsimp only
    | with_reducible refine kq_go ?_
    | with_reducible refine kq_flaw ?_
    | with_reducible refine kq_si (by decide) (by decide) ?_
    | with_reducible refine kq_ri ?_
    | with_reducible refine kq_if ?_ ?_
    | with_reducible refine kq_ifp ?_ ?_
theorem kq_fresh_78 {s : rS} {a2 : Int32} {a3 : Int32} {a4 : Int32} {a5 : Int32} {σ : rS} (h : kq5 s σ) : kq5 s (g5_fresh_78 a2 a3 a4 a5 σ).1 := by
  unfold g5_fresh_78
  try dsimp only [pb5, pm5]
  repeat' first
    | with_reducible exact h
    | dsimp only
    | with_reducible refine kq_fresh_98 ?_
    | with_reducible refine kq_flaw ?_
    | with_reducible refine kq_si (by decide) (by decide) ?_
    | with_reducible refine kq_ri ?_
    | with_reducible refine kq_if ?_ ?_
    | with_reducible refine kq_ifp ?_ ?_
theorem kq_fresh_18 {s : rS} (m : Nat) : ∀ (x0 : Int32) (x1 : Int32) (x2 : Int32) (x3 : Int32) (x4 : Int32) (x5 : Int32) (σ : rS), kq5 s σ → kq5 s (g5_fresh_18 m x0 x1 x2 x3 x4 x5 σ).1 := by
  induction m with
  | zero => exact fun _ _ _ _ _ _ _ h => h
  | succ m ih =>
    intro x0 x1 x2 x3 x4 x5 σ h
    rw [g5_fresh_18]
    try dsimp only [pb5, pm5]
    repeat' first
      | with_reducible exact h
      | dsimp only
      | with_reducible refine ih _ _ _ _ _ _ _ ?_
      | with_reducible refine kq_fresh_78 ?_
      | with_reducible refine kq_fresh_70 (fun y0 y1 y2 y3 y4 y5 σ9 h9 => ih y0 y1 y2 y3 y4 y5 σ9 h9) ?_
      | with_reducible refine kq_si (by decide) (by decide) ?_
      | with_reducible refine kq_ri ?_
      | with_reducible refine kq_if ?_ ?_
      | with_reducible refine kq_ifp ?_ ?_
theorem kq_fresh {s : rS} {a1 : Int32} {a2 : Int32} {a3 : Int32} {σ : rS} (h : kq5 s σ) : kq5 s (g5_fresh a1 a2 a3 σ).1 := by
  unfold g5_fresh
  try dsimp only [pb5, pm5]
  repeat' first
    | with_reducible exact h
    | dsimp only
    | with_reducible refine kq_due ?_
    | with_reducible refine kq_fresh_18 _ _ _ _ _ _ _ _ ?_
    | with_reducible refine kq_si (by decide) (by decide) ?_
    | with_reducible refine kq_ri ?_
    | with_reducible refine kq_if ?_ ?_
    | with_reducible refine kq_ifp ?_ ?_
theorem kq_hold {s : rS} {a1 : Int32} {a2 : Int32} {σ : rS} (h : kq5 s σ) : kq5 s (g5_hold a1 a2 σ) := by
  unfold g5_hold
  try dsimp only [pb5, pm5]
  repeat' first
    | with_reducible exact h
    | dsimp only
    | with_reducible refine kq_si (by decide) (by decide) ?_
    | with_reducible refine kq_ri ?_
    | with_reducible refine kq_if ?_ ?_
    | with_reducible refine kq_ifp ?_ ?_
theorem kq_apply_202 {s : rS} {s0 : Int32} {σ : rS} (h : kq5 s σ) : kq5 s (g5_apply_202 s0 σ) := by
  unfold g5_apply_202
  try dsimp only [pb5, pm5]
  repeat' first
    | with_reducible exact h
    | dsimp only
    | with_reducible refine kq_si (by decide) (by decide) ?_
    | with_reducible refine kq_ri ?_
    | with_reducible refine kq_if ?_ ?_
    | with_reducible refine kq_ifp ?_ ?_
theorem kq_apply_84 {s : rS} {a1 : Int32} {a2 : Int32} {a3 : Int32} {σ : rS} (h : kq5 s σ) : kq5 s (g5_apply_84 a1 a2 a3 σ) := by
  unfold g5_apply_84
  try dsimp only [pb5, pm5]
  repeat' first
    | with_reducible exact h
    | dsimp only
    | with_reducible refine kq_apply_202 ?_
    | with_reducible refine kq_si (by decide) (by decide) ?_
    | with_reducible refine kq_ri ?_
    | with_reducible refine kq_if ?_ ?_
    | with_reducible refine kq_ifp ?_ ?_
theorem kq_apply_74 {s : rS} {a1 : Int32} {a2 : Int32} {a3 : Int32} {σ : rS} (h : kq5 s σ) : kq5 s (g5_apply_74 a1 a2 a3 σ) := by
  unfold g5_apply_74
  try dsimp only [pb5, pm5]
  repeat' first
    | with_reducible exact h
    | dsimp only
    | with_reducible refine kq_apply_84 ?_
    | with_reducible refine kq_si (by decide) (by decide) ?_
    | with_reducible refine kq_ri ?_
    | with_reducible refine kq_if ?_ ?_
    | with_reducible refine kq_ifp ?_ ?_
theorem kq_apply {s : rS} {σ : rS} (h : kq5 s σ) : kq5 s (g5_apply  σ) := by
  unfold g5_apply
  try dsimp only [pb5, pm5]
  repeat' first
    | with_reducible exact h
    | dsimp only
    | with_reducible refine kq_apply_74 ?_
    | with_reducible refine kq_apply_84 ?_
    | with_reducible refine kq_si (by decide) (by decide) ?_
    | with_reducible refine kq_ri ?_
    | with_reducible refine kq_if ?_ ?_
    | with_reducible refine kq_ifp ?_ ?_
theorem kq_settle_0 {s : rS} (m : Nat) : ∀ (x0 : Int32) (σ : rS), kq5 s σ → kq5 s (g5_settle_0 m x0 σ) := by
  induction m with
  | zero => exact fun _ _ h => h
  | succ m ih =>
    intro x0 σ h
    rw [g5_settle_0]
    try dsimp only [pb5, pm5]
    repeat' first
      | with_reducible exact h
      | dsimp only
      | with_reducible refine ih _ _ ?_
      | with_reducible refine kq_apply ?_
      | with_reducible refine kq_si (by decide) (by decide) ?_
      | with_reducible refine kq_ri ?_
      | with_reducible refine kq_if ?_ ?_
      | with_reducible refine kq_ifp ?_ ?_
theorem kq_settle {s : rS} {a1 : Int32} {σ : rS} (h : kq5 s σ) : kq5 s (g5_settle a1 σ) := by
  unfold g5_settle
  try dsimp only [pb5, pm5]
  repeat' first
    | with_reducible exact h
    | dsimp only
    | with_reducible refine kq_settle_0 _ _ _ ?_
    | with_reducible refine kq_si (by decide) (by decide) ?_
    | with_reducible refine kq_ri ?_
    | with_reducible refine kq_if ?_ ?_
    | with_reducible refine kq_ifp ?_ ?_
theorem kq_turn_69 {s : rS} {B0 : rS → rS} {s1 : Int32} {s2 : Int32} {σ : rS} (hB0 : ∀  (σ : rS), kq5 s σ → kq5 s (B0  σ)) (h : kq5 s σ) : kq5 s (g5_turn_69 B0 s1 s2 σ) := by
  unfold g5_turn_69
  try dsimp only [pb5, pm5]
  repeat' first
    | with_reducible exact h
    | dsimp only
    | with_reducible refine hB0  _ ?_
    | with_reducible refine kq_si (by decide) (by decide) ?_
    | with_reducible refine kq_ri ?_
    | with_reducible refine kq_if ?_ ?_
    | with_reducible refine kq_ifp ?_ ?_
theorem kq_turn_20 {s : rS} {B0 : rS → rS} {σ : rS} (hB0 : ∀  (σ : rS), kq5 s σ → kq5 s (B0  σ)) (h : kq5 s σ) : kq5 s (g5_turn_20 B0 σ) := by
  unfold g5_turn_20
  try dsimp only [pb5, pm5]
  repeat' first
    | with_reducible refine kq_turn_69 hB0 ?_
    | with_reducible exact h
    | dsimp only
    | with_reducible refine hB0  _ ?_
    | with_reducible refine kq_si (by decide) (by decide) ?_
    | with_reducible refine kq_ri ?_
    | with_reducible refine kq_if ?_ ?_
    | with_reducible refine kq_ifp ?_ ?_
theorem kq_turn_0 {s : rS} (m : Nat) : ∀ (σ : rS), kq5 s σ → kq5 s (g5_turn_0 m  σ) := by
  induction m with
  | zero => exact fun _ h => h
  | succ m ih =>
    intro σ h
    rw [g5_turn_0]
    try dsimp only [pb5, pm5]
    repeat' first
      | with_reducible exact h
      | dsimp only
      | with_reducible refine ih _ ?_
      | with_reducible refine kq_turn_20 (fun  σ9 h9 => ih  σ9 h9) ?_
      | with_reducible refine kq_si (by decide) (by decide) ?_
      | with_reducible refine kq_ri ?_
      | with_reducible refine kq_if ?_ ?_
      | with_reducible refine kq_ifp ?_ ?_
theorem kq_turn {s : rS} {σ : rS} (h : kq5 s σ) : kq5 s (g5_turn  σ) := by
  unfold g5_turn
  try dsimp only [pb5, pm5]
  repeat' first
    | with_reducible exact h
    | dsimp only
    | with_reducible refine kq_turn_0 _ _ ?_
    | with_reducible refine kq_si (by decide) (by decide) ?_
    | with_reducible refine kq_ri ?_
    | with_reducible refine kq_if ?_ ?_
    | with_reducible refine kq_ifp ?_ ?_
theorem kq_push {s : rS} {a1 : Int32} {σ : rS} (h : kq5 s σ) : kq5 s (g5_push a1 σ) := by
  unfold g5_push
  try dsimp only [pb5, pm5]
  repeat' first
    | with_reducible exact h
    | dsimp only
    | with_reducible refine kq_turn ?_
    | with_reducible refine kq_si (by decide) (by decide) ?_
    | with_reducible refine kq_ri ?_
    | with_reducible refine kq_if ?_ ?_
    | with_reducible refine kq_ifp ?_ ?_
theorem kq_named_79 {s : rS} {a1 : Int32} {a2 : Int32} {σ : rS} (h : kq5 s σ) : kq5 s (g5_named_79 a1 a2 σ).1 := by
  unfold g5_named_79
  try dsimp only [pb5, pm5]
  repeat' first
    | with_reducible exact h
    | dsimp only
    | with_reducible refine kq_push ?_
    | with_reducible refine kq_open ?_
    | with_reducible refine kq_hold ?_
    | with_reducible refine kq_si (by decide) (by decide) ?_
    | with_reducible refine kq_ri ?_
    | with_reducible refine kq_if ?_ ?_
    | with_reducible refine kq_ifp ?_ ?_
theorem kq_named_34 {s : rS} {a1 : Int32} {σ : rS} (h : kq5 s σ) : kq5 s (g5_named_34 a1 σ).1 := by
  unfold g5_named_34
  try dsimp only [pb5, pm5]
  repeat' first
    | with_reducible exact h
    | dsimp only
    | with_reducible refine kq_look ?_
    | with_reducible refine kq_named_79 ?_
    | with_reducible refine kq_si (by decide) (by decide) ?_
    | with_reducible refine kq_ri ?_
    | with_reducible refine kq_if ?_ ?_
    | with_reducible refine kq_ifp ?_ ?_
theorem kq_named {s : rS} {σ : rS} (h : kq5 s σ) : kq5 s (g5_named  σ).1 := by
  unfold g5_named
  try dsimp only [pb5, pm5]
  repeat' first
    | with_reducible exact h
    | dsimp only
    | with_reducible refine kq_go ?_
    | with_reducible refine kq_named_34 ?_
    | with_reducible refine kq_flaw ?_
    | with_reducible refine kq_si (by decide) (by decide) ?_
    | with_reducible refine kq_ri ?_
    | with_reducible refine kq_if ?_ ?_
    | with_reducible refine kq_ifp ?_ ?_
theorem kq_operand_37 {s : rS} {s1 : Int32} {σ : rS} (h : kq5 s σ) : kq5 s (g5_operand_37 s1 σ).1 := by
  unfold g5_operand_37
  try dsimp only [pb5, pm5]
  repeat' first
    | with_reducible exact h
    | dsimp only
    | with_reducible refine kq_hold ?_
    | with_reducible refine kq_go ?_
    | with_reducible refine kq_si (by decide) (by decide) ?_
    | with_reducible refine kq_ri ?_
    | with_reducible refine kq_if ?_ ?_
    | with_reducible refine kq_ifp ?_ ?_
theorem kq_operand_18 {s : rS} {σ : rS} (h : kq5 s σ) : kq5 s (g5_operand_18  σ).1 := by
  unfold g5_operand_18
  try dsimp only [pb5, pm5]
  repeat' first
    | with_reducible exact h
    | dsimp only
    | with_reducible refine kq_operand_37 ?_
    | with_reducible refine kq_si (by decide) (by decide) ?_
    | with_reducible refine kq_ri ?_
    | with_reducible refine kq_if ?_ ?_
    | with_reducible refine kq_ifp ?_ ?_
theorem kq_operand {s : rS} {σ : rS} (h : kq5 s σ) : kq5 s (g5_operand  σ).1 := by
  unfold g5_operand
  try dsimp only [pb5, pm5]
  repeat' first
    | with_reducible exact h
    | dsimp only
    | with_reducible refine kq_go ?_
    | with_reducible refine kq_push ?_
    | with_reducible refine kq_named ?_
    | with_reducible refine kq_flaw ?_
    | with_reducible refine kq_open ?_
    | with_reducible refine kq_hold ?_
    | with_reducible refine kq_operand_18 ?_
    | with_reducible refine kq_si (by decide) (by decide) ?_
    | with_reducible refine kq_ri ?_
    | with_reducible refine kq_if ?_ ?_
    | with_reducible refine kq_ifp ?_ ?_
theorem kq_behind_73 {s : rS} {σ : rS} (h : kq5 s σ) : kq5 s (g5_behind_73  σ).1 := by
  unfold g5_behind_73
  try dsimp only [pb5, pm5]
  repeat' first
    | with_reducible exact h
    | dsimp only
    | with_reducible refine kq_hold ?_
    | with_reducible refine kq_go ?_
    | with_reducible refine kq_si (by decide) (by decide) ?_
    | with_reducible refine kq_ri ?_
    | with_reducible refine kq_if ?_ ?_
    | with_reducible refine kq_ifp ?_ ?_
theorem kq_behind_245 {s : rS} {σ : rS} (h : kq5 s σ) : kq5 s (g5_behind_245  σ).1 := by
  unfold g5_behind_245
  try dsimp only [pb5, pm5]
  repeat' first
    | with_reducible exact h
    | dsimp only
    | with_reducible refine kq_turn ?_
    | with_reducible refine kq_si (by decide) (by decide) ?_
    | with_reducible refine kq_ri ?_
    | with_reducible refine kq_if ?_ ?_
    | with_reducible refine kq_ifp ?_ ?_
theorem kq_behind_216 {s : rS} {a3 : Int32} {s1 : Int32} {σ : rS} (h : kq5 s σ) : kq5 s (g5_behind_216 a3 s1 σ).1 := by
  unfold g5_behind_216
  try dsimp only [pb5, pm5]
  repeat' first
    | with_reducible exact h
    | dsimp only
    | with_reducible refine kq_behind_245 ?_
    | with_reducible refine kq_si (by decide) (by decide) ?_
    | with_reducible refine kq_ri ?_
    | with_reducible refine kq_if ?_ ?_
    | with_reducible refine kq_ifp ?_ ?_
theorem kq_behind_93 {s : rS} {σ : rS} (h : kq5 s σ) : kq5 s (g5_behind_93  σ).1 := by
  unfold g5_behind_93
  try dsimp only [pb5, pm5]
  repeat' first
    | with_reducible exact h
    | dsimp only
    | with_reducible refine kq_settle ?_
    | with_reducible refine kq_close ?_
    | with_reducible refine kq_turn ?_
    | with_reducible refine kq_behind_245 ?_
    | with_reducible refine kq_behind_216 ?_
    | with_reducible refine kq_si (by decide) (by decide) ?_
    | with_reducible refine kq_ri ?_
    | with_reducible refine kq_if ?_ ?_
    | with_reducible refine kq_ifp ?_ ?_
theorem kq_behind_50 {s : rS} {a1 : Int32} {s1 : Int32} {σ : rS} (h : kq5 s σ) : kq5 s (g5_behind_50 a1 s1 σ).1 := by
  unfold g5_behind_50
  try dsimp only [pb5, pm5]
  repeat' first
    | with_reducible exact h
    | dsimp only
    | with_reducible refine kq_settle ?_
    | with_reducible refine kq_behind_93 ?_
    | with_reducible refine kq_behind_73 ?_
    | with_reducible refine kq_si (by decide) (by decide) ?_
    | with_reducible refine kq_ri ?_
    | with_reducible refine kq_if ?_ ?_
    | with_reducible refine kq_ifp ?_ ?_
theorem kq_behind_29 {s : rS} {s0 : Int32} {σ : rS} (h : kq5 s σ) : kq5 s (g5_behind_29 s0 σ).1 := by
  unfold g5_behind_29
  try dsimp only [pb5, pm5]
  repeat' first
    | with_reducible exact h
    | dsimp only
    | with_reducible refine kq_behind_50 ?_
    | with_reducible refine kq_si (by decide) (by decide) ?_
    | with_reducible refine kq_ri ?_
    | with_reducible refine kq_if ?_ ?_
    | with_reducible refine kq_ifp ?_ ?_
theorem kq_behind {s : rS} {σ : rS} (h : kq5 s σ) : kq5 s (g5_behind  σ).1 := by
  unfold g5_behind
  try dsimp only [pb5, pm5]
  repeat' first
    | with_reducible exact h
    | dsimp only
    | with_reducible refine kq_behind_29 ?_
    | with_reducible refine kq_si (by decide) (by decide) ?_
    | with_reducible refine kq_ri ?_
    | with_reducible refine kq_if ?_ ?_
    | with_reducible refine kq_ifp ?_ ?_
theorem kq_expression_51 {s : rS} {σ : rS} (h : kq5 s σ) : kq5 s (g5_expression_51  σ).1 := by
  unfold g5_expression_51
  try dsimp only [pb5, pm5]
  repeat' first
    | with_reducible exact h
    | dsimp only
    | with_reducible refine kq_si (by decide) (by decide) ?_
    | with_reducible refine kq_ri ?_
    | with_reducible refine kq_if ?_ ?_
    | with_reducible refine kq_ifp ?_ ?_
theorem kq_expression_12 {s : rS} (m : Nat) : ∀ (x0 : Int32) (σ : rS), kq5 s σ → kq5 s (g5_expression_12 m x0 σ).1 := by
  induction m with
  | zero => exact fun _ _ h => h
  | succ m ih =>
    intro x0 σ h
    rw [g5_expression_12]
    try dsimp only [pb5, pm5]
    repeat' first
      | with_reducible exact h
      | dsimp only
      | with_reducible refine ih _ _ ?_
      | with_reducible refine kq_expression_51 ?_
      | with_reducible refine kq_operand ?_
      | with_reducible refine kq_behind ?_
      | with_reducible refine kq_si (by decide) (by decide) ?_
      | with_reducible refine kq_ri ?_
      | with_reducible refine kq_if ?_ ?_
      | with_reducible refine kq_ifp ?_ ?_
theorem kq_expression {s : rS} {σ : rS} (h : kq5 s σ) : kq5 s (g5_expression  σ).1 := by
  unfold g5_expression
  try dsimp only [pb5, pm5]
  repeat' first
    | with_reducible exact h
    | dsimp only
    | with_reducible refine kq_expression_12 _ _ _ ?_
    | with_reducible refine kq_si (by decide) (by decide) ?_
    | with_reducible refine kq_ri ?_
    | with_reducible refine kq_if ?_ ?_
    | with_reducible refine kq_ifp ?_ ?_
theorem kq_openBlock {s : rS} {a1 : Int32} {a2 : Int32} {σ : rS} (h : kq5 s σ) : kq5 s (g5_openBlock a1 a2 σ) := by
  unfold g5_openBlock
  try dsimp only [pb5, pm5]
  repeat' first
    | with_reducible exact h
    | dsimp only
    | with_reducible refine kq_si (by decide) (by decide) ?_
    | with_reducible refine kq_ri ?_
    | with_reducible refine kq_if ?_ ?_
    | with_reducible refine kq_ifp ?_ ?_
theorem kq_newStatement_221 {s : rS} {a2 : Int32} {a3 : Int32} {σ : rS} (h : kq5 s σ) : kq5 s (g5_newStatement_221 a2 a3 σ).1 := by
  unfold g5_newStatement_221
  try dsimp only [pb5, pm5]
  repeat' first
    | with_reducible exact h
    | dsimp only
    | with_reducible refine kq_si (by decide) (by decide) ?_
    | with_reducible refine kq_ri ?_
    | with_reducible refine kq_if ?_ ?_
    | with_reducible refine kq_ifp ?_ ?_
theorem kq_newStatement_51 {s : rS} {a1 : Int32} {s0 : Int32} {σ : rS} (h : kq5 s σ) : kq5 s (g5_newStatement_51 a1 s0 σ).1 := by
  unfold g5_newStatement_51
  try dsimp only [pb5, pm5]
  repeat' first
    | with_reducible exact h
    | dsimp only
    | with_reducible refine kq_newStatement_221 ?_
    | with_reducible refine kq_si (by decide) (by decide) ?_
    | with_reducible refine kq_ri ?_
    | with_reducible refine kq_if ?_ ?_
    | with_reducible refine kq_ifp ?_ ?_
theorem kq_newStatement_33 {s : rS} {a1 : Int32} {σ : rS} (h : kq5 s σ) : kq5 s (g5_newStatement_33 a1 σ).1 := by
  unfold g5_newStatement_33
  try dsimp only [pb5, pm5]
  repeat' first
    | with_reducible exact h
    | dsimp only
    | with_reducible refine kq_newStatement_51 ?_
    | with_reducible refine kq_si (by decide) (by decide) ?_
    | with_reducible refine kq_ri ?_
    | with_reducible refine kq_if ?_ ?_
    | with_reducible refine kq_ifp ?_ ?_
theorem kq_newStatement {s : rS} {a1 : Int32} {σ : rS} (h : kq5 s σ) : kq5 s (g5_newStatement a1 σ).1 := by
  unfold g5_newStatement
  try dsimp only [pb5, pm5]
  repeat' first
    | with_reducible exact h
    | dsimp only
    | with_reducible refine kq_newStatement_33 ?_
    | with_reducible refine kq_flaw ?_
    | with_reducible refine kq_si (by decide) (by decide) ?_
    | with_reducible refine kq_ri ?_
    | with_reducible refine kq_if ?_ ?_
    | with_reducible refine kq_ifp ?_ ?_
theorem kq_tellVar_87 {s : rS} {a1 : Int32} {a2 : Int32} {σ : rS} (h : kq5 s σ) : kq5 s (g5_tellVar_87 a1 a2 σ) := by
  unfold g5_tellVar_87
  try dsimp only [pb5, pm5]
  repeat' first
    | with_reducible exact h
    | dsimp only
    | with_reducible refine kq_sign ?_
    | with_reducible refine kq_si (by decide) (by decide) ?_
    | with_reducible refine kq_ri ?_
    | with_reducible refine kq_if ?_ ?_
    | with_reducible refine kq_ifp ?_ ?_
theorem kq_tellVar_82 {s : rS} {a1 : Int32} {s0 : Int32} {σ : rS} (h : kq5 s σ) : kq5 s (g5_tellVar_82 a1 s0 σ) := by
  unfold g5_tellVar_82
  try dsimp only [pb5, pm5]
  repeat' first
    | with_reducible exact h
    | dsimp only
    | with_reducible refine kq_go ?_
    | with_reducible refine kq_tellVar_87 ?_
    | with_reducible refine kq_si (by decide) (by decide) ?_
    | with_reducible refine kq_ri ?_
    | with_reducible refine kq_if ?_ ?_
    | with_reducible refine kq_ifp ?_ ?_
theorem kq_tellVar_53 {s : rS} {a1 : Int32} {a3 : Int32} {σ : rS} (h : kq5 s σ) : kq5 s (g5_tellVar_53 a1 a3 σ) := by
  unfold g5_tellVar_53
  try dsimp only [pb5, pm5]
  repeat' first
    | with_reducible exact h
    | dsimp only
    | with_reducible refine kq_due ?_
    | with_reducible refine kq_tellVar_82 ?_
    | with_reducible refine kq_si (by decide) (by decide) ?_
    | with_reducible refine kq_ri ?_
    | with_reducible refine kq_if ?_ ?_
    | with_reducible refine kq_ifp ?_ ?_
theorem kq_tellVar {s : rS} {σ : rS} (h : kq5 s σ) : kq5 s (g5_tellVar  σ) := by
  unfold g5_tellVar
  try dsimp only [pb5, pm5]
  repeat' first
    | with_reducible exact h
    | dsimp only
    | with_reducible refine kq_go ?_
    | with_reducible refine kq_fresh ?_
    | with_reducible refine kq_tellVar_87 ?_
    | with_reducible refine kq_tellVar_53 ?_
    | with_reducible refine kq_si (by decide) (by decide) ?_
    | with_reducible refine kq_ri ?_
    | with_reducible refine kq_if ?_ ?_
    | with_reducible refine kq_ifp ?_ ?_
theorem kq_tellArr_56 {s : rS} {a1 : Int32} {a2 : Int32} {σ : rS} (h : kq5 s σ) : kq5 s (g5_tellArr_56 a1 a2 σ) := by
  unfold g5_tellArr_56
  try dsimp only [pb5, pm5]
  repeat' first
    | with_reducible exact h
    | dsimp only
    | with_reducible refine kq_go ?_
    | with_reducible refine kq_close ?_
    | with_reducible refine kq_sign ?_
    | with_reducible refine kq_si (by decide) (by decide) ?_
    | with_reducible refine kq_ri ?_
    | with_reducible refine kq_if ?_ ?_
    | with_reducible refine kq_ifp ?_ ?_
theorem kq_tellArr {s : rS} {σ : rS} (h : kq5 s σ) : kq5 s (g5_tellArr  σ) := by
  unfold g5_tellArr
  try dsimp only [pb5, pm5]
  repeat' first
    | with_reducible exact h
    | dsimp only
    | with_reducible refine kq_go ?_
    | with_reducible refine kq_fresh ?_
    | with_reducible refine kq_open ?_
    | with_reducible refine kq_due ?_
    | with_reducible refine kq_tellArr_56 ?_
    | with_reducible refine kq_flaw ?_
    | with_reducible refine kq_si (by decide) (by decide) ?_
    | with_reducible refine kq_ri ?_
    | with_reducible refine kq_if ?_ ?_
    | with_reducible refine kq_ifp ?_ ?_
theorem kq_arguments_65 {s : rS} {B28 : Int32 → rS → rS} {s0 : Int32} {σ : rS} (hB28 : ∀ (x0 : Int32) (σ : rS), kq5 s σ → kq5 s (B28 x0 σ)) (h : kq5 s σ) : kq5 s (g5_arguments_65 B28 s0 σ) := by
  unfold g5_arguments_65
  try dsimp only [pb5, pm5]
  repeat' first
    | with_reducible exact h
    | dsimp only
    | with_reducible refine hB28 _ _ ?_
    | with_reducible refine kq_go ?_
    | with_reducible refine kq_si (by decide) (by decide) ?_
    | with_reducible refine kq_ri ?_
    | with_reducible refine kq_if ?_ ?_
    | with_reducible refine kq_ifp ?_ ?_
theorem kq_arguments_77 {s : rS} {σ : rS} (h : kq5 s σ) : kq5 s (g5_arguments_77  σ) := by
  unfold g5_arguments_77
  try dsimp only [pb5, pm5]
  repeat' first
    | with_reducible exact h
    | dsimp only
    | with_reducible refine kq_close ?_
    | with_reducible refine kq_sign ?_
    | with_reducible refine kq_si (by decide) (by decide) ?_
    | with_reducible refine kq_ri ?_
    | with_reducible refine kq_if ?_ ?_
    | with_reducible refine kq_ifp ?_ ?_
theorem kq_arguments_28 {s : rS} (m : Nat) : ∀ (x0 : Int32) (σ : rS), kq5 s σ → kq5 s (g5_arguments_28 m x0 σ) := by
  induction m with
  | zero => exact fun _ _ h => h
  | succ m ih =>
    intro x0 σ h
    rw [g5_arguments_28]
    try dsimp only [pb5, pm5]
    repeat' first
      | with_reducible exact h
      | dsimp only
      | with_reducible refine ih _ _ ?_
      | with_reducible refine kq_arguments_77 ?_
      | with_reducible refine kq_expression ?_
      | with_reducible refine kq_arguments_65 (fun y0 σ9 h9 => ih y0 σ9 h9) ?_
      | with_reducible refine kq_si (by decide) (by decide) ?_
      | with_reducible refine kq_ri ?_
      | with_reducible refine kq_if ?_ ?_
      | with_reducible refine kq_ifp ?_ ?_
theorem kq_arguments {s : rS} {σ : rS} (h : kq5 s σ) : kq5 s (g5_arguments  σ) := by
  unfold g5_arguments
  try dsimp only [pb5, pm5]
  repeat' first
    | with_reducible exact h
    | dsimp only
    | with_reducible refine kq_open ?_
    | with_reducible refine kq_arguments_28 _ _ _ ?_
    | with_reducible refine kq_si (by decide) (by decide) ?_
    | with_reducible refine kq_ri ?_
    | with_reducible refine kq_if ?_ ?_
    | with_reducible refine kq_ifp ?_ ?_
theorem kq_tellDraw_55 {s : rS} {σ : rS} (h : kq5 s σ) : kq5 s (g5_tellDraw_55  σ) := by
  unfold g5_tellDraw_55
  try dsimp only [pb5, pm5]
  repeat' first
    | with_reducible exact h
    | dsimp only
    | with_reducible refine kq_close ?_
    | with_reducible refine kq_sign ?_
    | with_reducible refine kq_si (by decide) (by decide) ?_
    | with_reducible refine kq_ri ?_
    | with_reducible refine kq_if ?_ ?_
    | with_reducible refine kq_ifp ?_ ?_
theorem kq_tellDraw_18 {s : rS} {σ : rS} (h : kq5 s σ) : kq5 s (g5_tellDraw_18  σ) := by
  unfold g5_tellDraw_18
  try dsimp only [pb5, pm5]
  repeat' first
    | with_reducible exact h
    | dsimp only
    | with_reducible refine kq_go ?_
    | with_reducible refine kq_open ?_
    | with_reducible refine kq_expression ?_
    | with_reducible refine kq_tellDraw_55 ?_
    | with_reducible refine kq_sign ?_
    | with_reducible refine kq_si (by decide) (by decide) ?_
    | with_reducible refine kq_ri ?_
    | with_reducible refine kq_if ?_ ?_
    | with_reducible refine kq_ifp ?_ ?_
theorem kq_tellDraw_160 {s : rS} {B77 : Int32 → Int32 → rS → rS} {a1 : Int32} {s0 : Int32} {σ : rS} (hB77 : ∀ (x0 : Int32) (x1 : Int32) (σ : rS), kq5 s σ → kq5 s (B77 x0 x1 σ)) (h : kq5 s σ) : kq5 s (g5_tellDraw_160 B77 a1 s0 σ) := by
  unfold g5_tellDraw_160
  try dsimp only [pb5, pm5]
  repeat' first
    | with_reducible exact h
    | dsimp only
    | with_reducible refine hB77 _ _ _ ?_
    | with_reducible refine kq_go ?_
    | with_reducible refine kq_si (by decide) (by decide) ?_
    | with_reducible refine kq_ri ?_
    | with_reducible refine kq_if ?_ ?_
    | with_reducible refine kq_ifp ?_ ?_
theorem kq_tellDraw_125 {s : rS} {B77 : Int32 → Int32 → rS → rS} {a1 : Int32} {σ : rS} (hB77 : ∀ (x0 : Int32) (x1 : Int32) (σ : rS), kq5 s σ → kq5 s (B77 x0 x1 σ)) (h : kq5 s σ) : kq5 s (g5_tellDraw_125 B77 a1 σ) := by
  unfold g5_tellDraw_125
  try dsimp only [pb5, pm5]
  repeat' first
    | with_reducible refine kq_tellDraw_160 hB77 ?_
    | with_reducible exact h
    | dsimp only
    | with_reducible refine hB77 _ _ _ ?_
    | with_reducible refine kq_sign ?_
    | with_reducible refine kq_expression ?_
    | with_reducible refine kq_si (by decide) (by decide) ?_
    | with_reducible refine kq_ri ?_
    | with_reducible refine kq_if ?_ ?_
    | with_reducible refine kq_ifp ?_ ?_
theorem kq_tellDraw_172 {s : rS} {σ : rS} (h : kq5 s σ) : kq5 s (g5_tellDraw_172  σ) := by
  unfold g5_tellDraw_172
  try dsimp only [pb5, pm5]
  repeat' first
    | with_reducible exact h
    | dsimp only
    | with_reducible refine kq_close ?_
    | with_reducible refine kq_sign ?_
    | with_reducible refine kq_si (by decide) (by decide) ?_
    | with_reducible refine kq_ri ?_
    | with_reducible refine kq_if ?_ ?_
    | with_reducible refine kq_ifp ?_ ?_
theorem kq_tellDraw_77 {s : rS} (m : Nat) : ∀ (x0 x1 : Int32) (σ : rS), kq5 s σ → kq5 s (g5_tellDraw_77 m x0 x1 σ) := by
  induction m with
  | zero => exact fun _ _ _ h => h
  | succ m ih =>
    intro x0 x1 σ h
    have h3 := kq_expression h
    have h172 := kq_tellDraw_172 h
    have t : ∀ σ9, kq5 s σ9 → kq5 s (g5_tellDraw_125 (g5_tellDraw_77 m) x0 σ9) := fun σ9 h9 => kq_tellDraw_125 ih h9
    rw [g5_tellDraw_77]
    exact kq_pb (kq_if h172 (kq_if h172 (kq_pm (kq_pb (kq_if (t _ h3) (kq_pb (kq_if (t _ h3) (kq_if (kq_pb (t _ (kq_flaw h3))) (t _ h3)))))))))
theorem kq_tellDraw {s : rS} {σ : rS} (h : kq5 s σ) : kq5 s (g5_tellDraw  σ) := by
  unfold g5_tellDraw
  try dsimp only [pb5, pm5]
  repeat' first
    | with_reducible exact h
    | dsimp only
    | with_reducible refine kq_open ?_
    | with_reducible refine kq_tellDraw_77 _ _ _ _ ?_
    | with_reducible refine kq_tellDraw_18 ?_
    | with_reducible refine kq_si (by decide) (by decide) ?_
    | with_reducible refine kq_ri ?_
    | with_reducible refine kq_if ?_ ?_
    | with_reducible refine kq_ifp ?_ ?_
theorem kq_tellNamed_295 {s : rS} {σ : rS} (h : kq5 s σ) : kq5 s (g5_tellNamed_295  σ) := by
  unfold g5_tellNamed_295
  try dsimp only [pb5, pm5]
  repeat' first
    | with_reducible exact h
    | dsimp only
    | with_reducible refine kq_expression ?_
    | with_reducible refine kq_sign ?_
    | with_reducible refine kq_si (by decide) (by decide) ?_
    | with_reducible refine kq_ri ?_
    | with_reducible refine kq_if ?_ ?_
    | with_reducible refine kq_ifp ?_ ?_
theorem kq_tellNamed_244 {s : rS} {a1 : Int32} {a3 : Int32} {σ : rS} (h : kq5 s σ) : kq5 s (g5_tellNamed_244 a1 a3 σ) := by
  unfold g5_tellNamed_244
  try dsimp only [pb5, pm5]
  repeat' first
    | with_reducible exact h
    | dsimp only
    | with_reducible refine kq_tellNamed_295 ?_
    | with_reducible refine kq_go ?_
    | with_reducible refine kq_arguments ?_
    | with_reducible refine kq_si (by decide) (by decide) ?_
    | with_reducible refine kq_ri ?_
    | with_reducible refine kq_if ?_ ?_
    | with_reducible refine kq_ifp ?_ ?_
theorem kq_tellNamed_175 {s : rS} {a1 : Int32} {a3 : Int32} {σ : rS} (h : kq5 s σ) : kq5 s (g5_tellNamed_175 a1 a3 σ) := by
  unfold g5_tellNamed_175
  try dsimp only [pb5, pm5]
  repeat' first
    | with_reducible exact h
    | dsimp only
    | with_reducible refine kq_sign ?_
    | with_reducible refine kq_tellNamed_244 ?_
    | with_reducible refine kq_go ?_
    | with_reducible refine kq_open ?_
    | with_reducible refine kq_expression ?_
    | with_reducible refine kq_close ?_
    | with_reducible refine kq_si (by decide) (by decide) ?_
    | with_reducible refine kq_ri ?_
    | with_reducible refine kq_if ?_ ?_
    | with_reducible refine kq_ifp ?_ ?_
theorem kq_tellNamed_133 {s : rS} {a1 : Int32} {a3 : Int32} {σ : rS} (h : kq5 s σ) : kq5 s (g5_tellNamed_133 a1 a3 σ) := by
  unfold g5_tellNamed_133
  try dsimp only [pb5, pm5]
  repeat' first
    | with_reducible exact h
    | dsimp only
    | with_reducible refine kq_tellNamed_175 ?_
    | with_reducible refine kq_go ?_
    | with_reducible refine kq_tellDraw ?_
    | with_reducible refine kq_si (by decide) (by decide) ?_
    | with_reducible refine kq_ri ?_
    | with_reducible refine kq_if ?_ ?_
    | with_reducible refine kq_ifp ?_ ?_
theorem kq_tellNamed_109 {s : rS} {a1 : Int32} {a3 : Int32} {s1 : Int32} {s2 : Int32} {σ : rS} (h : kq5 s σ) : kq5 s (g5_tellNamed_109 a1 a3 s1 s2 σ) := by
  unfold g5_tellNamed_109
  try dsimp only [pb5, pm5]
  repeat' first
    | with_reducible exact h
    | dsimp only
    | with_reducible refine kq_look ?_
    | with_reducible refine kq_tellNamed_133 ?_
    | with_reducible refine kq_open ?_
    | with_reducible refine kq_expression ?_
    | with_reducible refine kq_close ?_
    | with_reducible refine kq_si (by decide) (by decide) ?_
    | with_reducible refine kq_ri ?_
    | with_reducible refine kq_if ?_ ?_
    | with_reducible refine kq_ifp ?_ ?_
theorem kq_tellNamed_90 {s : rS} {a1 : Int32} {a2 : Int32} {a3 : Int32} {σ : rS} (h : kq5 s σ) : kq5 s (g5_tellNamed_90 a1 a2 a3 σ) := by
  unfold g5_tellNamed_90
  try dsimp only [pb5, pm5]
  repeat' first
    | with_reducible exact h
    | dsimp only
    | with_reducible refine kq_tellNamed_109 ?_
    | with_reducible refine kq_si (by decide) (by decide) ?_
    | with_reducible refine kq_ri ?_
    | with_reducible refine kq_if ?_ ?_
    | with_reducible refine kq_ifp ?_ ?_
theorem kq_tellNamed {s : rS} {σ : rS} (h : kq5 s σ) : kq5 s (g5_tellNamed  σ) := by
  unfold g5_tellNamed
  try dsimp only [pb5, pm5]
  repeat' first
    | with_reducible exact h
    | dsimp only
    | with_reducible refine kq_newStatement ?_
    | with_reducible refine kq_go ?_
    | with_reducible refine kq_flaw ?_
    | with_reducible refine kq_tellNamed_90 ?_
    | with_reducible refine kq_arguments ?_
    | with_reducible refine kq_si (by decide) (by decide) ?_
    | with_reducible refine kq_ri ?_
    | with_reducible refine kq_if ?_ ?_
    | with_reducible refine kq_ifp ?_ ?_
theorem kq_tellLocal {s : rS} {σ : rS} (h : kq5 s σ) : kq5 s (g5_tellLocal  σ) := by
  unfold g5_tellLocal
  try dsimp only [pb5, pm5]
  repeat' first
    | with_reducible exact h
    | dsimp only
    | with_reducible refine kq_newStatement ?_
    | with_reducible refine kq_go ?_
    | with_reducible refine kq_fresh ?_
    | with_reducible refine kq_sign ?_
    | with_reducible refine kq_expression ?_
    | with_reducible refine kq_si (by decide) (by decide) ?_
    | with_reducible refine kq_ri ?_
    | with_reducible refine kq_if ?_ ?_
    | with_reducible refine kq_ifp ?_ ?_
theorem kq_tellStatement_68 {s : rS} {s1 : Int32} {σ : rS} (h : kq5 s σ) : kq5 s (g5_tellStatement_68 s1 σ) := by
  unfold g5_tellStatement_68
  try dsimp only [pb5, pm5]
  repeat' first
    | with_reducible exact h
    | dsimp only
    | with_reducible refine kq_newStatement ?_
    | with_reducible refine kq_go ?_
    | with_reducible refine kq_expression ?_
    | with_reducible refine kq_open ?_
    | with_reducible refine kq_openBlock ?_
    | with_reducible refine kq_si (by decide) (by decide) ?_
    | with_reducible refine kq_ri ?_
    | with_reducible refine kq_if ?_ ?_
    | with_reducible refine kq_ifp ?_ ?_
theorem kq_tellStatement_52 {s : rS} {σ : rS} (h : kq5 s σ) : kq5 s (g5_tellStatement_52  σ) := by
  unfold g5_tellStatement_52
  try dsimp only [pb5, pm5]
  repeat' first
    | with_reducible exact h
    | dsimp only
    | with_reducible refine kq_tellStatement_68 ?_
    | with_reducible refine kq_si (by decide) (by decide) ?_
    | with_reducible refine kq_ri ?_
    | with_reducible refine kq_if ?_ ?_
    | with_reducible refine kq_ifp ?_ ?_
theorem kq_tellStatement_164 {s : rS} {s1 : Int32} {σ : rS} (h : kq5 s σ) : kq5 s (g5_tellStatement_164 s1 σ) := by
  unfold g5_tellStatement_164
  try dsimp only [pb5, pm5]
  repeat' first
    | with_reducible exact h
    | dsimp only
    | with_reducible refine kq_newStatement ?_
    | with_reducible refine kq_go ?_
    | with_reducible refine kq_expression ?_
    | with_reducible refine kq_sign ?_
    | with_reducible refine kq_si (by decide) (by decide) ?_
    | with_reducible refine kq_ri ?_
    | with_reducible refine kq_if ?_ ?_
    | with_reducible refine kq_ifp ?_ ?_
theorem kq_tellStatement_133 {s : rS} {σ : rS} (h : kq5 s σ) : kq5 s (g5_tellStatement_133  σ) := by
  unfold g5_tellStatement_133
  try dsimp only [pb5, pm5]
  repeat' first
    | with_reducible exact h
    | dsimp only
    | with_reducible refine kq_tellStatement_164 ?_
    | with_reducible refine kq_si (by decide) (by decide) ?_
    | with_reducible refine kq_ri ?_
    | with_reducible refine kq_if ?_ ?_
    | with_reducible refine kq_ifp ?_ ?_
theorem kq_tellStatement {s σ : rS} (h : kq5 s σ) : kq5 s (g5_tellStatement σ) := by
  have h133 := kq_tellStatement_133 h
  have h52 := kq_tellStatement_52 h
  unfold g5_tellStatement
  exact kq_if (kq_pb (kq_tellNamed h)) (kq_pb (kq_if (kq_pb (kq_if (kq_pb (kq_if (kq_pb (kq_if (kq_pb (kq_if (kq_pb (kq_if (kq_pb (kq_flaw h)) h133)) h133)) h133)) h52)) h52)) (kq_pb (kq_tellLocal h))))
theorem kq_endBlock {s : rS} {σ : rS} (h : kq5 s σ) : kq5 s (g5_endBlock  σ) := by
  unfold g5_endBlock
  try dsimp only [pb5, pm5]
  repeat' first
    | with_reducible exact h
    | dsimp only
    | with_reducible refine kq_close ?_
    | with_reducible refine kq_go ?_
    | with_reducible refine kq_open ?_
    | with_reducible refine kq_openBlock ?_
    | with_reducible refine kq_si (by decide) (by decide) ?_
    | with_reducible refine kq_ri ?_
    | with_reducible refine kq_if ?_ ?_
    | with_reducible refine kq_ifp ?_ ?_
theorem kq_tellStatements_11 {s : rS} (m : Nat) : ∀ (σ : rS), kq5 s σ → kq5 s (g5_tellStatements_11 m  σ) := by
  induction m with
  | zero => exact fun _ h => h
  | succ m ih =>
    intro σ h
    rw [g5_tellStatements_11]
    try dsimp only [pb5, pm5]
    repeat' first
      | with_reducible exact h
      | dsimp only
      | with_reducible refine ih _ ?_
      | with_reducible refine kq_tellStatement ?_
      | with_reducible refine kq_endBlock ?_
      | with_reducible refine kq_si (by decide) (by decide) ?_
      | with_reducible refine kq_ri ?_
      | with_reducible refine kq_if ?_ ?_
      | with_reducible refine kq_ifp ?_ ?_
theorem kq_tellStatements {s : rS} {σ : rS} (h : kq5 s σ) : kq5 s (g5_tellStatements  σ) := by
  unfold g5_tellStatements
  try dsimp only [pb5, pm5]
  repeat' first
    | with_reducible exact h
    | dsimp only
    | with_reducible refine kq_openBlock ?_
    | with_reducible refine kq_tellStatements_11 _ _ ?_
    | with_reducible refine kq_si (by decide) (by decide) ?_
    | with_reducible refine kq_ri ?_
    | with_reducible refine kq_if ?_ ?_
    | with_reducible refine kq_ifp ?_ ?_
theorem kq_tellFunc_206 {s : rS} {B102 : Int32 → Int32 → rS → rS} {a1 : Int32} {s0 : Int32} {σ : rS} (hB102 : ∀ (x0 : Int32) (x1 : Int32) (σ : rS), kq5 s σ → kq5 s (B102 x0 x1 σ)) (h : kq5 s σ) : kq5 s (g5_tellFunc_206 B102 a1 s0 σ) := by
  unfold g5_tellFunc_206
  try dsimp only [pb5, pm5]
  repeat' first
    | with_reducible exact h
    | dsimp only
    | with_reducible refine hB102 _ _ _ ?_
    | with_reducible refine kq_go ?_
    | with_reducible refine kq_si (by decide) (by decide) ?_
    | with_reducible refine kq_ri ?_
    | with_reducible refine kq_if ?_ ?_
    | with_reducible refine kq_ifp ?_ ?_
theorem kq_tellFunc_185 {s : rS} {B102 : Int32 → Int32 → rS → rS} {a1 : Int32} {σ : rS} (hB102 : ∀ (x0 : Int32) (x1 : Int32) (σ : rS), kq5 s σ → kq5 s (B102 x0 x1 σ)) (h : kq5 s σ) : kq5 s (g5_tellFunc_185 B102 a1 σ) := by
  unfold g5_tellFunc_185
  try dsimp only [pb5, pm5]
  repeat' first
    | with_reducible refine kq_tellFunc_206 hB102 ?_
    | with_reducible exact h
    | dsimp only
    | with_reducible refine hB102 _ _ _ ?_
    | with_reducible refine kq_si (by decide) (by decide) ?_
    | with_reducible refine kq_ri ?_
    | with_reducible refine kq_if ?_ ?_
    | with_reducible refine kq_ifp ?_ ?_
theorem kq_tellFunc_218 {s : rS} {a1 : Int32} {σ : rS} (h : kq5 s σ) : kq5 s (g5_tellFunc_218 a1 σ) := by
  unfold g5_tellFunc_218
  try dsimp only [pb5, pm5]
  repeat' first
    | with_reducible exact h
    | dsimp only
    | with_reducible refine kq_close ?_
    | with_reducible refine kq_open ?_
    | with_reducible refine kq_tellStatements ?_
    | with_reducible refine kq_si (by decide) (by decide) ?_
    | with_reducible refine kq_ri ?_
    | with_reducible refine kq_if ?_ ?_
    | with_reducible refine kq_ifp ?_ ?_
theorem kq_tellFunc_102 {s : rS} (m : Nat) : ∀ (x0 : Int32) (x1 : Int32) (σ : rS), kq5 s σ → kq5 s (g5_tellFunc_102 m x0 x1 σ) := by
  induction m with
  | zero => exact fun _ _ _ h => h
  | succ m ih =>
    intro x0 x1 σ h
    rw [g5_tellFunc_102]
    try dsimp only [pb5, pm5]
    repeat' first
      | with_reducible exact h
      | dsimp only
      | with_reducible refine ih _ _ _ ?_
      | with_reducible refine kq_tellFunc_218 ?_
      | with_reducible refine kq_fresh ?_
      | with_reducible refine kq_tellFunc_185 (fun y0 y1 σ9 h9 => ih y0 y1 σ9 h9) ?_
      | with_reducible refine kq_si (by decide) (by decide) ?_
      | with_reducible refine kq_ri ?_
      | with_reducible refine kq_if ?_ ?_
      | with_reducible refine kq_ifp ?_ ?_
theorem kq_tellFunc_74 {s : rS} {a1 : Int32} {σ : rS} (h : kq5 s σ) : kq5 s (g5_tellFunc_74 a1 σ) := by
  unfold g5_tellFunc_74
  try dsimp only [pb5, pm5]
  repeat' first
    | with_reducible exact h
    | dsimp only
    | with_reducible refine kq_open ?_
    | with_reducible refine kq_tellFunc_102 _ _ _ _ ?_
    | with_reducible refine kq_si (by decide) (by decide) ?_
    | with_reducible refine kq_ri ?_
    | with_reducible refine kq_if ?_ ?_
    | with_reducible refine kq_ifp ?_ ?_
theorem kq_tellFunc_34 {s : rS} {a1 : Int32} {s1 : Int32} {σ : rS} (h : kq5 s σ) : kq5 s (g5_tellFunc_34 a1 s1 σ) := by
  unfold g5_tellFunc_34
  try dsimp only [pb5, pm5]
  repeat' first
    | with_reducible exact h
    | dsimp only
    | with_reducible refine kq_tellFunc_74 ?_
    | with_reducible refine kq_si (by decide) (by decide) ?_
    | with_reducible refine kq_ri ?_
    | with_reducible refine kq_if ?_ ?_
    | with_reducible refine kq_ifp ?_ ?_
theorem kq_tellFunc {s : rS} {σ : rS} (h : kq5 s σ) : kq5 s (g5_tellFunc  σ) := by
  unfold g5_tellFunc
  try dsimp only [pb5, pm5]
  repeat' first
    | with_reducible exact h
    | dsimp only
    | with_reducible refine kq_go ?_
    | with_reducible refine kq_fresh ?_
    | with_reducible refine kq_tellFunc_34 ?_
    | with_reducible refine kq_si (by decide) (by decide) ?_
    | with_reducible refine kq_ri ?_
    | with_reducible refine kq_if ?_ ?_
    | with_reducible refine kq_ifp ?_ ?_

end
section
set_option maxHeartbeats 1600000
/-! what the two token rows have in common -/
abbrev X5 : Type := (Nat → Int32) × (Nat → Int32) × (Nat → Int32) × (Nat → Int32) × (Nat → Int64)
def sx5 (σ : rS) : X5 := (σ.2.2.1 5, σ.2.2.1 6, σ.2.2.1 7, σ.2.2.1 9, σ.2.2.2 8)
def kd5 (K so nu : Int32) : Prop := (K = 143 ∧ so = 4) ∨ (K = 140 ∧ so = 1) ∨ (K = 141 ∧ so = 2) ∨ (K = 142 ∧ so = 5) ∨ (150 ≤ K.toInt ∧ K.toInt ≤ 162 ∧ so = 6 ∧ nu = K - 149) ∨ (so = 3 ∧ ((0 < K.toInt ∧ K.toInt < 128 ∧ nu = K) ∨ (128 ≤ K.toInt ∧ K.toInt ≤ 131 ∧ nu = K + 128)))
/-- alike names, as the class compares them -/
def dn5 (T : T5) (t u : Nat) : Prop := T.2.2.2.1 t = T.2.2.2.1 u ∧ 0 < (T.2.2.2.1 u).toInt ∧ ∀ i : Nat, (i : Int) < (T.2.2.2.1 u).toInt → T.1 ((T.2.2.1 t).toInt.toNat + i) = T.1 ((T.2.2.1 u).toInt.toNat + i)
def mW5 : Int64 := g5_word 109 97 105 110 0 0 0 (fun _ => 0, fun _ => 0, fun _ _ => 0, fun _ _ => 0)
def TR5 (T : T5) (X : X5) (Bk N : Nat) (Z : Int32) : Prop :=
  (T.2.2.2.2.2.1 = Int32.ofNat N ∧ 0 < N ∧ N ≤ 65537 ∧ Bk ≤ 65537) ∧
  (∀ t, t < N → T.2.2.1 t = X.2.1 (Bk + t)) ∧
  (∀ t, t < N → kd5 (T.2.1 t) (X.1 (Bk + t)) (X.2.2.1 (Bk + t))) ∧
  (∀ t, t < N → ((T.2.1 t = 142 ∨ T.2.1 t = 143) ↔ t + 1 = N)) ∧
  (∀ t, t < N → T.2.1 t = 141 → f5_Ta_numberAt T (Int32.ofNat t) = X.2.2.1 (Bk + t)) ∧
  (∀ t u, t < N → u < N → T.2.1 t = 140 → T.2.1 u = 140 → (dn5 T t u ↔ (X.2.2.2.2 (Bk + t) = X.2.2.2.2 (Bk + u) ∧ X.2.2.2.1 (Bk + t) = X.2.2.2.1 (Bk + u)))) ∧
  (∀ t, t < N → T.2.1 t = 140 → 0 < (T.2.2.2.1 t).toInt ∧ (T.2.2.2.1 t).toInt ≤ 12 ∧ 0 ≤ (T.2.2.1 t).toInt ∧ (T.2.2.1 t).toInt ≤ 65536) ∧
  (∀ t, t < N → T.2.1 t = 140 → f5_Ta_isMain T (Int32.ofNat t) = if X.2.2.2.2 (Bk + t) = mW5 ∧ X.2.2.2.1 (Bk + t) = 0 then 1 else 0) ∧
  (T.2.1 (N - 1) = 142 → T.2.2.1 (N - 1) = Z)
def by5 (F : Int64) (G : Int32) (i : Nat) : BitVec 8 := if i < 8 then b8_5 F i else b4_5 G (i - 8)
theorem by_n55 {B : Nat → Int32} {p k i : Nat} {F : Int64} {G : Int32} (h : nmP5 B p k F G) (hi : i < 12) : by5 F G i = if i < k then BitVec.ofNat 8 (B (p + i)).toInt.toNat else 0 := by
  unfold by5
  by_cases c : i < 8
  · rw [if_pos c, h.1 i c]
  · rw [if_neg c, h.2 (i - 8) (by omega), show 8 + (i - 8) = i by omega, show p + 8 + (i - 8) = p + i by omega]
theorem by_e5 {F F' : Int64} {G G' : Int32} (h : ∀ i, i < 12 → by5 F G i = by5 F' G' i) : F = F' ∧ G = G' := by
  refine ⟨b8_e5 (fun i hi => ?_), b4_e5 (fun i hi => ?_)⟩
  · have z := h i (by omega)
    unfold by5 at z
    rw [if_pos hi, if_pos hi] at z
    exact z
  · have z := h (8 + i) (by omega)
    unfold by5 at z
    rw [if_neg (by omega), if_neg (by omega), show 8 + i - 8 = i by omega] at z
    exact z
theorem bz_5 {x : Int32} (h : 0 < x.toInt) (h1 : x.toInt < 256) : (0 : BitVec 8) ≠ BitVec.ofNat 8 x.toInt.toNat := fun z => by
  have y := congrArg BitVec.toNat z
  rw [BitVec.toNat_ofNat, Nat.mod_eq_of_lt (by omega)] at y
  have t : (0 : BitVec 8).toNat = 0 := rfl
  rw [t] at y
  omega
theorem nP_iff5 {B : Nat → Int32} {p q s u : Nat} {F F' : Int64} {G G' : Int32} (h : nmP5 B p s F G) (h' : nmP5 B q u F' G') (hs : s ≤ 12) (hu : u ≤ 12) (hp : ∀ i, i < s → cL5 (B (p + i)) = true) (hq : ∀ i, i < u → cL5 (B (q + i)) = true) : (F = F' ∧ G = G') ↔ (s = u ∧ ∀ i, i < s → B (p + i) = B (q + i)) := by
  constructor
  · rintro ⟨e1, e2⟩
    subst e1
    subst e2
    have hk : ∀ i, i < 12 → (if i < s then BitVec.ofNat 8 (B (p + i)).toInt.toNat else 0) = (if i < u then BitVec.ofNat 8 (B (q + i)).toInt.toNat else 0) := fun i hi => by rw [← by_n55 h hi, ← by_n55 h' hi]
    have e : s = u := by
      rcases Nat.lt_trichotomy s u with c | c | c
      · have z := hk s (by omega)
        rw [if_neg (by omega), if_pos c] at z
        have w := lt_15 (hq s c)
        exact absurd z (bz_5 w.1 (by omega))
      · exact c
      · have z := hk u (by omega)
        rw [if_pos c, if_neg (by omega)] at z
        have w := lt_15 (hp u c)
        exact absurd z.symm (bz_5 w.1 (by omega))
    refine ⟨e, fun i hi => ?_⟩
    have z := hk i (by omega)
    rw [if_pos hi, if_pos (by omega)] at z
    have w1 := lt_15 (hp i hi)
    have w2 := lt_15 (hq i (by omega))
    exact bv_85 (by omega) (by omega) (by omega) (by omega) z
  · rintro ⟨e, hb⟩
    subst e
    refine by_e5 (fun i hi => ?_)
    rw [by_n55 h hi, by_n55 h' hi]
    by_cases c : i < s
    · rw [if_pos c, if_pos c, hb i c]
    · rw [if_neg c, if_neg c]
theorem rw_05 : ∀ n, n < 256 → ((Int32.ofNat n - 128) &&& 255).toInt < 128 → ((Int32.ofNat n - 128) &&& 255) = (Int32.ofNat n - 128) := by decide +kernel
/-- a letter's byte as it lies -/
theorem rw_5 {x : Int32} (h0 : -128 ≤ x.toInt) (h1 : x.toInt ≤ 127) (h : (x &&& 255).toInt < 128) : (x &&& 255) = x := by
  have e : x = Int32.ofNat (x.toInt + 128).toNat - 128 := by
    apply Int32.toInt_inj.mp
    have l := ofn_i (n := (x.toInt + 128).toNat) (by omega)
    have l2 : (128 : Int32).toInt = 128 := rfl
    rw [sub_i (by omega) (by omega), l, l2]
    omega
  have z := rw_05 (x.toInt + 128).toNat (by omega)
  rw [← e] at z
  exact z h
theorem nu_m5 {T : T5} {B : Nat → Int32} {t p s n : Nat} (H : okU5 (ut5 T)) (hB : bU5 (ut5 T) = B) (hn : nU5 (ut5 T) = n) (hN : t < T.2.2.2.2.2.1.toInt.toNat) (ht : t ≤ 65537) (hp : T.2.2.1 t = Int32.ofNat p) (hs : T.2.2.2.1 t = Int32.ofNat s) (hb : p + s ≤ n) (hn2 : n ≤ 65536) : ∀ (m k : Nat) (v : Int32), k ≤ s → s - k < m → v = nv5 B p k → f5_Ta_numberAt_4 T m (Int32.ofNat t) v (Int32.ofNat k) = nv5 B p s
  | 0, _, _, _, h, _ => by omega
  | m + 1, k, v, hk, hm, hv => by
    have lt := ofn_i (n := t) (by omega)
    have ls := ofn_i (n := s) (by omega)
    have lk := ofn_i (n := k) (by omega)
    have lp := ofn_i (n := p + k) (by omega)
    rw [f5_Ta_numberAt_4]
    dsimp only [pb5]
    rw [cl_5 (by omega), hp, hs, if_neg (by rw [lti, t0i]; omega), if_neg (by rw [lei]; omega)]
    by_cases c : k = s
    · rw [if_pos (by rw [lei]; omega), hv, c]
    · rw [if_neg (by rw [lei]; omega), on_5 (by omega), by_5 H (by omega), lp, hB, hn]
      rw [show ((p + k : Nat) : Int).toNat = p + k by omega, ba_5 (by omega), on_15 (by omega)]
      exact nu_m5 H hB hn hN ht hp hs hb hn2 m (k + 1) _ (by omega) (by omega) (by rw [hv]; rfl)
theorem mi_5 {T : T5} {B : Nat → Int32} {t p s n N : Nat} {F : Int64} {G : Int32} (H : okU5 (ut5 T)) (hB : bU5 (ut5 T) = B) (hn : nU5 (ut5 T) = n) (hT : T.2.2.2.2.2.1 = Int32.ofNat N) (hN : t < N) (hN2 : N ≤ 65537) (hp : T.2.2.1 t = Int32.ofNat p) (hs : T.2.2.2.1 t = Int32.ofNat s) (hb : p + s ≤ n) (hn2 : n ≤ 65536) (h : nmP5 B p s F G) (hc : ∀ i, i < s → cL5 (B (p + i)) = true) : f5_Ta_isMain T (Int32.ofNat t) = if F = mW5 ∧ G = 0 then 1 else 0 := by
  have hm := fw_5 (W := mW5) (w := mn5) h (fun i hi => by have w := lt_15 (hc i hi); omega) (by decide +kernel) (by decide) (by decide)
  have lt := ofn_i (n := t) (by omega)
  have lN := ofn_i (n := N) (by omega)
  have ls := ofn_i (n := s) (by omega)
  have lp := ofn_i (n := p) (by omega)
  unfold f5_Ta_isMain
  dsimp only [pb5]
  rw [cl_5 (by omega), hT, hp, hs, if_neg (by rw [lti, t0i]; omega), if_neg (by rw [lei]; omega)]
  by_cases c : s = 4
  · subst c
    rw [if_pos (show Int32.ofNat 4 = 4 from rfl)]
    have hr := rd_U5 (t3 := mn5) (w := mn5) (p := p) (q := 0) H lp (by rw [hn]; exact hb) (by decide) (by decide) (by decide)
    have hr2 : f5_Ta_reads (ut5 T) mn5 (Int32.ofNat p) 4 0 = if nmqq5 B p 4 = mn5 then 1 else 0 := by
      rw [← hB]; exact hr
    rw [hr2]
    by_cases z : nmqq5 B p 4 = mn5
    · rw [if_pos z, if_pos (hm.mpr z)]
      exact if_neg (by decide)
    · rw [if_neg z, if_neg (fun y => z (hm.mp y))]
      exact if_pos rfl
  · rw [if_neg (fun z => by
      have y := congrArg Int32.toInt z
      rw [ls] at y
      have e4 : (4 : Int32).toInt = 4 := rfl
      omega), if_neg (fun y => by
      have z := nm_l5 (B := B) (p := p) (s := s)
      rw [hm.mp y] at z
      exact c z.symm)]
/-- a name's token -/
theorem tA_n5 {y : Y5} {σ : rS} {B : Nat → Int32} {n Bk t : Nat} (h : tkA5 y σ B n Bk t) (hK : y.1 t = 140) : ∃ p s : Nat, p + s ≤ n ∧ y.2.1 t = Int32.ofNat p ∧ y.2.2.1 t = Int32.ofNat s ∧ 0 < s ∧ s ≤ 12 ∧ nmP5 B p s (σ.2.2.2 8 (Bk + t)) (σ.2.2.1 9 (Bk + t)) ∧ ∀ i, i < s → cL5 (B (p + i)) = true := by
  obtain ⟨p, s, a, b, c, d, e⟩ := h
  rw [hK] at e
  have k : (140 : Int32).toInt = 140 := rfl
  rcases e with ⟨e, _⟩ | ⟨_, _, e0, e1, e2, e3⟩ | ⟨e, _⟩ | ⟨e, _⟩ | ⟨_, e⟩
  · exact absurd e (by decide)
  · exact ⟨p, s, a, b, c, e0, e1, e2, e3⟩
  · exact absurd e (by decide)
  · rw [k] at e; omega
  · rcases e with ⟨_, e, _⟩ | ⟨_, e, _⟩ <;> rw [k] at e <;> omega

end
section
set_option maxHeartbeats 1600000
theorem tA_m5 {y : Y5} {σ : rS} {B : Nat → Int32} {n Bk t : Nat} (h : tkA5 y σ B n Bk t) (hK : y.1 t = 141) : ∃ p s : Nat, p + s ≤ n ∧ y.2.1 t = Int32.ofNat p ∧ y.2.2.1 t = Int32.ofNat s ∧ σ.2.2.1 7 (Bk + t) = nv5 B p s := by
  obtain ⟨p, s, a, b, c, d, e⟩ := h
  rw [hK] at e
  have k : (141 : Int32).toInt = 141 := rfl
  rcases e with ⟨e, _⟩ | ⟨e, _⟩ | ⟨_, _, e⟩ | ⟨e, _⟩ | ⟨_, e⟩
  · exact absurd e (by decide)
  · exact absurd e (by decide)
  · exact ⟨p, s, a, b, c, e⟩
  · rw [k] at e; omega
  · rcases e with ⟨_, e, _⟩ | ⟨_, e, _⟩ <;> rw [k] at e <;> omega
theorem tA_k5 {y : Y5} {σ : rS} {B : Nat → Int32} {n Bk t : Nat} (h : tkA5 y σ B n Bk t) : kd5 (y.1 t) (σ.2.2.1 5 (Bk + t)) (σ.2.2.1 7 (Bk + t)) ∧ y.1 t ≠ 142 ∧ y.2.1 t = σ.2.2.1 6 (Bk + t) := by
  obtain ⟨p, s, a, b, c, d, e⟩ := h
  refine ⟨?_, (tR_k5 e).1, by rw [b, d]⟩
  rcases e with e | ⟨e1, e2, _⟩ | ⟨e1, e2, _⟩ | e | e
  · exact Or.inl e
  · exact Or.inr (Or.inl ⟨e1, e2⟩)
  · exact Or.inr (Or.inr (Or.inl ⟨e1, e2⟩))
  · exact Or.inr (Or.inr (Or.inr (Or.inr (Or.inl e))))
  · exact Or.inr (Or.inr (Or.inr (Or.inr (Or.inr e))))
/-- the class's rows as the record has them -/
theorem TR_5 {U : U5} {e : E5} {σ : rS} {n Bk N : Nat} {B : Nat → Int32} {Z : Int32} (HU : okU5 U) (hr : ∀ j, -128 ≤ (U.1 j).toInt ∧ (U.1 j).toInt ≤ 127) (hB : bU5 U = B) (hn : nU5 U = n) (hn2 : n ≤ 65536) (hBk : Bk ≤ 65537) (hy : (my5 (e.2.1 taKinds) (e.1 taTotal), my5 (e.2.1 taPlaces) (e.1 taTotal), my5 (e.2.1 taLengths) (e.1 taTotal), e.1 taTotal) = f5_Ta_split U) (hU : (e.2.1 taBytes, e.1 taLength, e.2.2 taBytes) = U) (hK : TK5 (f5_Ta_split U) σ B n Bk N) (hZ : Z = Int32.ofNat n) : TR5 (tq5 e) (sx5 σ) Bk N Z := by
  rw [← hy] at hK
  obtain ⟨k1, k2, k3, k4, k5⟩ := hK
  have ht : e.1 taTotal = Int32.ofNat N := k1
  have hut : ut5 (tq5 e) = U := hU
  have my : ∀ (f : Nat → Int32) t, t < N → my5 f (e.1 taTotal) t = f t := fun f t h => by
    unfold my5
    rw [ht, cl_5 (by omega), if_pos h]
  -- every token
  have hA : ∀ t, t < N → tkA5 (e.2.1 taKinds, e.2.1 taPlaces, e.2.1 taLengths, e.1 taTotal) σ B n Bk t ∨ (t + 1 = N ∧ tkZ5 (e.2.1 taKinds, e.2.1 taPlaces, e.2.1 taLengths, e.1 taTotal) σ n Bk t) := fun t h => by
    by_cases c : t + 1 < N
    · exact Or.inl (tkA_k5 (k4 t c).1 (my _ t h).symm (my _ t h).symm (my _ t h).symm (fun _ _ => rfl) rfl)
    · have et : N - 1 = t := by omega
      rw [et] at k5
      rcases k5 with ⟨q, _⟩ | q
      · exact Or.inl (tkA_k5 q (my _ t h).symm (my _ t h).symm (my _ t h).symm (fun _ _ => rfl) rfl)
      · refine Or.inr ⟨by omega, ?_, ?_, q.2.2.1, q.2.2.2⟩
        · have z := q.1
          dsimp only at z
          rw [my _ t h] at z
          exact z
        · have z := q.2.1
          dsimp only at z
          rw [my _ t h] at z
          exact z
  have hk : ∀ t, t < N → ((e.2.1 taKinds t = 142 ∨ e.2.1 taKinds t = 143) ↔ t + 1 = N) := fun t h => by
    constructor
    · intro q
      by_cases c : t + 1 < N
      · exfalso
        have z := k4 t c
        have z1 := (tA_k5 z.1).2.1
        have z2 := z.2
        dsimp only at z1 z2
        rw [my _ t h] at z1 z2
        rcases q with q | q
        · exact z1 q
        · exact z2 q
      · omega
    · intro q
      have et : N - 1 = t := by omega
      rw [et] at k5
      rcases k5 with ⟨_, z⟩ | z
      · dsimp only at z
        rw [my _ t h] at z
        exact Or.inr z
      · have w := z.1
        dsimp only at w
        rw [my _ t h] at w
        exact Or.inl w
  have nm : ∀ t, t < N → e.2.1 taKinds t = 140 → ∃ p s : Nat, p + s ≤ n ∧ e.2.1 taPlaces t = Int32.ofNat p ∧ e.2.1 taLengths t = Int32.ofNat s ∧ 0 < s ∧ s ≤ 12 ∧ nmP5 B p s (σ.2.2.2 8 (Bk + t)) (σ.2.2.1 9 (Bk + t)) ∧ ∀ i, i < s → cL5 (B (p + i)) = true := fun t h q => by
    rcases hA t h with z | z
    · exact tA_n5 z q
    · have w := z.2.1
      dsimp only at w
      rw [w] at q
      exact absurd q (by decide)
  have raw : ∀ j, cL5 (B j) = true → e.2.1 taBytes j = B j := fun j h => by
    have w := lt_15 h
    rw [← hB] at w ⊢
    have z := hr j
    have q : U.1 j = e.2.1 taBytes j := by rw [← hU]
    rw [← q]
    exact (rw_5 z.1 z.2 w.2).symm
  refine ⟨⟨ht, k2, by omega, hBk⟩, fun t h => ?_, fun t h => ?_, hk, fun t h q => ?_, fun t u h1 h2 q1 q2 => ?_, fun t h q => ?_, fun t h q => ?_, fun q => ?_⟩
  · show e.2.1 taPlaces t = σ.2.2.1 6 (Bk + t)
    rcases hA t h with z | z
    · exact (tA_k5 z).2.2
    · rw [z.2.2.2.2]
      exact z.2.2.1
  · show kd5 (e.2.1 taKinds t) (σ.2.2.1 5 (Bk + t)) (σ.2.2.1 7 (Bk + t))
    rcases hA t h with z | z
    · exact (tA_k5 z).1
    · exact Or.inr (Or.inr (Or.inr (Or.inl ⟨z.2.1, z.2.2.2.1⟩)))
  · show _ = σ.2.2.1 7 (Bk + t)
    have q' : e.2.1 taKinds t = 141 := q
    rcases hA t h with z | z
    · obtain ⟨p, s, a, b, c, d⟩ := tA_m5 z q'
      rw [d]
      have lN := ofn_i (n := N) (by omega)
      unfold f5_Ta_numberAt
      refine nu_m5 (T := tq5 e) (n := n) (p := p) (s := s) (by rw [hut]; exact HU) (by rw [hut]; exact hB) (by rw [hut]; exact hn) (by show t < (e.1 taTotal).toInt.toNat; rw [ht, lN]; omega) (by omega) b c a hn2 fu5 0 0 (by omega) (by unfold fu5; omega) rfl
    · have w := z.2.1
      dsimp only at w
      rw [w] at q'
      exact absurd q' (by decide)
  · obtain ⟨p, s, a, b, c, d0, d, f, g⟩ := nm t h1 q1
    obtain ⟨p', s', a', b', c', d0', d', f', g'⟩ := nm u h2 q2
    refine Iff.trans ?_ (nP_iff5 f f' d d' g g').symm
    have ls := ofn_i (n := s) (by omega)
    have ls' := ofn_i (n := s') (by omega)
    have lp := ofn_i (n := p) (by omega)
    have lp' := ofn_i (n := p') (by omega)
    have v : dn5 (tq5 e) t u ↔ (Int32.ofNat s = Int32.ofNat s' ∧ 0 < (Int32.ofNat s').toInt ∧ ∀ i : Nat, (i : Int) < (Int32.ofNat s').toInt → e.2.1 taBytes (p + i) = e.2.1 taBytes (p' + i)) := by
      show (e.2.1 taLengths t = e.2.1 taLengths u ∧ 0 < (e.2.1 taLengths u).toInt ∧ ∀ i : Nat, (i : Int) < (e.2.1 taLengths u).toInt → e.2.1 taBytes ((e.2.1 taPlaces t).toInt.toNat + i) = e.2.1 taBytes ((e.2.1 taPlaces u).toInt.toNat + i)) ↔ _
      rw [b, c, b', c', lp, lp']
      exact Iff.rfl
    refine v.trans ⟨fun ⟨v1, v2, v3⟩ => ?_, fun ⟨v1, v2⟩ => ?_⟩
    · have es : s = s' := by
        have y := congrArg Int32.toInt v1
        rw [ls, ls'] at y
        omega
      refine ⟨es, fun i hi => ?_⟩
      rw [← raw _ (g i hi), ← raw _ (g' i (by omega))]
      exact v3 i (by rw [ls']; omega)
    · subst v1
      refine ⟨rfl, by rw [ls]; omega, fun i hi => ?_⟩
      rw [ls] at hi
      rw [raw _ (g i (by omega)), raw _ (g' i (by omega))]
      exact v2 i (by omega)
  · obtain ⟨p, s, a, b, c, d0, d, f, g⟩ := nm t h q
    have ls := ofn_i (n := s) (by omega)
    have lp := ofn_i (n := p) (by omega)
    show 0 < (e.2.1 taLengths t).toInt ∧ (e.2.1 taLengths t).toInt ≤ 12 ∧ 0 ≤ (e.2.1 taPlaces t).toInt ∧ (e.2.1 taPlaces t).toInt ≤ 65536
    rw [b, c, ls, lp]
    omega
  · obtain ⟨p, s, a, b, c, d0, d, f, g⟩ := nm t h q
    exact mi_5 (n := n) (by rw [hut]; exact HU) (by rw [hut]; exact hB) (by rw [hut]; exact hn) ht h (by omega) b c a hn2 f g
  · have q' : e.2.1 taKinds (N - 1) = 142 := q
    show e.2.1 taPlaces (N - 1) = Z
    rcases hA (N - 1) (by omega) with z | z
    · exact absurd q' (tA_k5 z).2.1
    · rw [hZ]
      exact z.2.2.1

end
section
set_option maxHeartbeats 1600000
/-! both readings side by side: states that are alike, results that are alike -/
abbrev V5 : Type := Int32 × (Nat → Int32) × Int32 × (Nat → Int32) × Int32 × (Nat → Int32) × (Nat → Int32) × Int32 × (Nat → Int32) × Int32 × (Nat → Int32) × Int32 × (Nat → Int32) × (Nat → Int32) × Int32 × (Nat → Nat)
abbrev W5 : Type := Int32 × (Nat → Int32) × Int32 × (Nat → Int32) × Int32 × (Nat → Int32) × (Nat → Int32) × (Nat → Int32) × (Nat → Int32) × Int32 × Int32 × (Nat → Int32) × (Nat → Int32) × Int32 × (Nat → Int32) × (Nat → Int32)
/-- what the class has told: vars, arrays, functions with counts, own names, statements, blocks -/
def gE5 (e : E5) : V5 := (e.1 509, e.2.1 1006, e.1 510, e.2.1 1007, e.1 512, e.2.1 1008, e.2.1 504, e.1 1010, e.2.1 1009, e.1 513, e.2.1 506, e.1 1014, e.2.1 1011, e.2.1 1013, e.1 1005, e.2.2)
def gS5 (σ : rS) : W5 := (σ.1 15, σ.2.2.1 20, σ.1 16, σ.2.2.1 22, σ.1 18, σ.2.2.1 25, σ.2.2.1 26, σ.2.2.1 27, σ.2.2.1 28, σ.1 41, σ.1 19, σ.2.2.1 30, σ.2.2.1 32, σ.1 42, σ.2.2.1 43, σ.2.2.1 45)
/-- states alike: the token that is looked at, no fault, as many brackets open (l at least) -/
def LR5 (T : T5) (X : X5) (Bk N : Nat) (Z : Int32) (V : V5) (W : W5) (a l : Nat) (e : E5) (σ : rS) : Prop :=
  (tq5 e = T ∧ sx5 σ = X ∧ σ.1 2 = Z) ∧ (gE5 e = V ∧ gS5 σ = W) ∧ (a < N ∧ e.1 paAt = Int32.ofNat a ∧ σ.1 10 = Int32.ofNat (Bk + a) ∧ e.1 paKind = T.2.1 a ∧ T.2.1 a ≠ 143) ∧ (σ.1 11 = 0 ∧ σ.1 46 = 0 ∧ σ.1 47 = 0) ∧ (σ.1 13 = e.1 paOpen ∧ (l : Int) ≤ (e.1 paOpen).toInt ∧ (e.1 paOpen).toInt ≤ 40)
/-- results alike -/
def sr5 {α : Type} (Q : E5 → α → rS → Prop) (r : R5 α) (σ : rS) : Prop := r = .inr (0, 0) ∨ (∃ e a, r = .inl (e, a) ∧ e.1 paKind ≠ 143 ∧ Q e a σ) ∨ (∃ f p, f ≠ 0 ∧ σ.1 11 = f ∧ σ.1 12 = p ∧ (r = .inr (f, p) ∨ (f = 1 ∧ ∃ e a, r = .inl (e, a) ∧ e.1 paKind = 143 ∧ pl5 (e.1 paAt) e = p)))
/-- a bad token is looked at -/
def dk5 (p : Int32) (e : E5) : Prop := e.1 paKind = 143 ∧ pl5 (e.1 paAt) e = p
def dq5 {α : Type} (p : Int32) (r : R5 α) : Prop := r = .inr (0, 0) ∨ r = .inr (1, p) ∨ ∃ e a, r = .inl (e, a) ∧ dk5 p e
theorem dq_b5 {α β : Type} {p : Int32} {m : R5 α} {k : E5 → α → R5 β} (h : dq5 p m) (hk : ∀ e a, dk5 p e → dq5 p (k e a)) : dq5 p (rdB5 m k) := by
  rcases h with h | h | ⟨e, a, h, d⟩
  · rw [h]; exact Or.inl rfl
  · rw [h]; exact Or.inr (Or.inl rfl)
  · rw [h]; exact hk e a d
theorem dq_i5 {α : Type} {p : Int32} {e : E5} {a : α} (h : dk5 p e) : dq5 p (.inl (e, a)) := Or.inr (Or.inr ⟨e, a, rfl, h⟩)
theorem dq_r5 {α : Type} {p f t : Int32} {e : E5} (h : dk5 p e) : dq5 (α := α) p (.inr (rv5 f t e)) := by
  refine Or.inr (Or.inl ?_)
  unfold rv5
  rw [if_pos h.1, if_pos h.1, h.2]
theorem dq_n5 {α : Type} {p c : Int32} {e : E5} {A B : R5 α} (h : dk5 p e) (hc : ¬ (143 : Int32) = c) (hB : dq5 p B) : dq5 p (if e.1 paKind = c then A else B) := by
  rw [if_neg (by rw [h.1]; exact hc)]
  exact hB
theorem dq_f5 {α : Type} {p : Int32} {c : Prop} [Decidable c] {A B : R5 α} (hA : dq5 p A) (hB : dq5 p B) : dq5 p (if c then A else B) := by
  by_cases h : c
  · rw [if_pos h]; exact hA
  · rw [if_neg h]; exact hB
theorem dq_x5 {α β : Type} {p : Int32} {m : R5 α} {k : E5 → α → R5 β} (h : m = .inr (1, p)) : dq5 p (rdB5 m k) := by
  rw [h]; exact Or.inr (Or.inl rfl)
theorem dx_r5 {α : Type} {p f t : Int32} {e : E5} (h : dk5 p e) : (.inr (rv5 f t e) : R5 α) = .inr (1, p) := by
  unfold rv5
  rw [if_pos h.1, if_pos h.1, h.2]
theorem dx_expect {p c : Int32} {e : E5} (h : dk5 p e) (hc : ¬ (143 : Int32) = c) : f5_Pa_expect c e = .inr (1, p) := by
  unfold f5_Pa_expect
  rw [if_neg (by rw [h.1]; exact hc)]
  exact dx_r5 h
theorem dx_pass {p c : Int32} {e : E5} (h : dk5 p e) (hc : ¬ (143 : Int32) = c) : f5_Pa_pass c e = .inr (1, p) := by
  unfold f5_Pa_pass
  rw [if_neg (by rw [h.1]; exact hc)]
  exact dx_r5 h
theorem dx_open {p c : Int32} {e : E5} (h : dk5 p e) (hc : ¬ (143 : Int32) = c) : f5_Pa_openSign c e = .inr (1, p) := by
  unfold f5_Pa_openSign
  rw [if_neg (by rw [h.1]; exact hc)]
  exact dx_r5 h
theorem dx_close {p c : Int32} {e : E5} (h : dk5 p e) (hc : ¬ (143 : Int32) = c) : f5_Pa_closeSign c e = .inr (1, p) := by
  unfold f5_Pa_closeSign
  rw [if_neg (by rw [h.1]; exact hc)]
  exact dx_r5 h
theorem dx_newName {p a b : Int32} {e : E5} (h : dk5 p e) : f5_Pa_newName a b e = .inr (1, p) := by
  unfold f5_Pa_newName
  rw [dx_expect h (by decide)]
  rfl
theorem dx_b5 {α β : Type} {p : Int32} {m : R5 α} {k : E5 → α → R5 β} (h : m = .inr (1, p)) : rdB5 m k = .inr (1, p) := by
  rw [h]; rfl
theorem sr_b5 {α β : Type} {Q : E5 → α → rS → Prop} {Q' : E5 → β → rS → Prop} {m : R5 α} {k : E5 → α → R5 β} {σ1 σ2 : rS} (h : sr5 Q m σ1) (hk : ∀ e a, e.1 paKind ≠ 143 → Q e a σ1 → sr5 Q' (k e a) σ2) (hq : kq5 σ1 σ2) (hd : ∀ p e a, dk5 p e → dq5 p (k e a)) : sr5 Q' (rdB5 m k) σ2 := by
  rcases h with h | ⟨e, a, h, n, q⟩ | ⟨f, p, f0, s1, s2, h⟩
  · rw [h]; exact Or.inl rfl
  · rw [h]; exact hk e a n q
  · obtain ⟨y1, y2⟩ := hq (by rw [s1]; exact f0)
    rw [s1] at y1
    rw [s2] at y2
    rcases h with h | ⟨f1, e, a, h, n, q⟩
    · rw [h]; exact Or.inr (Or.inr ⟨f, p, f0, y1, y2, Or.inl rfl⟩)
    · rw [h]
      rcases hd p e a ⟨n, q⟩ with w | w | ⟨e', a', w, w2⟩
      · exact Or.inl w
      · exact Or.inr (Or.inr ⟨f, p, f0, y1, y2, Or.inl (by rw [f1]; exact w)⟩)
      · exact Or.inr (Or.inr ⟨f, p, f0, y1, y2, Or.inr ⟨f1, e', a', w, w2.1, w2.2⟩⟩)
theorem sr_m5 {α : Type} {Q Q' : E5 → α → rS → Prop} {r : R5 α} {σ : rS} (h : sr5 Q r σ) (hQ : ∀ e a, Q e a σ → Q' e a σ) : sr5 Q' r σ := by
  rcases h with h | ⟨e, a, h, n, q⟩ | h
  · exact Or.inl h
  · exact Or.inr (Or.inl ⟨e, a, h, n, hQ e a q⟩)
  · exact Or.inr (Or.inr h)
theorem sr_i5 {α : Type} {Q : E5 → α → rS → Prop} {e : E5} {a : α} {σ : rS} (hn : e.1 paKind ≠ 143) (h : Q e a σ) : sr5 Q (.inl (e, a)) σ := Or.inr (Or.inl ⟨e, a, rfl, hn, h⟩)
theorem sr_r5 {α : Type} {Q : E5 → α → rS → Prop} {f p : Int32} {σ : rS} (f0 : f ≠ 0) (h1 : σ.1 11 = f) (h2 : σ.1 12 = p) : sr5 Q (.inr (f, p)) σ := Or.inr (Or.inr ⟨f, p, f0, h1, h2, Or.inl rfl⟩)
/-- faults that stay over what comes behind -/
theorem sr_q5 {α : Type} {Q : E5 → α → rS → Prop} {f p : Int32} {σ1 σ2 : rS} (f0 : f ≠ 0) (h1 : σ1.1 11 = f) (h2 : σ1.1 12 = p) (hq : kq5 σ1 σ2) : sr5 Q (.inr (f, p)) σ2 := by
  obtain ⟨y1, y2⟩ := hq (by rw [h1]; exact f0)
  exact sr_r5 f0 (y1.trans h1) (y2.trans h2)
theorem ne105 : ¬ (1 : Int32) = 0 := by decide
theorem rdl_5 {α β : Type} {e : E5} {a : α} {k : E5 → α → R5 β} : rdB5 (.inl (e, a)) k = k e a := rfl
theorem rb_u5 {m : R5 Unit} : rdB5 m (fun e1 _ => .inl (e1, ())) = m := by
  rcases m with ⟨e, a⟩ | x <;> rfl
/-- kinds against sorts -/
theorem kd_s5 {K so nu c : Int32} (h : kd5 K so nu) (h0 : 0 < c.toInt) (h1 : c.toInt < 128) : (so = 3 ∧ nu = c) ↔ K = c := by
  have z3 : ∀ x : Int32, x ≠ 3 → so = x → ¬ so = 3 := fun x a b q => a (b.symm.trans q)
  rcases h with ⟨a, b⟩ | ⟨a, b⟩ | ⟨a, b⟩ | ⟨a, b⟩ | ⟨a, a2, b, d⟩ | ⟨b, d⟩
  · exact ⟨fun q => absurd q.1 (z3 4 (by decide) b), fun q => by rw [← q, a] at h1; exact absurd h1 (by decide)⟩
  · exact ⟨fun q => absurd q.1 (z3 1 (by decide) b), fun q => by rw [← q, a] at h1; exact absurd h1 (by decide)⟩
  · exact ⟨fun q => absurd q.1 (z3 2 (by decide) b), fun q => by rw [← q, a] at h1; exact absurd h1 (by decide)⟩
  · exact ⟨fun q => absurd q.1 (z3 5 (by decide) b), fun q => by rw [← q, a] at h1; exact absurd h1 (by decide)⟩
  · exact ⟨fun q => absurd q.1 (z3 6 (by decide) b), fun q => by rw [q] at a; omega⟩
  · rcases d with ⟨d1, d2, d3⟩ | ⟨d1, d2, d3⟩
    · exact ⟨fun q => by rw [← d3]; exact q.2, fun q => ⟨b, by rw [d3]; exact q⟩⟩
    · have e : nu.toInt = K.toInt + 128 := by
        have z : (128 : Int32).toInt = 128 := rfl
        rw [d3, add_i (by omega) (by omega), z]
      exact ⟨fun q => by rw [q.2] at e; omega, fun q => by rw [q] at d1; omega⟩
theorem kd_w5 {K so nu w : Int32} (h : kd5 K so nu) (h0 : 1 ≤ w.toInt) (h1 : w.toInt ≤ 13) : (so = 6 ∧ nu = w) ↔ K = 149 + w := by
  have z3 : ∀ x : Int32, x ≠ 6 → so = x → ¬ so = 6 := fun x a b q => a (b.symm.trans q)
  have z149 : (149 : Int32).toInt = 149 := rfl
  have ew : (149 + w).toInt = 149 + w.toInt := by rw [add_i (by omega) (by omega), z149]
  rcases h with ⟨a, b⟩ | ⟨a, b⟩ | ⟨a, b⟩ | ⟨a, b⟩ | ⟨a, a2, b, d⟩ | ⟨b, d⟩
  · exact ⟨fun q => absurd q.1 (z3 4 (by decide) b), fun q => by rw [← q, a] at ew; have z : (143 : Int32).toInt = 143 := rfl; omega⟩
  · exact ⟨fun q => absurd q.1 (z3 1 (by decide) b), fun q => by rw [← q, a] at ew; have z : (140 : Int32).toInt = 140 := rfl; omega⟩
  · exact ⟨fun q => absurd q.1 (z3 2 (by decide) b), fun q => by rw [← q, a] at ew; have z : (141 : Int32).toInt = 141 := rfl; omega⟩
  · exact ⟨fun q => absurd q.1 (z3 5 (by decide) b), fun q => by rw [← q, a] at ew; have z : (142 : Int32).toInt = 142 := rfl; omega⟩
  · have en : nu.toInt = K.toInt - 149 := by rw [d, sub_i (by omega) (by omega), z149]
    exact ⟨fun q => Int32.toInt_inj.mp (by rw [q.2] at en; omega), fun q => ⟨b, Int32.toInt_inj.mp (by rw [q] at en; omega)⟩⟩
  · refine ⟨fun q => absurd q.1 (z3 3 (by decide) b), fun q => ?_⟩
    rcases d with ⟨d1, d2, d3⟩ | ⟨d1, d2, d3⟩ <;> rw [q] at d1 d2 <;> omega
theorem kd_o5 {K so nu : Int32} (h : kd5 K so nu) : (so = 4 ↔ K = 143) ∧ (so = 1 ↔ K = 140) ∧ (so = 2 ↔ K = 141) ∧ (so = 5 ↔ K = 142) := by
  have k0 : (143 : Int32).toInt = 143 := rfl
  have k1 : (140 : Int32).toInt = 140 := rfl
  have k2 : (141 : Int32).toInt = 141 := rfl
  have k3 : (142 : Int32).toInt = 142 := rfl
  rcases h with ⟨a, b⟩ | ⟨a, b⟩ | ⟨a, b⟩ | ⟨a, b⟩ | ⟨a, a2, b, d⟩ | ⟨b, d⟩
  · rw [a, b]; decide
  · rw [a, b]; decide
  · rw [a, b]; decide
  · rw [a, b]; decide
  · rw [b]
    exact ⟨⟨fun q => absurd q (by decide), fun q => by rw [q] at a; omega⟩, ⟨fun q => absurd q (by decide), fun q => by rw [q] at a; omega⟩, ⟨fun q => absurd q (by decide), fun q => by rw [q] at a; omega⟩, ⟨fun q => absurd q (by decide), fun q => by rw [q] at a; omega⟩⟩
  · rw [b]
    have w : K.toInt ≤ 131 := by rcases d with ⟨d1, d2, d3⟩ | ⟨d1, d2, d3⟩ <;> omega
    exact ⟨⟨fun q => absurd q (by decide), fun q => by rw [q] at w; omega⟩, ⟨fun q => absurd q (by decide), fun q => by rw [q] at w; omega⟩, ⟨fun q => absurd q (by decide), fun q => by rw [q] at w; omega⟩, ⟨fun q => absurd q (by decide), fun q => by rw [q] at w; omega⟩⟩
/-- what a token taken leaves -/
def tkF5 (e e' : E5) : Prop := e'.2 = e.2 ∧ ∀ g, g ≠ 1002 → g ≠ 1003 → g ≠ 1004 → e'.1 g = e.1 g
def tkS5 (σ σ' : rS) : Prop := σ'.2 = σ.2 ∧ ∀ g, g ≠ 10 → g ≠ 13 → σ'.1 g = σ.1 g
theorem tkF_t5 {e f g : E5} (h : tkF5 e f) (k : tkF5 f g) : tkF5 e g := ⟨k.1.trans h.1, fun j a b c => (k.2 j a b c).trans (h.2 j a b c)⟩
theorem tkS_t5 {e f g : rS} (h : tkS5 e f) (k : tkS5 f g) : tkS5 e g := ⟨k.1.trans h.1, fun j a b => (k.2 j a b).trans (h.2 j a b)⟩
theorem tkF_o5 {e : E5} {x : Int32} : tkF5 e (fun g => if g = paOpen then x else e.1 g, e.2) := ⟨rfl, fun g _ _ h => if_neg h⟩
theorem tkS_o5 {σ : rS} {x : Int32} : tkS5 σ (siU σ 13 x) := ⟨rfl, fun g _ h => by rw [si1, if_neg h]⟩
section
variable {T : T5} {X : X5} {Bk N : Nat} {Z : Int32} {V : V5} {W : W5} {a l : Nat} {e : E5} {σ : rS}
theorem lr_so5 (H : TR5 T X Bk N Z) (L : LR5 T X Bk N Z V W a l e σ) : σ.2.2.1 5 (σ.1 10).toNatClampNeg = X.1 (Bk + a) ∧ σ.2.2.1 7 (σ.1 10).toNatClampNeg = X.2.2.1 (Bk + a) ∧ σ.2.2.1 6 (σ.1 10).toNatClampNeg = X.2.1 (Bk + a) := by
  have h1 := H.1
  have h2 := L.2.2.1
  have e1 : (σ.1 10).toNatClampNeg = Bk + a := by rw [h2.2.2.1, cl_5 (by omega)]
  have e2 : sx5 σ = X := L.1.2.1
  rw [e1, ← e2]
  exact ⟨rfl, rfl, rfl⟩
theorem lr_kd5 (H : TR5 T X Bk N Z) (L : LR5 T X Bk N Z V W a l e σ) : kd5 (e.1 paKind) (X.1 (Bk + a)) (X.2.2.1 (Bk + a)) := by
  rw [L.2.2.1.2.2.2.1]
  exact H.2.2.1 a L.2.2.1.1
theorem lr_at5 {c : Int32} (H : TR5 T X Bk N Z) (L : LR5 T X Bk N Z V W a l e σ) (h0 : 0 < c.toInt) (h1 : c.toInt < 128) : g5_isAt c σ = if e.1 paKind = c then 1 else 0 := by
  obtain ⟨s1, s2, _⟩ := lr_so5 H L
  have k := kd_s5 (lr_kd5 H L) h0 h1
  unfold g5_isAt
  rw [s1, s2]
  by_cases q : e.1 paKind = c
  · obtain ⟨q1, q2⟩ := k.mpr q
    rw [if_pos q, if_pos q1, if_pos q2]
  · rw [if_neg q]
    by_cases q1 : X.1 (Bk + a) = 3
    · rw [if_pos q1, if_neg (fun q2 => q (k.mp ⟨q1, q2⟩))]
    · rw [if_neg q1]
theorem lr_wd5 {w : Int32} (H : TR5 T X Bk N Z) (L : LR5 T X Bk N Z V W a l e σ) (h0 : 1 ≤ w.toInt) (h1 : w.toInt ≤ 13) : g5_isWord w σ = if e.1 paKind = 149 + w then 1 else 0 := by
  obtain ⟨s1, s2, _⟩ := lr_so5 H L
  have k := kd_w5 (lr_kd5 H L) h0 h1
  unfold g5_isWord
  rw [s1, s2]
  by_cases q : e.1 paKind = 149 + w
  · obtain ⟨q1, q2⟩ := k.mpr q
    rw [if_pos q, if_pos q1, if_pos q2]
  · rw [if_neg q]
    by_cases q1 : X.1 (Bk + a) = 6
    · rw [if_pos q1, if_neg (fun q2 => q (k.mp ⟨q1, q2⟩))]
    · rw [if_neg q1]
theorem lr_ir5 (L : LR5 T X Bk N Z V W a l e σ) : g5_isRight σ = 1 := if_pos L.2.2.2.1.1
theorem lr_k5 (L : LR5 T X Bk N Z V W a l e σ) : e.1 paKind ≠ 143 := by
  rw [L.2.2.1.2.2.2.1]
  exact L.2.2.1.2.2.2.2
/-- a place in the text -/
theorem lr_pl5 {t : Nat} (H : TR5 T X Bk N Z) (L : LR5 T X Bk N Z V W a l e σ) (ht : t < N) : pl5 (Int32.ofNat t) e = T.2.2.1 t := by
  have h1 := H.1
  have e1 : e.1 taTotal = T.2.2.2.2.2.1 := by rw [← L.1.1]; rfl
  have e2 : e.2.1 taPlaces = T.2.2.1 := by rw [← L.1.1]; rfl
  have l1 := ofn_i (n := t) (by omega)
  have l2 := ofn_i (n := N) (by omega)
  unfold pl5
  rw [e1, e2, h1.1, if_neg (by rw [lti, t0i]; omega), if_neg (by rw [lei]; omega), cl_5 (by omega)]
theorem lr_rv5 {f : Int32} {t : Nat} (H : TR5 T X Bk N Z) (L : LR5 T X Bk N Z V W a l e σ) (ht : t < N) : rv5 f (Int32.ofNat t) e = (f, T.2.2.1 t) := by
  unfold rv5
  rw [if_neg (lr_k5 L), if_neg (lr_k5 L), lr_pl5 H L ht]
theorem lr_rva5 {f : Int32} (H : TR5 T X Bk N Z) (L : LR5 T X Bk N Z V W a l e σ) : rv5 f (e.1 paAt) e = (f, T.2.2.1 a) := by
  rw [L.2.2.1.2.1]
  exact lr_rv5 H L L.2.2.1.1
theorem fl_5 {f t1 : Int32} {t : Nat} (H : TR5 T X Bk N Z) (hx : sx5 σ = X) (h0 : σ.1 11 = 0) (ht1 : t1 = Int32.ofNat (Bk + t)) (ht : t < N) (hk : T.2.1 t ≠ 143) : (g5_flaw f t1 σ).1 11 = f ∧ (g5_flaw f t1 σ).1 12 = T.2.2.1 t := by
  have h1 := H.1
  have e1 : t1.toNatClampNeg = Bk + t := by rw [ht1, cl_5 (by omega)]
  have e5 : σ.2.2.1 5 (Bk + t) = X.1 (Bk + t) := by rw [← hx]; rfl
  have e6 : σ.2.2.1 6 (Bk + t) = X.2.1 (Bk + t) := by rw [← hx]; rfl
  have k := (kd_o5 (H.2.2.1 t ht)).1
  unfold g5_flaw g5_flaw_23
  dsimp only [pb5]
  rw [if_pos h0, e1, e5, if_neg (fun q => hk (k.mp q))]
  refine ⟨rfl, ?_⟩
  rw [H.2.1 t ht, ← e6]
  rfl
theorem lr_fl5 {f : Int32} (H : TR5 T X Bk N Z) (L : LR5 T X Bk N Z V W a l e σ) : (g5_flaw f (σ.1 10) σ).1 11 = f ∧ (g5_flaw f (σ.1 10) σ).1 12 = T.2.2.1 a :=
  fl_5 H L.1.2.1 L.2.2.2.1.1 L.2.2.1.2.2.1 L.2.2.1.1 L.2.2.1.2.2.2.2
/-- the next token -/
theorem sr_take (H : TR5 T X Bk N Z) (L : LR5 T X Bk N Z V W a l e σ) (hk : e.1 paKind ≠ 142) : sr5 (fun e' _ σ' => LR5 T X Bk N Z V W (a + 1) l e' σ' ∧ tkF5 e e' ∧ tkS5 σ σ') (f5_Pa_take e) (g5_go σ) := by
  have h1 := H.1
  obtain ⟨L1, L2, ⟨a1, a2, a3, a4, a5⟩, L4, L5⟩ := L
  have hN : a + 1 < N := by
    have z := (H.2.2.2.1 a a1)
    have y : ¬ (a + 1 = N) := fun q => by
      rcases z.mpr q with w | w
      · exact hk (by rw [a4]; exact w)
      · exact a5 w
    omega
  have l1 := ofn_i (n := a + 1) (by omega)
  have l2 := ofn_i (n := N) (by omega)
  have e1 : e.1 taTotal = Int32.ofNat N := by rw [← h1.1, ← L1.1]; rfl
  have e2 : e.2.1 taKinds = T.2.1 := by rw [← L1.1]; rfl
  have ea : e.1 paAt + 1 = Int32.ofNat (a + 1) := by rw [a2, on_15 (by omega)]
  have es : σ.1 10 + 1 = Int32.ofNat (Bk + (a + 1)) := by rw [a3, on_15 (by omega)]; rfl
  have ft : f5_Pa_take e = .inl ((fun g => if g = paKind then T.2.1 (a + 1) else if g = paAt then Int32.ofNat (a + 1) else e.1 g, e.2), ()) := by
    unfold f5_Pa_take
    rw [ea]
    show (if Int32.ofNat (a + 1) < 0 then _ else if e.1 taTotal ≤ Int32.ofNat (a + 1) then _ else rdB5 (stI5 paKind (e.2.1 taKinds (Int32.ofNat (a + 1)).toNatClampNeg) _) _) = _
    rw [if_neg (by rw [lti, t0i]; omega), e1, if_neg (by rw [lei]; omega), e2, cl_5 (by omega)]
    rfl
  have gg : g5_go σ = g5_readNext (siU σ 10 (Int32.ofNat (Bk + (a + 1)))) := by
    unfold g5_go
    dsimp only [pb5]
    rw [if_pos L4.1, es]
  have e5 : (siU σ 10 (Int32.ofNat (Bk + (a + 1)))).2.2.1 5 ((siU σ 10 (Int32.ofNat (Bk + (a + 1)))).1 10).toNatClampNeg = X.1 (Bk + (a + 1)) := by
    have z : (siU σ 10 (Int32.ofNat (Bk + (a + 1)))).1 10 = Int32.ofNat (Bk + (a + 1)) := rfl
    rw [z, cl_5 (by omega), ← L1.2.1]
    rfl
  have kd := kd_o5 (H.2.2.1 (a + 1) hN)
  rw [ft, gg]
  by_cases c : T.2.1 (a + 1) = 143
  · have r : g5_readNext (siU σ 10 (Int32.ofNat (Bk + (a + 1)))) = g5_flaw 1 (Int32.ofNat (Bk + (a + 1))) (siU σ 10 (Int32.ofNat (Bk + (a + 1)))) := by
      unfold g5_readNext
      rw [e5, if_pos (kd.1.mpr c)]
      rfl
    have w : g5_flaw 1 (Int32.ofNat (Bk + (a + 1))) (siU σ 10 (Int32.ofNat (Bk + (a + 1)))) = siU (siU (siU σ 10 (Int32.ofNat (Bk + (a + 1)))) 11 1) 12 (X.2.1 (Bk + (a + 1))) := by
      unfold g5_flaw g5_flaw_23
      dsimp only [pb5]
      have z5 : (siU σ 10 (Int32.ofNat (Bk + (a + 1)))).2.2.1 5 (Bk + (a + 1)) = X.1 (Bk + (a + 1)) := by rw [← L1.2.1]; rfl
      have z6 : (siU (siU σ 10 (Int32.ofNat (Bk + (a + 1)))) 11 1).2.2.1 6 (Bk + (a + 1)) = X.2.1 (Bk + (a + 1)) := by rw [← L1.2.1]; rfl
      rw [if_pos (show (siU σ 10 (Int32.ofNat (Bk + (a + 1)))).1 11 = 0 from L4.1), cl_5 (by omega), z5, if_pos (kd.1.mpr c), z6]
    refine Or.inr (Or.inr ⟨1, X.2.1 (Bk + (a + 1)), by decide, by rw [r, w]; rfl, by rw [r, w]; rfl, Or.inr ⟨rfl, _, _, rfl, c, ?_⟩⟩)
    show pl5 (Int32.ofNat (a + 1)) _ = _
    unfold pl5
    show (if _ then _ else if e.1 taTotal ≤ _ then _ else e.2.1 taPlaces _) = _
    have e3 : e.2.1 taPlaces = T.2.2.1 := by rw [← L1.1]; rfl
    rw [if_neg (by rw [lti, t0i]; omega), e1, if_neg (by rw [lei]; omega), e3, cl_5 (by omega), H.2.1 _ hN]
  · have r : g5_readNext (siU σ 10 (Int32.ofNat (Bk + (a + 1)))) = siU σ 10 (Int32.ofNat (Bk + (a + 1))) := by
      unfold g5_readNext
      rw [e5, if_neg (fun q => c (kd.1.mp q))]
    rw [r]
    refine sr_i5 c ⟨⟨⟨L1.1, L1.2.1, L1.2.2⟩, ⟨L2.1, L2.2⟩, ⟨hN, rfl, rfl, rfl, c⟩, L4, L5⟩, ⟨rfl, fun g h1 h2 _ => ?_⟩, rfl, fun g h _ => by rw [si1, if_neg h]⟩
    show (if g = paKind then _ else if g = paAt then _ else e.1 g) = _
    rw [if_neg h2, if_neg h1]
theorem sr_pass {c : Int32} (H : TR5 T X Bk N Z) (L : LR5 T X Bk N Z V W a l e σ) (h0 : 0 < c.toInt) (h1 : c.toInt < 128) : sr5 (fun e' _ σ' => LR5 T X Bk N Z V W (a + 1) l e' σ' ∧ tkF5 e e' ∧ tkS5 σ σ') (f5_Pa_pass c e) (g5_sign c σ) := by
  unfold f5_Pa_pass g5_sign
  dsimp only [pb5]
  rw [lr_at5 H L h0 h1, rb_u5]
  by_cases q : e.1 paKind = c
  · rw [if_pos q, if_pos q, if_neg (by decide)]
    exact sr_take H L (fun z => by rw [← q, z] at h1; exact absurd h1 (by decide))
  · rw [if_neg q, if_neg q, if_pos rfl, lr_rva5 H L]
    exact sr_r5 (by decide) (lr_fl5 H L).1 (lr_fl5 H L).2
/-- a sort that is due -/
theorem sr_due {s k : Int32} (H : TR5 T X Bk N Z) (L : LR5 T X Bk N Z V W a l e σ) (hs : X.1 (Bk + a) = s ↔ e.1 paKind = k) : sr5 (fun e' _ σ' => e' = e ∧ σ' = σ ∧ e.1 paKind = k) (f5_Pa_expect k e) (g5_due s σ).1 := by
  unfold f5_Pa_expect g5_due
  dsimp only [pb5]
  rw [(lr_so5 H L).1]
  by_cases q : e.1 paKind = k
  · rw [if_pos q, if_pos (hs.mpr q)]
    exact sr_i5 (lr_k5 L) ⟨rfl, rfl, q⟩
  · rw [if_neg q, if_neg (fun z => q (hs.mp z)), lr_rva5 H L]
    exact sr_r5 (by decide) (lr_fl5 H L).1 (lr_fl5 H L).2
theorem sr_open {c : Int32} (H : TR5 T X Bk N Z) (L : LR5 T X Bk N Z V W a l e σ) (h0 : 0 < c.toInt) (h1 : c.toInt < 128) : sr5 (fun e' _ σ' => LR5 T X Bk N Z V W (a + 1) (l + 1) e' σ' ∧ tkF5 e e' ∧ tkS5 σ σ') (f5_Pa_openSign c e) (g5_open c σ) := by
  unfold f5_Pa_openSign f5_Pa_openSign_17 f5_Pa_openSign_35 g5_open
  dsimp only [pb5]
  rw [lr_at5 H L h0 h1]
  by_cases q : e.1 paKind = c
  · have e40 : (40 : Int32).toInt = 40 := rfl
    rw [if_pos q, if_pos q, if_neg (show ¬ (1 : Int32) = 0 by decide), L.2.2.2.2.1]
    by_cases o : e.1 paOpen = 40
    · rw [if_pos o, if_neg (by rw [o]; decide), lr_rva5 H L]
      exact sr_q5 (by decide) (lr_fl5 H L).1 (lr_fl5 H L).2 (kq_open_38 kq_rf)
    · have hb := L.2.2.2.2.2
      have lt : (e.1 paOpen).toInt < 40 := by
        have : (e.1 paOpen).toInt ≠ 40 := fun z => o (Int32.toInt_inj.mp (by rw [z, e40]))
        omega
      rw [if_neg o, if_pos (by rw [lti, e40]; omega)]
      unfold g5_open_38 g5_open_55
      dsimp only [pb5]
      rw [lr_ir5 L, if_neg (by decide)]
      show sr5 _ (rdB5 (f5_Pa_take (fun g => if g = paOpen then e.1 paOpen + 1 else e.1 g, e.2)) (fun e2 _ => .inl (e2, ()))) (g5_go (siU σ 13 (σ.1 13 + 1)))
      rw [rb_u5, L.2.2.2.2.1]
      have eo : (e.1 paOpen + 1).toInt = (e.1 paOpen).toInt + 1 := by rw [add_i (by rw [t1i]; omega) (by rw [t1i]; omega), t1i]
      have L' : LR5 T X Bk N Z V W a (l + 1) (fun g => if g = paOpen then e.1 paOpen + 1 else e.1 g, e.2) (siU σ 13 (e.1 paOpen + 1)) := ⟨L.1, L.2.1, L.2.2.1, L.2.2.2.1, rfl, by show _ ≤ (e.1 paOpen + 1).toInt; rw [eo]; omega, by show (e.1 paOpen + 1).toInt ≤ 40; rw [eo]; omega⟩
      refine sr_m5 (sr_take H L' (fun z => by
        have z' : e.1 paKind = 142 := z
        rw [← q, z'] at h1; exact absurd h1 (by decide))) (fun e' _ Q => ⟨Q.1, tkF_t5 tkF_o5 Q.2.1, tkS_t5 tkS_o5 Q.2.2⟩)
  · rw [if_neg q, if_neg q, if_pos rfl, lr_rva5 H L]
    exact sr_q5 (by decide) (lr_fl5 H L).1 (lr_fl5 H L).2 (kq_open_38 kq_rf)
theorem sr_close {c : Int32} (H : TR5 T X Bk N Z) (L : LR5 T X Bk N Z V W a (l + 1) e σ) (h0 : 0 < c.toInt) (h1 : c.toInt < 128) : sr5 (fun e' _ σ' => LR5 T X Bk N Z V W (a + 1) l e' σ' ∧ tkF5 e e' ∧ tkS5 σ σ') (f5_Pa_closeSign c e) (g5_close c σ) := by
  unfold f5_Pa_closeSign f5_Pa_closeSign_17 g5_close g5_close_18
  dsimp only [pb5]
  rw [lr_at5 H L h0 h1, L.2.2.2.2.1]
  have hb := L.2.2.2.2.2
  by_cases q : e.1 paKind = c
  · rw [if_pos q, if_pos q, if_neg (by decide)]
    show sr5 _ (rdB5 (f5_Pa_take (fun g => if g = paOpen then e.1 paOpen - 1 else e.1 g, e.2)) (fun e2 _ => .inl (e2, ()))) (g5_sign c (siU σ 13 (e.1 paOpen - 1)))
    rw [rb_u5]
    have eo : (e.1 paOpen - 1).toInt = (e.1 paOpen).toInt - 1 := by rw [sub_i (by rw [t1i]; omega) (by rw [t1i]; omega), t1i]
    have L' : LR5 T X Bk N Z V W a l (fun g => if g = paOpen then e.1 paOpen - 1 else e.1 g, e.2) (siU σ 13 (e.1 paOpen - 1)) := ⟨L.1, L.2.1, L.2.2.1, L.2.2.2.1, rfl, by show _ ≤ (e.1 paOpen - 1).toInt; rw [eo]; omega, by show (e.1 paOpen - 1).toInt ≤ 40; rw [eo]; omega⟩
    have z := sr_pass H L' h0 h1
    unfold f5_Pa_pass at z
    rw [rb_u5, if_pos (show ((fun g => if g = paOpen then e.1 paOpen - 1 else e.1 g, e.2) : E5).1 paKind = c from q)] at z
    exact sr_m5 z (fun e' _ Q => ⟨Q.1, tkF_t5 tkF_o5 Q.2.1, tkS_t5 tkS_o5 Q.2.2⟩)
  · rw [if_neg q, if_neg q, if_pos rfl, lr_rva5 H L]
    have L' : LR5 T X Bk N Z V W a (l + 1) e (siU σ 13 (e.1 paOpen - 0)) := ⟨L.1, L.2.1, L.2.2.1, L.2.2.2.1, by show e.1 paOpen - 0 = e.1 paOpen; exact Int32.sub_zero _, hb⟩
    unfold g5_sign
    dsimp only [pb5]
    rw [lr_at5 H L' h0 h1, if_neg q, if_pos rfl]
    exact sr_r5 (by decide) (lr_fl5 H L').1 (lr_fl5 H L').2
end

end
section
set_option maxHeartbeats 1600000
/-! names that are told, on both sides -/
/-- the first of v with P, or -1 -/
def fnd5 (v : Nat) (P : Nat → Prop) (r : Int32) : Prop := (r = -1 ∧ ∀ k, k < v → ¬ P k) ∨ (∃ k, k < v ∧ P k ∧ (∀ j, j < k → ¬ P j) ∧ r = Int32.ofNat k)
theorem fnd_n5 {v : Nat} {P : Nat → Prop} {r : Int32} (h : fnd5 v P r) (hv : v ≤ 1000) : r = -1 ↔ ∀ k, k < v → ¬ P k := by
  rcases h with ⟨h1, h2⟩ | ⟨k, h1, h2, _, h3⟩
  · exact ⟨fun _ => h2, fun _ => h1⟩
  · refine ⟨fun q => ?_, fun q => absurd h2 (q k h1)⟩
    have l := ofn_i (n := k) (by omega)
    rw [q] at h3
    rw [← h3] at l
    have z : (-1 : Int32).toInt = -1 := rfl
    omega
def pN5 (T : T5) (Bk N m : Nat) (c : Int32) (nr : Nat → Int32) (c' : Int32) (rr : Nat → Int32) (v : Nat) : Prop := v ≤ m ∧ c = Int32.ofNat v ∧ c' = Int32.ofNat v ∧ ∀ k, k < v → ∃ t, t < N ∧ T.2.1 t = 140 ∧ nr k = Int32.ofNat t ∧ rr k = Int32.ofNat (Bk + t)
theorem f97_5 {T : T5} {B44 : Int32 → Int32 → Int32 → Int32 → Int32} {n1 : Nat → Int32} {l1 t p q s : Nat} {a2 a4 a5 a6 a7 a8 : Int32} (h7 : a7.toNatClampNeg = t) (h4 : a4 = Int32.ofNat s) (s0 : 0 < s) (s1 : s ≤ 12) (h5 : a5 = Int32.ofNat p) (hp : p ≤ 65536) (h8 : a8 = Int32.ofNat q) (hq : q ≤ 65536) : ∀ (m i : Nat), i ≤ s → s - i < m → (0 < i → T.2.2.2.1 t = a4) → (∀ j, j < i → T.1 (p + j) = T.1 (q + j)) → (f5_Ta_findName_97 T B44 n1 l1 m a2 a4 a5 a6 a7 a8 (Int32.ofNat i) = a6 ∧ T.2.2.2.1 t = a4 ∧ ∀ j, j < s → T.1 (p + j) = T.1 (q + j)) ∨ (f5_Ta_findName_97 T B44 n1 l1 m a2 a4 a5 a6 a7 a8 (Int32.ofNat i) = B44 a2 a4 a5 (a6 + 1) ∧ ¬ (T.2.2.2.1 t = a4 ∧ ∀ j, j < s → T.1 (p + j) = T.1 (q + j)))
  | 0, _, _, h, _, _ => by omega
  | m + 1, i, hi, hm, hl, hb => by
    have ls := ofn_i (n := s) (by omega)
    have li := ofn_i (n := i) (by omega)
    have n0 : ¬ a4 ≤ 0 := by rw [h4, lei, t0i]; omega
    have fin : ∀ x : Int32, x = Int32.ofNat i → i ≠ s → f5_Ta_findName_145 T B44 n1 l1 a2 a4 a5 a6 x = B44 a2 a4 a5 (a6 + 1) := fun x hx hne => by
      unfold f5_Ta_findName_145
      dsimp only [pb5]
      rw [if_neg n0, if_neg (fun z => by
        have y := congrArg Int32.toInt z
        rw [hx, h4] at y
        omega)]
    rw [f5_Ta_findName_97]
    dsimp only [pb5]
    by_cases c : i = s
    · refine Or.inl ⟨?_, hl (by omega), by rw [← c]; exact hb⟩
      rw [if_pos (by rw [h4, lei]; omega)]
      unfold f5_Ta_findName_145
      dsimp only [pb5]
      rw [if_neg n0, if_pos (by rw [h4, c])]
    · rw [if_neg (by rw [h4, lei]; omega), h7]
      by_cases d : T.2.2.2.1 t = a4
      · have e1 : (a5 + Int32.ofNat i).toNatClampNeg = p + i := by rw [h5, on_5 (by omega), cl_5 (by omega)]
        have e2 : (a8 + Int32.ofNat i).toNatClampNeg = q + i := by rw [h8, on_5 (by omega), cl_5 (by omega)]
        rw [if_pos d, e1, e2]
        by_cases f : T.1 (p + i) = T.1 (q + i)
        · rw [if_pos f, on_15 (by omega)]
          exact f97_5 h7 h4 s0 s1 h5 hp h8 hq m (i + 1) (by omega) (by omega) (fun _ => d) (fun j hj => by
            by_cases z : j = i
            · rw [z]; exact f
            · exact hb j (by omega))
        · rw [if_neg f]
          exact Or.inr ⟨fin _ rfl c, fun z => f (z.2 i (by omega))⟩
      · rw [if_neg d]
        exact Or.inr ⟨fin _ rfl c, fun z => d z.1⟩
theorem f44_5 {T : T5} {X : X5} {Bk N m0 u : Nat} {Z : Int32} {nr rr : Nat → Int32} {c c' : Int32} {l1 v : Nat} (H : TR5 T X Bk N Z) (hn : pN5 T Bk N m0 c nr c' rr v) (hl : v ≤ l1) (hl2 : l1 ≤ 1000) (hu : u < N) (ku : T.2.1 u = 140) : ∀ (m k : Nat), k ≤ v → v - k < m → (∀ j, j < k → ¬ dn5 T (nr j).toInt.toNat u) → fnd5 v (fun j => dn5 T (nr j).toInt.toNat u) (f5_Ta_findName_44 T nr l1 m c (T.2.2.2.1 u) (T.2.2.1 u) (Int32.ofNat k))
  | 0, _, _, h, _ => by omega
  | m + 1, k, hk, hm, hj => by
    have h1 := H.1
    have lv := ofn_i (n := v) (by omega)
    have lk := ofn_i (n := k) (by omega)
    have ll := ofn_i (n := l1) (by omega)
    rw [f5_Ta_findName_44, hn.2.1]
    by_cases c1 : k = v
    · rw [if_pos (by rw [lei]; omega)]
      exact Or.inl ⟨rfl, by rw [← c1]; exact hj⟩
    · rw [if_neg (by rw [lei]; omega), if_neg (by rw [lei]; omega), cl_5 (by omega)]
      obtain ⟨t, t1, t2, t3, t4⟩ := hn.2.2.2 k (by omega)
      have lt := ofn_i (n := t) (by omega)
      have lN := ofn_i (n := N) (by omega)
      rw [t3, h1.1, if_neg (by rw [lti, t0i]; omega), if_neg (by rw [lei]; omega)]
      unfold f5_Ta_findName_83
      dsimp only [pb5]
      obtain ⟨x1, x2, x3, x4⟩ := H.2.2.2.2.2.2.1 u hu ku
      obtain ⟨y1, y2, y3, y4⟩ := H.2.2.2.2.2.2.1 t t1 t2
      have ek : (nr k).toInt.toNat = t := by rw [t3, lt]; omega
      rw [cl_5 (by omega)]
      have z := f97_5 (T := T) (B44 := f5_Ta_findName_44 T nr l1 m) (n1 := nr) (l1 := l1) (t := t) (p := (T.2.2.1 u).toInt.toNat) (q := (T.2.2.1 t).toInt.toNat) (s := (T.2.2.2.1 u).toInt.toNat) (a2 := Int32.ofNat v) (a4 := T.2.2.2.1 u) (a5 := T.2.2.1 u) (a6 := Int32.ofNat k) (a7 := Int32.ofNat t) (a8 := T.2.2.1 t) (cl_5 (by omega)) (of_t5 (by omega)) (by omega) (by omega) (of_t5 x3) (by omega) (of_t5 y3) (by omega) fu5 0 (by omega) (by unfold fu5; omega) (fun q => absurd q (by omega)) (fun j q => absurd q (by omega))
      have zd : dn5 T t u ↔ (T.2.2.2.1 t = T.2.2.2.1 u ∧ ∀ j, j < (T.2.2.2.1 u).toInt.toNat → T.1 ((T.2.2.1 u).toInt.toNat + j) = T.1 ((T.2.2.1 t).toInt.toNat + j)) := ⟨fun q => ⟨q.1, fun j hj => (q.2.2 j (by omega)).symm⟩, fun q => ⟨q.1, x1, fun j hj => (q.2 j (by omega)).symm⟩⟩
      rcases z with ⟨z1, z2⟩ | ⟨z1, z2⟩
      · refine Or.inr ⟨k, by omega, by show dn5 T (nr k).toInt.toNat u; rw [ek]; exact zd.mpr z2, hj, z1⟩
      · have w : ¬ dn5 T (nr k).toInt.toNat u := by rw [ek]; exact fun q => z2 (zd.mp q)
        have g := f44_5 H hn hl hl2 hu ku m (k + 1) (by omega) (by omega) (fun j q => by
          by_cases y : j = k
          · rw [y]; exact w
          · exact hj j (by omega))
        rw [hn.2.1, ← on_15 (by omega)] at g
        exact (z1.symm ▸ g : _)
/-- the class finds a name -/
theorem fN_5 {T : T5} {X : X5} {Bk N m0 u : Nat} {Z : Int32} {nr rr : Nat → Int32} {c c' : Int32} {l1 v : Nat} (H : TR5 T X Bk N Z) (hn : pN5 T Bk N m0 c nr c' rr v) (hl : v ≤ l1) (hl2 : l1 ≤ 1000) (hu : u < N) (ku : T.2.1 u = 140) : fnd5 v (fun j => dn5 T (nr j).toInt.toNat u) (f5_Ta_findName T nr l1 c (Int32.ofNat u)) := by
  have h1 := H.1
  have lu := ofn_i (n := u) (by omega)
  have lN := ofn_i (n := N) (by omega)
  obtain ⟨x1, x2, x3, x4⟩ := H.2.2.2.2.2.2.1 u hu ku
  unfold f5_Ta_findName f5_Ta_findName_22 f5_Ta_findName_39
  rw [h1.1, if_neg (by rw [lti, t0i]; omega), if_neg (by rw [lei]; omega), cl_5 (by omega), if_neg (by rw [lei, t0i]; omega)]
  exact f44_5 H hn hl hl2 hu ku fu5 0 (by omega) (by unfold fu5; omega) (fun j q => absurd q (by omega))
/-- the reference compares two names -/
theorem iS_5 {T : T5} {X : X5} {Bk N t u : Nat} {Z x y : Int32} {σ : rS} (H : TR5 T X Bk N Z) (hx : sx5 σ = X) (h1 : x = Int32.ofNat (Bk + t)) (h2 : y = Int32.ofNat (Bk + u)) (ht : t < N) (hu : u < N) (kt : T.2.1 t = 140) (ku : T.2.1 u = 140) : (g5_isSame x y σ = 0 ∧ ¬ dn5 T t u) ∨ (g5_isSame x y σ = 1 ∧ dn5 T t u) := by
  have h0 := H.1
  have z := H.2.2.2.2.2.1 t u ht hu kt ku
  have e8 : σ.2.2.2 8 = X.2.2.2.2 := by rw [← hx]; rfl
  have e9 : σ.2.2.1 9 = X.2.2.2.1 := by rw [← hx]; rfl
  unfold g5_isSame
  rw [h1, h2, cl_5 (by omega), cl_5 (by omega), e8, e9]
  by_cases a : X.2.2.2.2 (Bk + t) = X.2.2.2.2 (Bk + u)
  · rw [if_pos ((lg_cmp_eq _ _).mpr a)]
    by_cases b : X.2.2.2.1 (Bk + t) = X.2.2.2.1 (Bk + u)
    · rw [if_pos b]; exact Or.inr ⟨rfl, z.mpr ⟨a, b⟩⟩
    · rw [if_neg b]; exact Or.inl ⟨rfl, fun q => b (z.mp q).2⟩
  · rw [if_neg (fun q => a ((lg_cmp_eq _ _).mp q))]
    exact Or.inl ⟨rfl, fun q => a (z.mp q).1⟩
theorem pN_s5 {T : T5} {X : X5} {Bk N m0 u v k : Nat} {Z c c' y : Int32} {nr rr : Nat → Int32} {σ : rS} (H : TR5 T X Bk N Z) (hx : sx5 σ = X) (hn : pN5 T Bk N m0 c nr c' rr v) (hk : k < v) (h2 : y = Int32.ofNat (Bk + u)) (hu : u < N) (ku : T.2.1 u = 140) : (g5_isSame (rr k) y σ = 0 ∧ ¬ dn5 T (nr k).toInt.toNat u) ∨ (g5_isSame (rr k) y σ = 1 ∧ dn5 T (nr k).toInt.toNat u) := by
  have h0 := H.1
  obtain ⟨t, t1, t2, t3, t4⟩ := hn.2.2.2 k hk
  have lt := ofn_i (n := t) (by omega)
  have ek : (nr k).toInt.toNat = t := by rw [t3, lt]; omega
  rw [ek]
  exact iS_5 H hx t4 h2 t1 hu t2 ku
theorem tl8_5 {σ : rS} {tok : Int32} {v : Nat} {P : Nat → Prop} (hv : v ≤ 1000) (hc : σ.1 18 = Int32.ofNat v) (hP : ∀ k, k < v → (g5_isSame (σ.2.2.1 25 k) tok σ = 0 ∧ ¬ P k) ∨ (g5_isSame (σ.2.2.1 25 k) tok σ = 1 ∧ P k)) : ∀ (m k : Nat) (x : Int32), (x = 0 ∨ x = 1) → k ≤ v → v - k < m → ∃ y : Int32, (y = 0 ∨ y = 1) ∧ (y = 0 ↔ (x = 0 ∧ ∀ j, k ≤ j → j < v → ¬ P j)) ∧ g5_isTold_84 m tok x (Int32.ofNat k) σ = y
  | 0, _, _, _, _, h => by omega
  | m + 1, k, x, hx, hk, hm => by
    have lv := ofn_i (n := v) (by omega)
    have lk := ofn_i (n := k) (by omega)
    by_cases c : k = v
    · refine ⟨x, hx, ⟨fun q => ⟨q, fun j a b => by omega⟩, fun q => q.1⟩, ?_⟩
      rw [g5_isTold_84, hc, if_pos (by rw [lei]; omega)]
    · have st : ∀ s0 : Int32, g5_isTold_115 (g5_isTold_84 m) tok (Int32.ofNat k) s0 σ = g5_isTold_84 m tok s0 (Int32.ofNat (k + 1)) σ := fun s0 => by
        unfold g5_isTold_115
        dsimp only [pb5]
        rw [on_15 (by omega)]
      have un : g5_isTold_84 (m + 1) tok x (Int32.ofNat k) σ = if x = 0 then (if g5_isSame (σ.2.2.1 25 k) tok σ = 0 then g5_isTold_84 m tok 0 (Int32.ofNat (k + 1)) σ else g5_isTold_84 m tok 1 (Int32.ofNat (k + 1)) σ) else g5_isTold_84 m tok 1 (Int32.ofNat (k + 1)) σ := by
        rw [g5_isTold_84, hc, if_neg (by rw [lei]; omega), st, st, cl_5 (by omega)]
        rfl
      rcases hx with rfl | rfl
      · rw [un, if_pos rfl]
        rcases hP k (by omega) with ⟨a, b⟩ | ⟨a, b⟩
        · rw [if_pos a]
          obtain ⟨y, y1, y2, y3⟩ := tl8_5 hv hc hP m (k + 1) 0 (Or.inl rfl) (by omega) (by omega)
          refine ⟨y, y1, y2.trans ⟨fun q => ⟨rfl, fun j j1 j2 => ?_⟩, fun q => ⟨rfl, fun j j1 j2 => q.2 j (by omega) j2⟩⟩, y3⟩
          by_cases z : j = k
          · rw [z]; exact b
          · exact q.2 j (by omega) j2
        · rw [if_neg (by rw [a]; decide)]
          obtain ⟨y, y1, y2, y3⟩ := tl8_5 hv hc hP m (k + 1) 1 (Or.inr rfl) (by omega) (by omega)
          exact ⟨y, y1, y2.trans ⟨fun q => absurd q.1 (by decide), fun q => absurd b (q.2 k (Nat.le_refl k) (by omega))⟩, y3⟩
      · rw [un, if_neg (by decide)]
        obtain ⟨y, y1, y2, y3⟩ := tl8_5 hv hc hP m (k + 1) 1 (Or.inr rfl) (by omega) (by omega)
        exact ⟨y, y1, y2.trans ⟨fun q => absurd q.1 (by decide), fun q => absurd q.1 (by decide)⟩, y3⟩
theorem tl4_5 {σ : rS} {tok : Int32} {v : Nat} {P : Nat → Prop} (hv : v ≤ 1000) (hc : σ.1 16 = Int32.ofNat v) (hP : ∀ k, k < v → (g5_isSame (σ.2.2.1 22 k) tok σ = 0 ∧ ¬ P k) ∨ (g5_isSame (σ.2.2.1 22 k) tok σ = 1 ∧ P k)) : ∀ (m k : Nat) (x : Int32), (x = 0 ∨ x = 1) → k ≤ v → v - k < m → ∃ y : Int32, (y = 0 ∨ y = 1) ∧ (y = 0 ↔ (x = 0 ∧ ∀ j, k ≤ j → j < v → ¬ P j)) ∧ g5_isTold_44 m tok x (Int32.ofNat k) σ = g5_isTold_84 fu5 tok y 0 σ
  | 0, _, _, _, _, h => by omega
  | m + 1, k, x, hx, hk, hm => by
    have lv := ofn_i (n := v) (by omega)
    have lk := ofn_i (n := k) (by omega)
    by_cases c : k = v
    · refine ⟨x, hx, ⟨fun q => ⟨q, fun j a b => by omega⟩, fun q => q.1⟩, ?_⟩
      rw [g5_isTold_44, hc, if_pos (by rw [lei]; omega)]
    · have st : ∀ s0 : Int32, g5_isTold_75 (g5_isTold_44 m) tok (Int32.ofNat k) s0 σ = g5_isTold_44 m tok s0 (Int32.ofNat (k + 1)) σ := fun s0 => by
        unfold g5_isTold_75
        dsimp only [pb5]
        rw [on_15 (by omega)]
      have un : g5_isTold_44 (m + 1) tok x (Int32.ofNat k) σ = if x = 0 then (if g5_isSame (σ.2.2.1 22 k) tok σ = 0 then g5_isTold_44 m tok 0 (Int32.ofNat (k + 1)) σ else g5_isTold_44 m tok 1 (Int32.ofNat (k + 1)) σ) else g5_isTold_44 m tok 1 (Int32.ofNat (k + 1)) σ := by
        rw [g5_isTold_44, hc, if_neg (by rw [lei]; omega), st, st, cl_5 (by omega)]
        rfl
      rcases hx with rfl | rfl
      · rw [un, if_pos rfl]
        rcases hP k (by omega) with ⟨a, b⟩ | ⟨a, b⟩
        · rw [if_pos a]
          obtain ⟨y, y1, y2, y3⟩ := tl4_5 hv hc hP m (k + 1) 0 (Or.inl rfl) (by omega) (by omega)
          refine ⟨y, y1, y2.trans ⟨fun q => ⟨rfl, fun j j1 j2 => ?_⟩, fun q => ⟨rfl, fun j j1 j2 => q.2 j (by omega) j2⟩⟩, y3⟩
          by_cases z : j = k
          · rw [z]; exact b
          · exact q.2 j (by omega) j2
        · rw [if_neg (by rw [a]; decide)]
          obtain ⟨y, y1, y2, y3⟩ := tl4_5 hv hc hP m (k + 1) 1 (Or.inr rfl) (by omega) (by omega)
          exact ⟨y, y1, y2.trans ⟨fun q => absurd q.1 (by decide), fun q => absurd b (q.2 k (Nat.le_refl k) (by omega))⟩, y3⟩
      · rw [un, if_neg (by decide)]
        obtain ⟨y, y1, y2, y3⟩ := tl4_5 hv hc hP m (k + 1) 1 (Or.inr rfl) (by omega) (by omega)
        exact ⟨y, y1, y2.trans ⟨fun q => absurd q.1 (by decide), fun q => absurd q.1 (by decide)⟩, y3⟩
theorem tl0_5 {σ : rS} {tok : Int32} {v : Nat} {P : Nat → Prop} (hv : v ≤ 1000) (hc : σ.1 15 = Int32.ofNat v) (hP : ∀ k, k < v → (g5_isSame (σ.2.2.1 20 k) tok σ = 0 ∧ ¬ P k) ∨ (g5_isSame (σ.2.2.1 20 k) tok σ = 1 ∧ P k)) : ∀ (m k : Nat) (x : Int32), (x = 0 ∨ x = 1) → k ≤ v → v - k < m → ∃ y : Int32, (y = 0 ∨ y = 1) ∧ (y = 0 ↔ (x = 0 ∧ ∀ j, k ≤ j → j < v → ¬ P j)) ∧ g5_isTold_4 m tok x (Int32.ofNat k) σ = g5_isTold_44 fu5 tok y 0 σ
  | 0, _, _, _, _, h => by omega
  | m + 1, k, x, hx, hk, hm => by
    have lv := ofn_i (n := v) (by omega)
    have lk := ofn_i (n := k) (by omega)
    by_cases c : k = v
    · refine ⟨x, hx, ⟨fun q => ⟨q, fun j a b => by omega⟩, fun q => q.1⟩, ?_⟩
      rw [g5_isTold_4, hc, if_pos (by rw [lei]; omega)]
    · have st : ∀ s0 : Int32, g5_isTold_35 (g5_isTold_4 m) tok (Int32.ofNat k) s0 σ = g5_isTold_4 m tok s0 (Int32.ofNat (k + 1)) σ := fun s0 => by
        unfold g5_isTold_35
        dsimp only [pb5]
        rw [on_15 (by omega)]
      have un : g5_isTold_4 (m + 1) tok x (Int32.ofNat k) σ = if x = 0 then (if g5_isSame (σ.2.2.1 20 k) tok σ = 0 then g5_isTold_4 m tok 0 (Int32.ofNat (k + 1)) σ else g5_isTold_4 m tok 1 (Int32.ofNat (k + 1)) σ) else g5_isTold_4 m tok 1 (Int32.ofNat (k + 1)) σ := by
        rw [g5_isTold_4, hc, if_neg (by rw [lei]; omega), st, st, cl_5 (by omega)]
        rfl
      rcases hx with rfl | rfl
      · rw [un, if_pos rfl]
        rcases hP k (by omega) with ⟨a, b⟩ | ⟨a, b⟩
        · rw [if_pos a]
          obtain ⟨y, y1, y2, y3⟩ := tl0_5 hv hc hP m (k + 1) 0 (Or.inl rfl) (by omega) (by omega)
          refine ⟨y, y1, y2.trans ⟨fun q => ⟨rfl, fun j j1 j2 => ?_⟩, fun q => ⟨rfl, fun j j1 j2 => q.2 j (by omega) j2⟩⟩, y3⟩
          by_cases z : j = k
          · rw [z]; exact b
          · exact q.2 j (by omega) j2
        · rw [if_neg (by rw [a]; decide)]
          obtain ⟨y, y1, y2, y3⟩ := tl0_5 hv hc hP m (k + 1) 1 (Or.inr rfl) (by omega) (by omega)
          exact ⟨y, y1, y2.trans ⟨fun q => absurd q.1 (by decide), fun q => absurd b (q.2 k (Nat.le_refl k) (by omega))⟩, y3⟩
      · rw [un, if_neg (by decide)]
        obtain ⟨y, y1, y2, y3⟩ := tl0_5 hv hc hP m (k + 1) 1 (Or.inr rfl) (by omega) (by omega)
        exact ⟨y, y1, y2.trans ⟨fun q => absurd q.1 (by decide), fun q => absurd q.1 (by decide)⟩, y3⟩
theorem va5_5 {σ : rS} {tok : Int32} {v : Nat} {P : Nat → Prop} (hv : v ≤ 1000) (hc : σ.1 15 = Int32.ofNat v) (hP : ∀ k, k < v → (g5_isSame (σ.2.2.1 20 k) tok σ = 0 ∧ ¬ P k) ∨ (g5_isSame (σ.2.2.1 20 k) tok σ = 1 ∧ P k)) : ∀ (m k : Nat), k ≤ v → v - k < m → (∀ j, j < k → ¬ P j) → (∃ j, j < v ∧ P j ∧ (∀ i, i < j → ¬ P i) ∧ g5_variableOf_50 m tok (Int32.ofNat k) σ = Int32.ofNat j) ∨ ((∀ j, j < v → ¬ P j) ∧ g5_variableOf_50 m tok (Int32.ofNat k) σ = (-1 : Int32))
  | 0, _, _, h, _ => by omega
  | m + 1, k, hk, hm, hj => by
    have lv := ofn_i (n := v) (by omega)
    have lk := ofn_i (n := k) (by omega)
    by_cases c : k = v
    · refine Or.inr ⟨by rw [← c]; exact hj, ?_⟩
      rw [g5_variableOf_50, hc, if_pos (by rw [lei]; omega)]
    · have un : g5_variableOf_50 (m + 1) tok (Int32.ofNat k) σ = if g5_isSame (σ.2.2.1 20 k) tok σ = 0 then g5_variableOf_50 m tok (Int32.ofNat (k + 1)) σ else Int32.ofNat k := by
        rw [g5_variableOf_50, hc, if_neg (by rw [lei]; omega)]
        dsimp only [pb5]
        rw [cl_5 (by omega), on_15 (by omega)]
      rw [un]
      rcases hP k (by omega) with ⟨a, b⟩ | ⟨a, b⟩
      · rw [if_pos a]
        exact va5_5 hv hc hP m (k + 1) (by omega) (by omega) (fun j q => by
          by_cases z : j = k
          · rw [z]; exact b
          · exact hj j (by omega))
      · rw [if_neg (by rw [a]; decide)]
        exact Or.inl ⟨k, by omega, b, hj, rfl⟩
theorem ar2_5 {σ : rS} {tok : Int32} {v : Nat} {P : Nat → Prop} (hv : v ≤ 1000) (hc : σ.1 16 = Int32.ofNat v) (hP : ∀ k, k < v → (g5_isSame (σ.2.2.1 22 k) tok σ = 0 ∧ ¬ P k) ∨ (g5_isSame (σ.2.2.1 22 k) tok σ = 1 ∧ P k)) : ∀ (m k : Nat), k ≤ v → v - k < m → (∀ j, j < k → ¬ P j) → (∃ j, j < v ∧ P j ∧ (∀ i, i < j → ¬ P i) ∧ g5_arrayOf_2 m tok (Int32.ofNat k) σ = 200 + Int32.ofNat j) ∨ ((∀ j, j < v → ¬ P j) ∧ g5_arrayOf_2 m tok (Int32.ofNat k) σ = (-1 : Int32))
  | 0, _, _, h, _ => by omega
  | m + 1, k, hk, hm, hj => by
    have lv := ofn_i (n := v) (by omega)
    have lk := ofn_i (n := k) (by omega)
    by_cases c : k = v
    · refine Or.inr ⟨by rw [← c]; exact hj, ?_⟩
      rw [g5_arrayOf_2, hc, if_pos (by rw [lei]; omega)]
    · have un : g5_arrayOf_2 (m + 1) tok (Int32.ofNat k) σ = if g5_isSame (σ.2.2.1 22 k) tok σ = 0 then g5_arrayOf_2 m tok (Int32.ofNat (k + 1)) σ else 200 + Int32.ofNat k := by
        rw [g5_arrayOf_2, hc, if_neg (by rw [lei]; omega)]
        dsimp only [pb5]
        rw [cl_5 (by omega), on_15 (by omega)]
      rw [un]
      rcases hP k (by omega) with ⟨a, b⟩ | ⟨a, b⟩
      · rw [if_pos a]
        exact ar2_5 hv hc hP m (k + 1) (by omega) (by omega) (fun j q => by
          by_cases z : j = k
          · rw [z]; exact b
          · exact hj j (by omega))
      · rw [if_neg (by rw [a]; decide)]
        exact Or.inl ⟨k, by omega, b, hj, rfl⟩
theorem fu2_5 {σ : rS} {tok : Int32} {v : Nat} {P : Nat → Prop} (hv : v ≤ 1000) (hc : σ.1 18 = Int32.ofNat v) (hP : ∀ k, k < v → (g5_isSame (σ.2.2.1 25 k) tok σ = 0 ∧ ¬ P k) ∨ (g5_isSame (σ.2.2.1 25 k) tok σ = 1 ∧ P k)) : ∀ (m k : Nat), k ≤ v → v - k < m → (∀ j, j < k → ¬ P j) → (∃ j, j < v ∧ P j ∧ (∀ i, i < j → ¬ P i) ∧ g5_functionOf_2 m tok (Int32.ofNat k) σ = Int32.ofNat j) ∨ ((∀ j, j < v → ¬ P j) ∧ g5_functionOf_2 m tok (Int32.ofNat k) σ = (-1 : Int32))
  | 0, _, _, h, _ => by omega
  | m + 1, k, hk, hm, hj => by
    have lv := ofn_i (n := v) (by omega)
    have lk := ofn_i (n := k) (by omega)
    by_cases c : k = v
    · refine Or.inr ⟨by rw [← c]; exact hj, ?_⟩
      rw [g5_functionOf_2, hc, if_pos (by rw [lei]; omega)]
    · have un : g5_functionOf_2 (m + 1) tok (Int32.ofNat k) σ = if g5_isSame (σ.2.2.1 25 k) tok σ = 0 then g5_functionOf_2 m tok (Int32.ofNat (k + 1)) σ else Int32.ofNat k := by
        rw [g5_functionOf_2, hc, if_neg (by rw [lei]; omega)]
        dsimp only [pb5]
        rw [cl_5 (by omega), on_15 (by omega)]
      rw [un]
      rcases hP k (by omega) with ⟨a, b⟩ | ⟨a, b⟩
      · rw [if_pos a]
        exact fu2_5 hv hc hP m (k + 1) (by omega) (by omega) (fun j q => by
          by_cases z : j = k
          · rw [z]; exact b
          · exact hj j (by omega))
      · rw [if_neg (by rw [a]; decide)]
        exact Or.inl ⟨k, by omega, b, hj, rfl⟩
theorem ix8_5 {x : Int32} {f k : Nat} (hx : x = Int32.ofNat f) (hf : f ≤ 1000) (hk : k ≤ 1000) : ((8 : Int32) * x + Int32.ofNat k).toNatClampNeg = 8 * f + k := by
  have l1 := ofn_i (n := f) (by omega)
  have l2 := ofn_i (n := k) (by omega)
  have l8 : (8 : Int32).toInt = 8 := rfl
  have m1 : ((8 : Int32) * x).toInt = 8 * f := by rw [hx, mul_i (by rw [l8, l1]; omega) (by rw [l8, l1]; omega), l8, l1]
  rw [nc_5, add_i (by omega) (by omega), m1, l2]
  omega
theorem va2_5 {σ : rS} {tok : Int32} {v f : Nat} {P : Nat → Prop} (hv : v ≤ 1000) (h41 : σ.1 41 = Int32.ofNat f) (hf : f ≤ 1000) (hc : σ.2.2.1 27 f = Int32.ofNat v) (hP : ∀ k, k < v → (g5_isSame (σ.2.2.1 28 (8 * f + k)) tok σ = 0 ∧ ¬ P k) ∨ (g5_isSame (σ.2.2.1 28 (8 * f + k)) tok σ = 1 ∧ P k)) : ∀ (m k : Nat), k ≤ v → v - k < m → (∀ j, j < k → ¬ P j) → (∃ j, j < v ∧ P j ∧ (∀ i, i < j → ¬ P i) ∧ g5_variableOf_2 m tok (Int32.ofNat k) σ = 100 + Int32.ofNat j) ∨ ((∀ j, j < v → ¬ P j) ∧ g5_variableOf_2 m tok (Int32.ofNat k) σ = g5_variableOf_50 fu5 tok 0 σ)
  | 0, _, _, h, _ => by omega
  | m + 1, k, hk, hm, hj => by
    have lv := ofn_i (n := v) (by omega)
    have lk := ofn_i (n := k) (by omega)
    by_cases c : k = v
    · refine Or.inr ⟨by rw [← c]; exact hj, ?_⟩
      rw [g5_variableOf_2, h41, cl_5 (by omega), hc, if_pos (by rw [lei]; omega)]
    · have un : g5_variableOf_2 (m + 1) tok (Int32.ofNat k) σ = if g5_isSame (σ.2.2.1 28 (8 * f + k)) tok σ = 0 then g5_variableOf_2 m tok (Int32.ofNat (k + 1)) σ else 100 + Int32.ofNat k := by
        rw [g5_variableOf_2, ix8_5 h41 hf (by omega), h41, cl_5 (by omega), hc, if_neg (by rw [lei]; omega)]
        dsimp only [pb5]
        rw [on_15 (by omega)]
      rw [un]
      rcases hP k (by omega) with ⟨a, b⟩ | ⟨a, b⟩
      · rw [if_pos a]
        exact va2_5 hv h41 hf hc hP m (k + 1) (by omega) (by omega) (fun j q => by
          by_cases z : j = k
          · rw [z]; exact b
          · exact hj j (by omega))
      · rw [if_neg (by rw [a]; decide)]
        exact Or.inl ⟨k, by omega, b, hj, rfl⟩
theorem fr8_5 {σ : rS} {inF mn mo tok : Int32} {v f : Nat} {P : Nat → Prop} (hi : inF ≠ 0) (hv : v ≤ 1000) (h41 : σ.1 41 = Int32.ofNat f) (hf : f ≤ 1000) (hc : σ.2.2.1 27 f = Int32.ofNat v) (hP : ∀ k, k < v → (g5_isSame (σ.2.2.1 28 (8 * f + k)) tok σ = 0 ∧ ¬ P k) ∨ (g5_isSame (σ.2.2.1 28 (8 * f + k)) tok σ = 1 ∧ P k)) : ∀ (m k : Nat) (x : Int32), (x = 0 ∨ x = 1) → k ≤ v → v - k < m → ∃ y : Int32, (y = 0 ∨ y = 1) ∧ (y = 0 ↔ (x = 0 ∧ ∀ j, k ≤ j → j < v → ¬ P j)) ∧ g5_fresh_18 m inF mn mo tok x (Int32.ofNat k) σ = g5_fresh_78 mn mo tok y σ
  | 0, _, _, _, _, h => by omega
  | m + 1, k, x, hx, hk, hm => by
    have lv := ofn_i (n := v) (by omega)
    have lk := ofn_i (n := k) (by omega)
    by_cases c : k = v
    · refine ⟨x, hx, ⟨fun q => ⟨q, fun j a b => by omega⟩, fun q => q.1⟩, ?_⟩
      rw [g5_fresh_18, if_neg hi, h41, cl_5 (by omega), hc, if_pos (by rw [lei]; omega)]
    · have st : ∀ s0 : Int32, g5_fresh_70 (g5_fresh_18 m) inF mn mo tok (Int32.ofNat k) s0 σ = g5_fresh_18 m inF mn mo tok s0 (Int32.ofNat (k + 1)) σ := fun s0 => by
        unfold g5_fresh_70
        dsimp only [pb5]
        rw [on_15 (by omega)]
      have un : g5_fresh_18 (m + 1) inF mn mo tok x (Int32.ofNat k) σ = if x = 0 then (if g5_isSame (σ.2.2.1 28 (8 * f + k)) tok σ = 0 then g5_fresh_18 m inF mn mo tok 0 (Int32.ofNat (k + 1)) σ else g5_fresh_18 m inF mn mo tok 1 (Int32.ofNat (k + 1)) σ) else g5_fresh_18 m inF mn mo tok 1 (Int32.ofNat (k + 1)) σ := by
        rw [g5_fresh_18, if_neg hi, ix8_5 h41 hf (by omega), h41, cl_5 (by omega), hc, if_neg (by rw [lei]; omega), st, st]
        rfl
      rcases hx with rfl | rfl
      · rw [un, if_pos rfl]
        rcases hP k (by omega) with ⟨a, b⟩ | ⟨a, b⟩
        · rw [if_pos a]
          obtain ⟨y, y1, y2, y3⟩ := fr8_5 hi hv h41 hf hc hP m (k + 1) 0 (Or.inl rfl) (by omega) (by omega)
          refine ⟨y, y1, y2.trans ⟨fun q => ⟨rfl, fun j j1 j2 => ?_⟩, fun q => ⟨rfl, fun j j1 j2 => q.2 j (by omega) j2⟩⟩, y3⟩
          by_cases z : j = k
          · rw [z]; exact b
          · exact q.2 j (by omega) j2
        · rw [if_neg (by rw [a]; decide)]
          obtain ⟨y, y1, y2, y3⟩ := fr8_5 hi hv h41 hf hc hP m (k + 1) 1 (Or.inr rfl) (by omega) (by omega)
          exact ⟨y, y1, y2.trans ⟨fun q => absurd q.1 (by decide), fun q => absurd b (q.2 k (Nat.le_refl k) (by omega))⟩, y3⟩
      · rw [un, if_neg (by decide)]
        obtain ⟨y, y1, y2, y3⟩ := fr8_5 hi hv h41 hf hc hP m (k + 1) 1 (Or.inr rfl) (by omega) (by omega)
        exact ⟨y, y1, y2.trans ⟨fun q => absurd q.1 (by decide), fun q => absurd q.1 (by decide)⟩, y3⟩

end
