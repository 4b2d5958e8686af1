set_option maxHeartbeats 1600000
/-! what stands of a fault stays (written by wip/p5/m/mkKQ.py) -/
def kq5 (s σ : rS) : Prop := s.1 11 ≠ 0 → σ.1 11 = s.1 11 ∧ σ.1 12 = s.1 12
theorem kq_rf {s : rS} : kq5 s s := fun _ => ⟨rfl, rfl⟩
theorem kq_si {s σ : rS} {k : Nat} {x : Int32} (h1 : ¬ 11 = k) (h2 : ¬ 12 = k) (h : kq5 s σ) : kq5 s (siU σ k x) := fun z => by
  rw [si1, si1, if_neg h1, if_neg h2]
  exact h z
theorem kq_ri {s σ : rS} {k i : Nat} {x : Int32} (h : kq5 s σ) : kq5 s (riU σ k i x) := h
theorem kq_if {s a b : rS} {c : Prop} [Decidable c] (ha : kq5 s a) (hb : kq5 s b) : kq5 s (if c then a else b) := by
  by_cases h : c
  · rw [if_pos h]; exact ha
  · rw [if_neg h]; exact hb
theorem kq_ifp {s : rS} {a b : rS × Int32} {c : Prop} [Decidable c] (ha : kq5 s a.1) (hb : kq5 s b.1) : kq5 s (if c then a else b).1 := by
  by_cases h : c
  · rw [if_pos h]; exact ha
  · rw [if_neg h]; exact hb
theorem kq_pb {s : rS} {α : Type} {a : α} {k : α → rS} (h : kq5 s (k a)) : kq5 s (pb5 a k) := h
theorem kq_pm {s : rS} {α : Type} {q : rS × α} {k : rS → α → rS} (h : kq5 s (k q.1 q.2)) : kq5 s (pm5 q k) := h
theorem kq_flaw {s σ : rS} {a b : Int32} (h : kq5 s σ) : kq5 s (g5_flaw a b σ) := fun z => by
  obtain ⟨x, y⟩ := h z
  unfold g5_flaw
  rw [if_neg (by rw [x]; exact z)]
  exact ⟨x, y⟩
theorem kq_go {s σ : rS} (h : kq5 s σ) : kq5 s (g5_go σ) := fun z => by
  obtain ⟨x, y⟩ := h z
  unfold g5_go
  rw [if_neg (by rw [x]; exact z)]
  exact ⟨x, y⟩
theorem kq_look {s σ : rS} {a b : Int32} (h : kq5 s σ) : kq5 s (g5_look a b σ) := fun z => by
  obtain ⟨x, y⟩ := h z
  unfold g5_look g5_look_28
  dsimp only [pb5]
  rw [if_neg (show ¬ σ.1 11 = 0 by rw [x]; exact z), ite_self]
  exact ⟨x, y⟩
theorem kq_readNext {s : rS} {σ : rS} (h : kq5 s σ) : kq5 s (g5_readNext  σ) := by
  unfold g5_readNext
  try dsimp only [pb5, pm5]
  repeat' first
    | with_reducible exact h
    | dsimp only
    | with_reducible refine kq_flaw ?_
    | with_reducible refine kq_si (by decide) (by decide) ?_
    | with_reducible refine kq_ri ?_
    | with_reducible refine kq_if ?_ ?_
    | with_reducible refine kq_ifp ?_ ?_
theorem kq_sign {s : rS} {a1 : Int32} {σ : rS} (h : kq5 s σ) : kq5 s (g5_sign a1 σ) := by
  unfold g5_sign
  try dsimp only [pb5, pm5]
  repeat' first
    | with_reducible exact h
    | dsimp only
    | with_reducible refine kq_flaw ?_
    | with_reducible refine kq_go ?_
    | with_reducible refine kq_si (by decide) (by decide) ?_
    | with_reducible refine kq_ri ?_
    | with_reducible refine kq_if ?_ ?_
    | with_reducible refine kq_ifp ?_ ?_
theorem kq_open_55 {s : rS} {s1 : Int32} {s2 : Int32} {σ : rS} (h : kq5 s σ) : kq5 s (g5_open_55 s1 s2 σ) := by
  unfold g5_open_55
  try dsimp only [pb5, pm5]
  repeat' first
    | with_reducible exact h
    | dsimp only
    | with_reducible refine kq_go ?_
    | with_reducible refine kq_si (by decide) (by decide) ?_
    | with_reducible refine kq_ri ?_
    | with_reducible refine kq_if ?_ ?_
    | with_reducible refine kq_ifp ?_ ?_
theorem kq_open_38 {s : rS} {σ : rS} (h : kq5 s σ) : kq5 s (g5_open_38  σ) := by
  unfold g5_open_38
  try dsimp only [pb5, pm5]
  repeat' first
    | with_reducible exact h
    | dsimp only
    | with_reducible refine kq_open_55 ?_
    | with_reducible refine kq_si (by decide) (by decide) ?_
    | with_reducible refine kq_ri ?_
    | with_reducible refine kq_if ?_ ?_
    | with_reducible refine kq_ifp ?_ ?_
theorem kq_open {s : rS} {a1 : Int32} {σ : rS} (h : kq5 s σ) : kq5 s (g5_open a1 σ) := by
  unfold g5_open
  try dsimp only [pb5, pm5]
  repeat' first
    | with_reducible exact h
    | dsimp only
    | with_reducible refine kq_flaw ?_
    | with_reducible refine kq_open_38 ?_
    | with_reducible refine kq_si (by decide) (by decide) ?_
    | with_reducible refine kq_ri ?_
    | with_reducible refine kq_if ?_ ?_
    | with_reducible refine kq_ifp ?_ ?_
theorem kq_close_18 {s : rS} {a1 : Int32} {s1 : Int32} {s2 : Int32} {σ : rS} (h : kq5 s σ) : kq5 s (g5_close_18 a1 s1 s2 σ) := by
  unfold g5_close_18
  try dsimp only [pb5, pm5]
  repeat' first
    | with_reducible exact h
    | dsimp only
    | with_reducible refine kq_sign ?_
    | with_reducible refine kq_si (by decide) (by decide) ?_
    | with_reducible refine kq_ri ?_
    | with_reducible refine kq_if ?_ ?_
    | with_reducible refine kq_ifp ?_ ?_
theorem kq_close {s : rS} {a1 : Int32} {σ : rS} (h : kq5 s σ) : kq5 s (g5_close a1 σ) := by
  unfold g5_close
  try dsimp only [pb5, pm5]
  repeat' first
    | with_reducible exact h
    | dsimp only
    | with_reducible refine kq_close_18 ?_
    | with_reducible refine kq_si (by decide) (by decide) ?_
    | with_reducible refine kq_ri ?_
    | with_reducible refine kq_if ?_ ?_
    | with_reducible refine kq_ifp ?_ ?_
theorem kq_due {s : rS} {a1 : Int32} {σ : rS} (h : kq5 s σ) : kq5 s (g5_due a1 σ).1 := by
  unfold g5_due
  try dsimp only [pb5, pm5]
  repeat' first
    | with_reducible exact h
    | dsimp only
    | with_reducible refine kq_flaw ?_
    | with_reducible refine kq_si (by decide) (by decide) ?_
    | with_reducible refine kq_ri ?_
    | with_reducible refine kq_if ?_ ?_
    | with_reducible refine kq_ifp ?_ ?_
theorem kq_fresh_70 {s : rS} {B18 : Int32 → Int32 → Int32 → Int32 → Int32 → Int32 → rS → rS × Int32} {a1 : Int32} {a2 : Int32} {a3 : Int32} {a4 : Int32} {a6 : Int32} {s0 : Int32} {σ : rS} (hB18 : ∀ (x0 : Int32) (x1 : Int32) (x2 : Int32) (x3 : Int32) (x4 : Int32) (x5 : Int32) (σ : rS), kq5 s σ → kq5 s (B18 x0 x1 x2 x3 x4 x5 σ).1) (h : kq5 s σ) : kq5 s (g5_fresh_70 B18 a1 a2 a3 a4 a6 s0 σ).1 := by
  unfold g5_fresh_70
  try dsimp only [pb5, pm5]
  repeat' first
    | with_reducible exact h
    | dsimp only
    | with_reducible refine hB18 _ _ _ _ _ _ _ ?_
    | with_reducible refine kq_si (by decide) (by decide) ?_
    | with_reducible refine kq_ri ?_
    | with_reducible refine kq_if ?_ ?_
    | with_reducible refine kq_ifp ?_ ?_
theorem kq_fresh_98 {s : rS} {a2 : Int32} {a3 : Int32} {a4 : Int32} {σ : rS} (h : kq5 s σ) : kq5 s (g5_fresh_98 a2 a3 a4 σ).1 := by
  unfold g5_fresh_98
  try dsimp only [pb5, pm5]
  repeat' first
    | with_reducible exact h
    | dsimp only
    | with_reducible refine kq_go ?_
    | with_reducible refine kq_flaw ?_
    | with_reducible refine kq_si (by decide) (by decide) ?_
    | with_reducible refine kq_ri ?_
    | with_reducible refine kq_if ?_ ?_
    | with_reducible refine kq_ifp ?_ ?_
theorem kq_fresh_78 {s : rS} {a2 : Int32} {a3 : Int32} {a4 : Int32} {a5 : Int32} {σ : rS} (h : kq5 s σ) : kq5 s (g5_fresh_78 a2 a3 a4 a5 σ).1 := by
  unfold g5_fresh_78
  try dsimp only [pb5, pm5]
  repeat' first
    | with_reducible exact h
    | dsimp only
    | with_reducible refine kq_fresh_98 ?_
    | with_reducible refine kq_flaw ?_
    | with_reducible refine kq_si (by decide) (by decide) ?_
    | with_reducible refine kq_ri ?_
    | with_reducible refine kq_if ?_ ?_
    | with_reducible refine kq_ifp ?_ ?_
theorem kq_fresh_18 {s : rS} (m : Nat) : ∀ (x0 : Int32) (x1 : Int32) (x2 : Int32) (x3 : Int32) (x4 : Int32) (x5 : Int32) (σ : rS), kq5 s σ → kq5 s (g5_fresh_18 m x0 x1 x2 x3 x4 x5 σ).1 := by
  induction m with
  | zero => exact fun _ _ _ _ _ _ _ h => h
  | succ m ih =>
    intro x0 x1 x2 x3 x4 x5 σ h
    rw [g5_fresh_18]
    try dsimp only [pb5, pm5]
    repeat' first
      | with_reducible exact h
      | dsimp only
      | with_reducible refine ih _ _ _ _ _ _ _ ?_
      | with_reducible refine kq_fresh_78 ?_
      | with_reducible refine kq_fresh_70 (fun y0 y1 y2 y3 y4 y5 σ9 h9 => ih y0 y1 y2 y3 y4 y5 σ9 h9) ?_
      | with_reducible refine kq_si (by decide) (by decide) ?_
      | with_reducible refine kq_ri ?_
      | with_reducible refine kq_if ?_ ?_
      | with_reducible refine kq_ifp ?_ ?_
theorem kq_fresh {s : rS} {a1 : Int32} {a2 : Int32} {a3 : Int32} {σ : rS} (h : kq5 s σ) : kq5 s (g5_fresh a1 a2 a3 σ).1 := by
  unfold g5_fresh
  try dsimp only [pb5, pm5]
  repeat' first
    | with_reducible exact h
    | dsimp only
    | with_reducible refine kq_due ?_
    | with_reducible refine kq_fresh_18 _ _ _ _ _ _ _ _ ?_
    | with_reducible refine kq_si (by decide) (by decide) ?_
    | with_reducible refine kq_ri ?_
    | with_reducible refine kq_if ?_ ?_
    | with_reducible refine kq_ifp ?_ ?_
theorem kq_hold {s : rS} {a1 : Int32} {a2 : Int32} {σ : rS} (h : kq5 s σ) : kq5 s (g5_hold a1 a2 σ) := by
  unfold g5_hold
  try dsimp only [pb5, pm5]
  repeat' first
    | with_reducible exact h
    | dsimp only
    | with_reducible refine kq_si (by decide) (by decide) ?_
    | with_reducible refine kq_ri ?_
    | with_reducible refine kq_if ?_ ?_
    | with_reducible refine kq_ifp ?_ ?_
theorem kq_apply_202 {s : rS} {s0 : Int32} {σ : rS} (h : kq5 s σ) : kq5 s (g5_apply_202 s0 σ) := by
  unfold g5_apply_202
  try dsimp only [pb5, pm5]
  repeat' first
    | with_reducible exact h
    | dsimp only
    | with_reducible refine kq_si (by decide) (by decide) ?_
    | with_reducible refine kq_ri ?_
    | with_reducible refine kq_if ?_ ?_
    | with_reducible refine kq_ifp ?_ ?_
theorem kq_apply_84 {s : rS} {a1 : Int32} {a2 : Int32} {a3 : Int32} {σ : rS} (h : kq5 s σ) : kq5 s (g5_apply_84 a1 a2 a3 σ) := by
  unfold g5_apply_84
  try dsimp only [pb5, pm5]
  repeat' first
    | with_reducible exact h
    | dsimp only
    | with_reducible refine kq_apply_202 ?_
    | with_reducible refine kq_si (by decide) (by decide) ?_
    | with_reducible refine kq_ri ?_
    | with_reducible refine kq_if ?_ ?_
    | with_reducible refine kq_ifp ?_ ?_
theorem kq_apply_74 {s : rS} {a1 : Int32} {a2 : Int32} {a3 : Int32} {σ : rS} (h : kq5 s σ) : kq5 s (g5_apply_74 a1 a2 a3 σ) := by
  unfold g5_apply_74
  try dsimp only [pb5, pm5]
  repeat' first
    | with_reducible exact h
    | dsimp only
    | with_reducible refine kq_apply_84 ?_
    | with_reducible refine kq_si (by decide) (by decide) ?_
    | with_reducible refine kq_ri ?_
    | with_reducible refine kq_if ?_ ?_
    | with_reducible refine kq_ifp ?_ ?_
theorem kq_apply {s : rS} {σ : rS} (h : kq5 s σ) : kq5 s (g5_apply  σ) := by
  unfold g5_apply
  try dsimp only [pb5, pm5]
  repeat' first
    | with_reducible exact h
    | dsimp only
    | with_reducible refine kq_apply_74 ?_
    | with_reducible refine kq_apply_84 ?_
    | with_reducible refine kq_si (by decide) (by decide) ?_
    | with_reducible refine kq_ri ?_
    | with_reducible refine kq_if ?_ ?_
    | with_reducible refine kq_ifp ?_ ?_
theorem kq_settle_0 {s : rS} (m : Nat) : ∀ (x0 : Int32) (σ : rS), kq5 s σ → kq5 s (g5_settle_0 m x0 σ) := by
  induction m with
  | zero => exact fun _ _ h => h
  | succ m ih =>
    intro x0 σ h
    rw [g5_settle_0]
    try dsimp only [pb5, pm5]
    repeat' first
      | with_reducible exact h
      | dsimp only
      | with_reducible refine ih _ _ ?_
      | with_reducible refine kq_apply ?_
      | with_reducible refine kq_si (by decide) (by decide) ?_
      | with_reducible refine kq_ri ?_
      | with_reducible refine kq_if ?_ ?_
      | with_reducible refine kq_ifp ?_ ?_
theorem kq_settle {s : rS} {a1 : Int32} {σ : rS} (h : kq5 s σ) : kq5 s (g5_settle a1 σ) := by
  unfold g5_settle
  try dsimp only [pb5, pm5]
  repeat' first
    | with_reducible exact h
    | dsimp only
    | with_reducible refine kq_settle_0 _ _ _ ?_
    | with_reducible refine kq_si (by decide) (by decide) ?_
    | with_reducible refine kq_ri ?_
    | with_reducible refine kq_if ?_ ?_
    | with_reducible refine kq_ifp ?_ ?_
theorem kq_turn_69 {s : rS} {B0 : rS → rS} {s1 : Int32} {s2 : Int32} {σ : rS} (hB0 : ∀  (σ : rS), kq5 s σ → kq5 s (B0  σ)) (h : kq5 s σ) : kq5 s (g5_turn_69 B0 s1 s2 σ) := by
  unfold g5_turn_69
  try dsimp only [pb5, pm5]
  repeat' first
    | with_reducible exact h
    | dsimp only
    | with_reducible refine hB0  _ ?_
    | with_reducible refine kq_si (by decide) (by decide) ?_
    | with_reducible refine kq_ri ?_
    | with_reducible refine kq_if ?_ ?_
    | with_reducible refine kq_ifp ?_ ?_
theorem kq_turn_20 {s : rS} {B0 : rS → rS} {σ : rS} (hB0 : ∀  (σ : rS), kq5 s σ → kq5 s (B0  σ)) (h : kq5 s σ) : kq5 s (g5_turn_20 B0 σ) := by
  unfold g5_turn_20
  try dsimp only [pb5, pm5]
  repeat' first
    | with_reducible refine kq_turn_69 hB0 ?_
    | with_reducible exact h
    | dsimp only
    | with_reducible refine hB0  _ ?_
    | with_reducible refine kq_si (by decide) (by decide) ?_
    | with_reducible refine kq_ri ?_
    | with_reducible refine kq_if ?_ ?_
    | with_reducible refine kq_ifp ?_ ?_
theorem kq_turn_0 {s : rS} (m : Nat) : ∀ (σ : rS), kq5 s σ → kq5 s (g5_turn_0 m  σ) := by
  induction m with
  | zero => exact fun _ h => h
  | succ m ih =>
    intro σ h
    rw [g5_turn_0]
    try dsimp only [pb5, pm5]
    repeat' first
      | with_reducible exact h
      | dsimp only
      | with_reducible refine ih _ ?_
      | with_reducible refine kq_turn_20 (fun  σ9 h9 => ih  σ9 h9) ?_
      | with_reducible refine kq_si (by decide) (by decide) ?_
      | with_reducible refine kq_ri ?_
      | with_reducible refine kq_if ?_ ?_
      | with_reducible refine kq_ifp ?_ ?_
theorem kq_turn {s : rS} {σ : rS} (h : kq5 s σ) : kq5 s (g5_turn  σ) := by
  unfold g5_turn
  try dsimp only [pb5, pm5]
  repeat' first
    | with_reducible exact h
    | dsimp only
    | with_reducible refine kq_turn_0 _ _ ?_
    | with_reducible refine kq_si (by decide) (by decide) ?_
    | with_reducible refine kq_ri ?_
    | with_reducible refine kq_if ?_ ?_
    | with_reducible refine kq_ifp ?_ ?_
theorem kq_push {s : rS} {a1 : Int32} {σ : rS} (h : kq5 s σ) : kq5 s (g5_push a1 σ) := by
  unfold g5_push
  try dsimp only [pb5, pm5]
  repeat' first
    | with_reducible exact h
    | dsimp only
    | with_reducible refine kq_turn ?_
    | with_reducible refine kq_si (by decide) (by decide) ?_
    | with_reducible refine kq_ri ?_
    | with_reducible refine kq_if ?_ ?_
    | with_reducible refine kq_ifp ?_ ?_
theorem kq_named_79 {s : rS} {a1 : Int32} {a2 : Int32} {σ : rS} (h : kq5 s σ) : kq5 s (g5_named_79 a1 a2 σ).1 := by
  unfold g5_named_79
  try dsimp only [pb5, pm5]
  repeat' first
    | with_reducible exact h
    | dsimp only
    | with_reducible refine kq_push ?_
    | with_reducible refine kq_open ?_
    | with_reducible refine kq_hold ?_
    | with_reducible refine kq_si (by decide) (by decide) ?_
    | with_reducible refine kq_ri ?_
    | with_reducible refine kq_if ?_ ?_
    | with_reducible refine kq_ifp ?_ ?_
theorem kq_named_34 {s : rS} {a1 : Int32} {σ : rS} (h : kq5 s σ) : kq5 s (g5_named_34 a1 σ).1 := by
  unfold g5_named_34
  try dsimp only [pb5, pm5]
  repeat' first
    | with_reducible exact h
    | dsimp only
    | with_reducible refine kq_look ?_
    | with_reducible refine kq_named_79 ?_
    | with_reducible refine kq_si (by decide) (by decide) ?_
    | with_reducible refine kq_ri ?_
    | with_reducible refine kq_if ?_ ?_
    | with_reducible refine kq_ifp ?_ ?_
theorem kq_named {s : rS} {σ : rS} (h : kq5 s σ) : kq5 s (g5_named  σ).1 := by
  unfold g5_named
  try dsimp only [pb5, pm5]
  repeat' first
    | with_reducible exact h
    | dsimp only
    | with_reducible refine kq_go ?_
    | with_reducible refine kq_named_34 ?_
    | with_reducible refine kq_flaw ?_
    | with_reducible refine kq_si (by decide) (by decide) ?_
    | with_reducible refine kq_ri ?_
    | with_reducible refine kq_if ?_ ?_
    | with_reducible refine kq_ifp ?_ ?_
theorem kq_operand_37 {s : rS} {s1 : Int32} {σ : rS} (h : kq5 s σ) : kq5 s (g5_operand_37 s1 σ).1 := by
  unfold g5_operand_37
  try dsimp only [pb5, pm5]
  repeat' first
    | with_reducible exact h
    | dsimp only
    | with_reducible refine kq_hold ?_
    | with_reducible refine kq_go ?_
    | with_reducible refine kq_si (by decide) (by decide) ?_
    | with_reducible refine kq_ri ?_
    | with_reducible refine kq_if ?_ ?_
    | with_reducible refine kq_ifp ?_ ?_
theorem kq_operand_18 {s : rS} {σ : rS} (h : kq5 s σ) : kq5 s (g5_operand_18  σ).1 := by
  unfold g5_operand_18
  try dsimp only [pb5, pm5]
  repeat' first
    | with_reducible exact h
    | dsimp only
    | with_reducible refine kq_operand_37 ?_
    | with_reducible refine kq_si (by decide) (by decide) ?_
    | with_reducible refine kq_ri ?_
    | with_reducible refine kq_if ?_ ?_
    | with_reducible refine kq_ifp ?_ ?_
theorem kq_operand {s : rS} {σ : rS} (h : kq5 s σ) : kq5 s (g5_operand  σ).1 := by
  unfold g5_operand
  try dsimp only [pb5, pm5]
  repeat' first
    | with_reducible exact h
    | dsimp only
    | with_reducible refine kq_go ?_
    | with_reducible refine kq_push ?_
    | with_reducible refine kq_named ?_
    | with_reducible refine kq_flaw ?_
    | with_reducible refine kq_open ?_
    | with_reducible refine kq_hold ?_
    | with_reducible refine kq_operand_18 ?_
    | with_reducible refine kq_si (by decide) (by decide) ?_
    | with_reducible refine kq_ri ?_
    | with_reducible refine kq_if ?_ ?_
    | with_reducible refine kq_ifp ?_ ?_
theorem kq_behind_73 {s : rS} {σ : rS} (h : kq5 s σ) : kq5 s (g5_behind_73  σ).1 := by
  unfold g5_behind_73
  try dsimp only [pb5, pm5]
  repeat' first
    | with_reducible exact h
    | dsimp only
    | with_reducible refine kq_hold ?_
    | with_reducible refine kq_go ?_
    | with_reducible refine kq_si (by decide) (by decide) ?_
    | with_reducible refine kq_ri ?_
    | with_reducible refine kq_if ?_ ?_
    | with_reducible refine kq_ifp ?_ ?_
theorem kq_behind_245 {s : rS} {σ : rS} (h : kq5 s σ) : kq5 s (g5_behind_245  σ).1 := by
  unfold g5_behind_245
  try dsimp only [pb5, pm5]
  repeat' first
    | with_reducible exact h
    | dsimp only
    | with_reducible refine kq_turn ?_
    | with_reducible refine kq_si (by decide) (by decide) ?_
    | with_reducible refine kq_ri ?_
    | with_reducible refine kq_if ?_ ?_
    | with_reducible refine kq_ifp ?_ ?_
theorem kq_behind_216 {s : rS} {a3 : Int32} {s1 : Int32} {σ : rS} (h : kq5 s σ) : kq5 s (g5_behind_216 a3 s1 σ).1 := by
  unfold g5_behind_216
  try dsimp only [pb5, pm5]
  repeat' first
    | with_reducible exact h
    | dsimp only
    | with_reducible refine kq_behind_245 ?_
    | with_reducible refine kq_si (by decide) (by decide) ?_
    | with_reducible refine kq_ri ?_
    | with_reducible refine kq_if ?_ ?_
    | with_reducible refine kq_ifp ?_ ?_
theorem kq_behind_93 {s : rS} {σ : rS} (h : kq5 s σ) : kq5 s (g5_behind_93  σ).1 := by
  unfold g5_behind_93
  try dsimp only [pb5, pm5]
  repeat' first
    | with_reducible exact h
    | dsimp only
    | with_reducible refine kq_settle ?_
    | with_reducible refine kq_close ?_
    | with_reducible refine kq_turn ?_
    | with_reducible refine kq_behind_245 ?_
    | with_reducible refine kq_behind_216 ?_
    | with_reducible refine kq_si (by decide) (by decide) ?_
    | with_reducible refine kq_ri ?_
    | with_reducible refine kq_if ?_ ?_
    | with_reducible refine kq_ifp ?_ ?_
theorem kq_behind_50 {s : rS} {a1 : Int32} {s1 : Int32} {σ : rS} (h : kq5 s σ) : kq5 s (g5_behind_50 a1 s1 σ).1 := by
  unfold g5_behind_50
  try dsimp only [pb5, pm5]
  repeat' first
    | with_reducible exact h
    | dsimp only
    | with_reducible refine kq_settle ?_
    | with_reducible refine kq_behind_93 ?_
    | with_reducible refine kq_behind_73 ?_
    | with_reducible refine kq_si (by decide) (by decide) ?_
    | with_reducible refine kq_ri ?_
    | with_reducible refine kq_if ?_ ?_
    | with_reducible refine kq_ifp ?_ ?_
theorem kq_behind_29 {s : rS} {s0 : Int32} {σ : rS} (h : kq5 s σ) : kq5 s (g5_behind_29 s0 σ).1 := by
  unfold g5_behind_29
  try dsimp only [pb5, pm5]
  repeat' first
    | with_reducible exact h
    | dsimp only
    | with_reducible refine kq_behind_50 ?_
    | with_reducible refine kq_si (by decide) (by decide) ?_
    | with_reducible refine kq_ri ?_
    | with_reducible refine kq_if ?_ ?_
    | with_reducible refine kq_ifp ?_ ?_
theorem kq_behind {s : rS} {σ : rS} (h : kq5 s σ) : kq5 s (g5_behind  σ).1 := by
  unfold g5_behind
  try dsimp only [pb5, pm5]
  repeat' first
    | with_reducible exact h
    | dsimp only
    | with_reducible refine kq_behind_29 ?_
    | with_reducible refine kq_si (by decide) (by decide) ?_
    | with_reducible refine kq_ri ?_
    | with_reducible refine kq_if ?_ ?_
    | with_reducible refine kq_ifp ?_ ?_
theorem kq_expression_51 {s : rS} {σ : rS} (h : kq5 s σ) : kq5 s (g5_expression_51  σ).1 := by
  unfold g5_expression_51
  try dsimp only [pb5, pm5]
  repeat' first
    | with_reducible exact h
    | dsimp only
    | with_reducible refine kq_si (by decide) (by decide) ?_
    | with_reducible refine kq_ri ?_
    | with_reducible refine kq_if ?_ ?_
    | with_reducible refine kq_ifp ?_ ?_
theorem kq_expression_12 {s : rS} (m : Nat) : ∀ (x0 : Int32) (σ : rS), kq5 s σ → kq5 s (g5_expression_12 m x0 σ).1 := by
  induction m with
  | zero => exact fun _ _ h => h
  | succ m ih =>
    intro x0 σ h
    rw [g5_expression_12]
    try dsimp only [pb5, pm5]
    repeat' first
      | with_reducible exact h
      | dsimp only
      | with_reducible refine ih _ _ ?_
      | with_reducible refine kq_expression_51 ?_
      | with_reducible refine kq_operand ?_
      | with_reducible refine kq_behind ?_
      | with_reducible refine kq_si (by decide) (by decide) ?_
      | with_reducible refine kq_ri ?_
      | with_reducible refine kq_if ?_ ?_
      | with_reducible refine kq_ifp ?_ ?_
theorem kq_expression {s : rS} {σ : rS} (h : kq5 s σ) : kq5 s (g5_expression  σ).1 := by
  unfold g5_expression
  try dsimp only [pb5, pm5]
  repeat' first
    | with_reducible exact h
    | dsimp only
    | with_reducible refine kq_expression_12 _ _ _ ?_
    | with_reducible refine kq_si (by decide) (by decide) ?_
    | with_reducible refine kq_ri ?_
    | with_reducible refine kq_if ?_ ?_
    | with_reducible refine kq_ifp ?_ ?_
theorem kq_openBlock {s : rS} {a1 : Int32} {a2 : Int32} {σ : rS} (h : kq5 s σ) : kq5 s (g5_openBlock a1 a2 σ) := by
  unfold g5_openBlock
  try dsimp only [pb5, pm5]
  repeat' first
    | with_reducible exact h
    | dsimp only
    | with_reducible refine kq_si (by decide) (by decide) ?_
    | with_reducible refine kq_ri ?_
    | with_reducible refine kq_if ?_ ?_
    | with_reducible refine kq_ifp ?_ ?_
theorem kq_newStatement_221 {s : rS} {a2 : Int32} {a3 : Int32} {σ : rS} (h : kq5 s σ) : kq5 s (g5_newStatement_221 a2 a3 σ).1 := by
  unfold g5_newStatement_221
  try dsimp only [pb5, pm5]
  repeat' first
    | with_reducible exact h
    | dsimp only
    | with_reducible refine kq_si (by decide) (by decide) ?_
    | with_reducible refine kq_ri ?_
    | with_reducible refine kq_if ?_ ?_
    | with_reducible refine kq_ifp ?_ ?_
theorem kq_newStatement_51 {s : rS} {a1 : Int32} {s0 : Int32} {σ : rS} (h : kq5 s σ) : kq5 s (g5_newStatement_51 a1 s0 σ).1 := by
  unfold g5_newStatement_51
  try dsimp only [pb5, pm5]
  repeat' first
    | with_reducible exact h
    | dsimp only
    | with_reducible refine kq_newStatement_221 ?_
    | with_reducible refine kq_si (by decide) (by decide) ?_
    | with_reducible refine kq_ri ?_
    | with_reducible refine kq_if ?_ ?_
    | with_reducible refine kq_ifp ?_ ?_
theorem kq_newStatement_33 {s : rS} {a1 : Int32} {σ : rS} (h : kq5 s σ) : kq5 s (g5_newStatement_33 a1 σ).1 := by
  unfold g5_newStatement_33
  try dsimp only [pb5, pm5]
  repeat' first
    | with_reducible exact h
    | dsimp only
    | with_reducible refine kq_newStatement_51 ?_
    | with_reducible refine kq_si (by decide) (by decide) ?_
    | with_reducible refine kq_ri ?_
    | with_reducible refine kq_if ?_ ?_
    | with_reducible refine kq_ifp ?_ ?_
theorem kq_newStatement {s : rS} {a1 : Int32} {σ : rS} (h : kq5 s σ) : kq5 s (g5_newStatement a1 σ).1 := by
  unfold g5_newStatement
  try dsimp only [pb5, pm5]
  repeat' first
    | with_reducible exact h
    | dsimp only
    | with_reducible refine kq_newStatement_33 ?_
    | with_reducible refine kq_flaw ?_
    | with_reducible refine kq_si (by decide) (by decide) ?_
    | with_reducible refine kq_ri ?_
    | with_reducible refine kq_if ?_ ?_
    | with_reducible refine kq_ifp ?_ ?_
theorem kq_tellVar_87 {s : rS} {a1 : Int32} {a2 : Int32} {σ : rS} (h : kq5 s σ) : kq5 s (g5_tellVar_87 a1 a2 σ) := by
  unfold g5_tellVar_87
  try dsimp only [pb5, pm5]
  repeat' first
    | with_reducible exact h
    | dsimp only
    | with_reducible refine kq_sign ?_
    | with_reducible refine kq_si (by decide) (by decide) ?_
    | with_reducible refine kq_ri ?_
    | with_reducible refine kq_if ?_ ?_
    | with_reducible refine kq_ifp ?_ ?_
theorem kq_tellVar_82 {s : rS} {a1 : Int32} {s0 : Int32} {σ : rS} (h : kq5 s σ) : kq5 s (g5_tellVar_82 a1 s0 σ) := by
  unfold g5_tellVar_82
  try dsimp only [pb5, pm5]
  repeat' first
    | with_reducible exact h
    | dsimp only
    | with_reducible refine kq_go ?_
    | with_reducible refine kq_tellVar_87 ?_
    | with_reducible refine kq_si (by decide) (by decide) ?_
    | with_reducible refine kq_ri ?_
    | with_reducible refine kq_if ?_ ?_
    | with_reducible refine kq_ifp ?_ ?_
theorem kq_tellVar_53 {s : rS} {a1 : Int32} {a3 : Int32} {σ : rS} (h : kq5 s σ) : kq5 s (g5_tellVar_53 a1 a3 σ) := by
  unfold g5_tellVar_53
  try dsimp only [pb5, pm5]
  repeat' first
    | with_reducible exact h
    | dsimp only
    | with_reducible refine kq_due ?_
    | with_reducible refine kq_tellVar_82 ?_
    | with_reducible refine kq_si (by decide) (by decide) ?_
    | with_reducible refine kq_ri ?_
    | with_reducible refine kq_if ?_ ?_
    | with_reducible refine kq_ifp ?_ ?_
theorem kq_tellVar {s : rS} {σ : rS} (h : kq5 s σ) : kq5 s (g5_tellVar  σ) := by
  unfold g5_tellVar
  try dsimp only [pb5, pm5]
  repeat' first
    | with_reducible exact h
    | dsimp only
    | with_reducible refine kq_go ?_
    | with_reducible refine kq_fresh ?_
    | with_reducible refine kq_tellVar_87 ?_
    | with_reducible refine kq_tellVar_53 ?_
    | with_reducible refine kq_si (by decide) (by decide) ?_
    | with_reducible refine kq_ri ?_
    | with_reducible refine kq_if ?_ ?_
    | with_reducible refine kq_ifp ?_ ?_
theorem kq_tellArr_56 {s : rS} {a1 : Int32} {a2 : Int32} {σ : rS} (h : kq5 s σ) : kq5 s (g5_tellArr_56 a1 a2 σ) := by
  unfold g5_tellArr_56
  try dsimp only [pb5, pm5]
  repeat' first
    | with_reducible exact h
    | dsimp only
    | with_reducible refine kq_go ?_
    | with_reducible refine kq_close ?_
    | with_reducible refine kq_sign ?_
    | with_reducible refine kq_si (by decide) (by decide) ?_
    | with_reducible refine kq_ri ?_
    | with_reducible refine kq_if ?_ ?_
    | with_reducible refine kq_ifp ?_ ?_
theorem kq_tellArr {s : rS} {σ : rS} (h : kq5 s σ) : kq5 s (g5_tellArr  σ) := by
  unfold g5_tellArr
  try dsimp only [pb5, pm5]
  repeat' first
    | with_reducible exact h
    | dsimp only
    | with_reducible refine kq_go ?_
    | with_reducible refine kq_fresh ?_
    | with_reducible refine kq_open ?_
    | with_reducible refine kq_due ?_
    | with_reducible refine kq_tellArr_56 ?_
    | with_reducible refine kq_flaw ?_
    | with_reducible refine kq_si (by decide) (by decide) ?_
    | with_reducible refine kq_ri ?_
    | with_reducible refine kq_if ?_ ?_
    | with_reducible refine kq_ifp ?_ ?_
theorem kq_arguments_65 {s : rS} {B28 : Int32 → rS → rS} {s0 : Int32} {σ : rS} (hB28 : ∀ (x0 : Int32) (σ : rS), kq5 s σ → kq5 s (B28 x0 σ)) (h : kq5 s σ) : kq5 s (g5_arguments_65 B28 s0 σ) := by
  unfold g5_arguments_65
  try dsimp only [pb5, pm5]
  repeat' first
    | with_reducible exact h
    | dsimp only
    | with_reducible refine hB28 _ _ ?_
    | with_reducible refine kq_go ?_
    | with_reducible refine kq_si (by decide) (by decide) ?_
    | with_reducible refine kq_ri ?_
    | with_reducible refine kq_if ?_ ?_
    | with_reducible refine kq_ifp ?_ ?_
theorem kq_arguments_77 {s : rS} {σ : rS} (h : kq5 s σ) : kq5 s (g5_arguments_77  σ) := by
  unfold g5_arguments_77
  try dsimp only [pb5, pm5]
  repeat' first
    | with_reducible exact h
    | dsimp only
    | with_reducible refine kq_close ?_
    | with_reducible refine kq_sign ?_
    | with_reducible refine kq_si (by decide) (by decide) ?_
    | with_reducible refine kq_ri ?_
    | with_reducible refine kq_if ?_ ?_
    | with_reducible refine kq_ifp ?_ ?_
theorem kq_arguments_28 {s : rS} (m : Nat) : ∀ (x0 : Int32) (σ : rS), kq5 s σ → kq5 s (g5_arguments_28 m x0 σ) := by
  induction m with
  | zero => exact fun _ _ h => h
  | succ m ih =>
    intro x0 σ h
    rw [g5_arguments_28]
    try dsimp only [pb5, pm5]
    repeat' first
      | with_reducible exact h
      | dsimp only
      | with_reducible refine ih _ _ ?_
      | with_reducible refine kq_arguments_77 ?_
      | with_reducible refine kq_expression ?_
      | with_reducible refine kq_arguments_65 (fun y0 σ9 h9 => ih y0 σ9 h9) ?_
      | with_reducible refine kq_si (by decide) (by decide) ?_
      | with_reducible refine kq_ri ?_
      | with_reducible refine kq_if ?_ ?_
      | with_reducible refine kq_ifp ?_ ?_
theorem kq_arguments {s : rS} {σ : rS} (h : kq5 s σ) : kq5 s (g5_arguments  σ) := by
  unfold g5_arguments
  try dsimp only [pb5, pm5]
  repeat' first
    | with_reducible exact h
    | dsimp only
    | with_reducible refine kq_open ?_
    | with_reducible refine kq_arguments_28 _ _ _ ?_
    | with_reducible refine kq_si (by decide) (by decide) ?_
    | with_reducible refine kq_ri ?_
    | with_reducible refine kq_if ?_ ?_
    | with_reducible refine kq_ifp ?_ ?_
theorem kq_tellDraw_55 {s : rS} {σ : rS} (h : kq5 s σ) : kq5 s (g5_tellDraw_55  σ) := by
  unfold g5_tellDraw_55
  try dsimp only [pb5, pm5]
  repeat' first
    | with_reducible exact h
    | dsimp only
    | with_reducible refine kq_close ?_
    | with_reducible refine kq_sign ?_
    | with_reducible refine kq_si (by decide) (by decide) ?_
    | with_reducible refine kq_ri ?_
    | with_reducible refine kq_if ?_ ?_
    | with_reducible refine kq_ifp ?_ ?_
theorem kq_tellDraw_18 {s : rS} {σ : rS} (h : kq5 s σ) : kq5 s (g5_tellDraw_18  σ) := by
  unfold g5_tellDraw_18
  try dsimp only [pb5, pm5]
  repeat' first
    | with_reducible exact h
    | dsimp only
    | with_reducible refine kq_go ?_
    | with_reducible refine kq_open ?_
    | with_reducible refine kq_expression ?_
    | with_reducible refine kq_tellDraw_55 ?_
    | with_reducible refine kq_sign ?_
    | with_reducible refine kq_si (by decide) (by decide) ?_
    | with_reducible refine kq_ri ?_
    | with_reducible refine kq_if ?_ ?_
    | with_reducible refine kq_ifp ?_ ?_
theorem kq_tellDraw_160 {s : rS} {B77 : Int32 → Int32 → rS → rS} {a1 : Int32} {s0 : Int32} {σ : rS} (hB77 : ∀ (x0 : Int32) (x1 : Int32) (σ : rS), kq5 s σ → kq5 s (B77 x0 x1 σ)) (h : kq5 s σ) : kq5 s (g5_tellDraw_160 B77 a1 s0 σ) := by
  unfold g5_tellDraw_160
  try dsimp only [pb5, pm5]
  repeat' first
    | with_reducible exact h
    | dsimp only
    | with_reducible refine hB77 _ _ _ ?_
    | with_reducible refine kq_go ?_
    | with_reducible refine kq_si (by decide) (by decide) ?_
    | with_reducible refine kq_ri ?_
    | with_reducible refine kq_if ?_ ?_
    | with_reducible refine kq_ifp ?_ ?_
theorem kq_tellDraw_125 {s : rS} {B77 : Int32 → Int32 → rS → rS} {a1 : Int32} {σ : rS} (hB77 : ∀ (x0 : Int32) (x1 : Int32) (σ : rS), kq5 s σ → kq5 s (B77 x0 x1 σ)) (h : kq5 s σ) : kq5 s (g5_tellDraw_125 B77 a1 σ) := by
  unfold g5_tellDraw_125
  try dsimp only [pb5, pm5]
  repeat' first
    | with_reducible refine kq_tellDraw_160 hB77 ?_
    | with_reducible exact h
    | dsimp only
    | with_reducible refine hB77 _ _ _ ?_
    | with_reducible refine kq_sign ?_
    | with_reducible refine kq_expression ?_
    | with_reducible refine kq_si (by decide) (by decide) ?_
    | with_reducible refine kq_ri ?_
    | with_reducible refine kq_if ?_ ?_
    | with_reducible refine kq_ifp ?_ ?_
theorem kq_tellDraw_172 {s : rS} {σ : rS} (h : kq5 s σ) : kq5 s (g5_tellDraw_172  σ) := by
  unfold g5_tellDraw_172
  try dsimp only [pb5, pm5]
  repeat' first
    | with_reducible exact h
    | dsimp only
    | with_reducible refine kq_close ?_
    | with_reducible refine kq_sign ?_
    | with_reducible refine kq_si (by decide) (by decide) ?_
    | with_reducible refine kq_ri ?_
    | with_reducible refine kq_if ?_ ?_
    | with_reducible refine kq_ifp ?_ ?_
theorem kq_tellDraw_77 {s : rS} (m : Nat) : ∀ (x0 x1 : Int32) (σ : rS), kq5 s σ → kq5 s (g5_tellDraw_77 m x0 x1 σ) := by
  induction m with
  | zero => exact fun _ _ _ h => h
  | succ m ih =>
    intro x0 x1 σ h
    have h3 := kq_expression h
    have h172 := kq_tellDraw_172 h
    have t : ∀ σ9, kq5 s σ9 → kq5 s (g5_tellDraw_125 (g5_tellDraw_77 m) x0 σ9) := fun σ9 h9 => kq_tellDraw_125 ih h9
    rw [g5_tellDraw_77]
    exact kq_pb (kq_if h172 (kq_if h172 (kq_pm (kq_pb (kq_if (t _ h3) (kq_pb (kq_if (t _ h3) (kq_if (kq_pb (t _ (kq_flaw h3))) (t _ h3)))))))))
theorem kq_tellDraw {s : rS} {σ : rS} (h : kq5 s σ) : kq5 s (g5_tellDraw  σ) := by
  unfold g5_tellDraw
  try dsimp only [pb5, pm5]
  repeat' first
    | with_reducible exact h
    | dsimp only
    | with_reducible refine kq_open ?_
    | with_reducible refine kq_tellDraw_77 _ _ _ _ ?_
    | with_reducible refine kq_tellDraw_18 ?_
    | with_reducible refine kq_si (by decide) (by decide) ?_
    | with_reducible refine kq_ri ?_
    | with_reducible refine kq_if ?_ ?_
    | with_reducible refine kq_ifp ?_ ?_
theorem kq_tellNamed_295 {s : rS} {σ : rS} (h : kq5 s σ) : kq5 s (g5_tellNamed_295  σ) := by
  unfold g5_tellNamed_295
  try dsimp only [pb5, pm5]
  repeat' first
    | with_reducible exact h
    | dsimp only
    | with_reducible refine kq_expression ?_
    | with_reducible refine kq_sign ?_
    | with_reducible refine kq_si (by decide) (by decide) ?_
    | with_reducible refine kq_ri ?_
    | with_reducible refine kq_if ?_ ?_
    | with_reducible refine kq_ifp ?_ ?_
theorem kq_tellNamed_244 {s : rS} {a1 : Int32} {a3 : Int32} {σ : rS} (h : kq5 s σ) : kq5 s (g5_tellNamed_244 a1 a3 σ) := by
  unfold g5_tellNamed_244
  try dsimp only [pb5, pm5]
  repeat' first
    | with_reducible exact h
    | dsimp only
    | with_reducible refine kq_tellNamed_295 ?_
    | with_reducible refine kq_go ?_
    | with_reducible refine kq_arguments ?_
    | with_reducible refine kq_si (by decide) (by decide) ?_
    | with_reducible refine kq_ri ?_
    | with_reducible refine kq_if ?_ ?_
    | with_reducible refine kq_ifp ?_ ?_
theorem kq_tellNamed_175 {s : rS} {a1 : Int32} {a3 : Int32} {σ : rS} (h : kq5 s σ) : kq5 s (g5_tellNamed_175 a1 a3 σ) := by
  unfold g5_tellNamed_175
  try dsimp only [pb5, pm5]
  repeat' first
    | with_reducible exact h
    | dsimp only
    | with_reducible refine kq_sign ?_
    | with_reducible refine kq_tellNamed_244 ?_
    | with_reducible refine kq_go ?_
    | with_reducible refine kq_open ?_
    | with_reducible refine kq_expression ?_
    | with_reducible refine kq_close ?_
    | with_reducible refine kq_si (by decide) (by decide) ?_
    | with_reducible refine kq_ri ?_
    | with_reducible refine kq_if ?_ ?_
    | with_reducible refine kq_ifp ?_ ?_
theorem kq_tellNamed_133 {s : rS} {a1 : Int32} {a3 : Int32} {σ : rS} (h : kq5 s σ) : kq5 s (g5_tellNamed_133 a1 a3 σ) := by
  unfold g5_tellNamed_133
  try dsimp only [pb5, pm5]
  repeat' first
    | with_reducible exact h
    | dsimp only
    | with_reducible refine kq_tellNamed_175 ?_
    | with_reducible refine kq_go ?_
    | with_reducible refine kq_tellDraw ?_
    | with_reducible refine kq_si (by decide) (by decide) ?_
    | with_reducible refine kq_ri ?_
    | with_reducible refine kq_if ?_ ?_
    | with_reducible refine kq_ifp ?_ ?_
theorem kq_tellNamed_109 {s : rS} {a1 : Int32} {a3 : Int32} {s1 : Int32} {s2 : Int32} {σ : rS} (h : kq5 s σ) : kq5 s (g5_tellNamed_109 a1 a3 s1 s2 σ) := by
  unfold g5_tellNamed_109
  try dsimp only [pb5, pm5]
  repeat' first
    | with_reducible exact h
    | dsimp only
    | with_reducible refine kq_look ?_
    | with_reducible refine kq_tellNamed_133 ?_
    | with_reducible refine kq_open ?_
    | with_reducible refine kq_expression ?_
    | with_reducible refine kq_close ?_
    | with_reducible refine kq_si (by decide) (by decide) ?_
    | with_reducible refine kq_ri ?_
    | with_reducible refine kq_if ?_ ?_
    | with_reducible refine kq_ifp ?_ ?_
theorem kq_tellNamed_90 {s : rS} {a1 : Int32} {a2 : Int32} {a3 : Int32} {σ : rS} (h : kq5 s σ) : kq5 s (g5_tellNamed_90 a1 a2 a3 σ) := by
  unfold g5_tellNamed_90
  try dsimp only [pb5, pm5]
  repeat' first
    | with_reducible exact h
    | dsimp only
    | with_reducible refine kq_tellNamed_109 ?_
    | with_reducible refine kq_si (by decide) (by decide) ?_
    | with_reducible refine kq_ri ?_
    | with_reducible refine kq_if ?_ ?_
    | with_reducible refine kq_ifp ?_ ?_
theorem kq_tellNamed {s : rS} {σ : rS} (h : kq5 s σ) : kq5 s (g5_tellNamed  σ) := by
  unfold g5_tellNamed
  try dsimp only [pb5, pm5]
  repeat' first
    | with_reducible exact h
    | dsimp only
    | with_reducible refine kq_newStatement ?_
    | with_reducible refine kq_go ?_
    | with_reducible refine kq_flaw ?_
    | with_reducible refine kq_tellNamed_90 ?_
    | with_reducible refine kq_arguments ?_
    | with_reducible refine kq_si (by decide) (by decide) ?_
    | with_reducible refine kq_ri ?_
    | with_reducible refine kq_if ?_ ?_
    | with_reducible refine kq_ifp ?_ ?_
theorem kq_tellLocal {s : rS} {σ : rS} (h : kq5 s σ) : kq5 s (g5_tellLocal  σ) := by
  unfold g5_tellLocal
  try dsimp only [pb5, pm5]
  repeat' first
    | with_reducible exact h
    | dsimp only
    | with_reducible refine kq_newStatement ?_
    | with_reducible refine kq_go ?_
    | with_reducible refine kq_fresh ?_
    | with_reducible refine kq_sign ?_
    | with_reducible refine kq_expression ?_
    | with_reducible refine kq_si (by decide) (by decide) ?_
    | with_reducible refine kq_ri ?_
    | with_reducible refine kq_if ?_ ?_
    | with_reducible refine kq_ifp ?_ ?_
theorem kq_tellStatement_68 {s : rS} {s1 : Int32} {σ : rS} (h : kq5 s σ) : kq5 s (g5_tellStatement_68 s1 σ) := by
  unfold g5_tellStatement_68
  try dsimp only [pb5, pm5]
  repeat' first
    | with_reducible exact h
    | dsimp only
    | with_reducible refine kq_newStatement ?_
    | with_reducible refine kq_go ?_
    | with_reducible refine kq_expression ?_
    | with_reducible refine kq_open ?_
    | with_reducible refine kq_openBlock ?_
    | with_reducible refine kq_si (by decide) (by decide) ?_
    | with_reducible refine kq_ri ?_
    | with_reducible refine kq_if ?_ ?_
    | with_reducible refine kq_ifp ?_ ?_
theorem kq_tellStatement_52 {s : rS} {σ : rS} (h : kq5 s σ) : kq5 s (g5_tellStatement_52  σ) := by
  unfold g5_tellStatement_52
  try dsimp only [pb5, pm5]
  repeat' first
    | with_reducible exact h
    | dsimp only
    | with_reducible refine kq_tellStatement_68 ?_
    | with_reducible refine kq_si (by decide) (by decide) ?_
    | with_reducible refine kq_ri ?_
    | with_reducible refine kq_if ?_ ?_
    | with_reducible refine kq_ifp ?_ ?_
theorem kq_tellStatement_164 {s : rS} {s1 : Int32} {σ : rS} (h : kq5 s σ) : kq5 s (g5_tellStatement_164 s1 σ) := by
  unfold g5_tellStatement_164
  try dsimp only [pb5, pm5]
  repeat' first
    | with_reducible exact h
    | dsimp only
    | with_reducible refine kq_newStatement ?_
    | with_reducible refine kq_go ?_
    | with_reducible refine kq_expression ?_
    | with_reducible refine kq_sign ?_
    | with_reducible refine kq_si (by decide) (by decide) ?_
    | with_reducible refine kq_ri ?_
    | with_reducible refine kq_if ?_ ?_
    | with_reducible refine kq_ifp ?_ ?_
theorem kq_tellStatement_133 {s : rS} {σ : rS} (h : kq5 s σ) : kq5 s (g5_tellStatement_133  σ) := by
  unfold g5_tellStatement_133
  try dsimp only [pb5, pm5]
  repeat' first
    | with_reducible exact h
    | dsimp only
    | with_reducible refine kq_tellStatement_164 ?_
    | with_reducible refine kq_si (by decide) (by decide) ?_
    | with_reducible refine kq_ri ?_
    | with_reducible refine kq_if ?_ ?_
    | with_reducible refine kq_ifp ?_ ?_
theorem kq_tellStatement {s σ : rS} (h : kq5 s σ) : kq5 s (g5_tellStatement σ) := by
  have h133 := kq_tellStatement_133 h
  have h52 := kq_tellStatement_52 h
  unfold g5_tellStatement
  exact kq_if (kq_pb (kq_tellNamed h)) (kq_pb (kq_if (kq_pb (kq_if (kq_pb (kq_if (kq_pb (kq_if (kq_pb (kq_if (kq_pb (kq_if (kq_pb (kq_flaw h)) h133)) h133)) h133)) h52)) h52)) (kq_pb (kq_tellLocal h))))
theorem kq_endBlock {s : rS} {σ : rS} (h : kq5 s σ) : kq5 s (g5_endBlock  σ) := by
  unfold g5_endBlock
  try dsimp only [pb5, pm5]
  repeat' first
    | with_reducible exact h
    | dsimp only
    | with_reducible refine kq_close ?_
    | with_reducible refine kq_go ?_
    | with_reducible refine kq_open ?_
    | with_reducible refine kq_openBlock ?_
    | with_reducible refine kq_si (by decide) (by decide) ?_
    | with_reducible refine kq_ri ?_
    | with_reducible refine kq_if ?_ ?_
    | with_reducible refine kq_ifp ?_ ?_
theorem kq_tellStatements_11 {s : rS} (m : Nat) : ∀ (σ : rS), kq5 s σ → kq5 s (g5_tellStatements_11 m  σ) := by
  induction m with
  | zero => exact fun _ h => h
  | succ m ih =>
    intro σ h
    rw [g5_tellStatements_11]
    try dsimp only [pb5, pm5]
    repeat' first
      | with_reducible exact h
      | dsimp only
      | with_reducible refine ih _ ?_
      | with_reducible refine kq_tellStatement ?_
      | with_reducible refine kq_endBlock ?_
      | with_reducible refine kq_si (by decide) (by decide) ?_
      | with_reducible refine kq_ri ?_
      | with_reducible refine kq_if ?_ ?_
      | with_reducible refine kq_ifp ?_ ?_
theorem kq_tellStatements {s : rS} {σ : rS} (h : kq5 s σ) : kq5 s (g5_tellStatements  σ) := by
  unfold g5_tellStatements
  try dsimp only [pb5, pm5]
  repeat' first
    | with_reducible exact h
    | dsimp only
    | with_reducible refine kq_openBlock ?_
    | with_reducible refine kq_tellStatements_11 _ _ ?_
    | with_reducible refine kq_si (by decide) (by decide) ?_
    | with_reducible refine kq_ri ?_
    | with_reducible refine kq_if ?_ ?_
    | with_reducible refine kq_ifp ?_ ?_
theorem kq_tellFunc_206 {s : rS} {B102 : Int32 → Int32 → rS → rS} {a1 : Int32} {s0 : Int32} {σ : rS} (hB102 : ∀ (x0 : Int32) (x1 : Int32) (σ : rS), kq5 s σ → kq5 s (B102 x0 x1 σ)) (h : kq5 s σ) : kq5 s (g5_tellFunc_206 B102 a1 s0 σ) := by
  unfold g5_tellFunc_206
  try dsimp only [pb5, pm5]
  repeat' first
    | with_reducible exact h
    | dsimp only
    | with_reducible refine hB102 _ _ _ ?_
    | with_reducible refine kq_go ?_
    | with_reducible refine kq_si (by decide) (by decide) ?_
    | with_reducible refine kq_ri ?_
    | with_reducible refine kq_if ?_ ?_
    | with_reducible refine kq_ifp ?_ ?_
theorem kq_tellFunc_185 {s : rS} {B102 : Int32 → Int32 → rS → rS} {a1 : Int32} {σ : rS} (hB102 : ∀ (x0 : Int32) (x1 : Int32) (σ : rS), kq5 s σ → kq5 s (B102 x0 x1 σ)) (h : kq5 s σ) : kq5 s (g5_tellFunc_185 B102 a1 σ) := by
  unfold g5_tellFunc_185
  try dsimp only [pb5, pm5]
  repeat' first
    | with_reducible refine kq_tellFunc_206 hB102 ?_
    | with_reducible exact h
    | dsimp only
    | with_reducible refine hB102 _ _ _ ?_
    | with_reducible refine kq_si (by decide) (by decide) ?_
    | with_reducible refine kq_ri ?_
    | with_reducible refine kq_if ?_ ?_
    | with_reducible refine kq_ifp ?_ ?_
theorem kq_tellFunc_218 {s : rS} {a1 : Int32} {σ : rS} (h : kq5 s σ) : kq5 s (g5_tellFunc_218 a1 σ) := by
  unfold g5_tellFunc_218
  try dsimp only [pb5, pm5]
  repeat' first
    | with_reducible exact h
    | dsimp only
    | with_reducible refine kq_close ?_
    | with_reducible refine kq_open ?_
    | with_reducible refine kq_tellStatements ?_
    | with_reducible refine kq_si (by decide) (by decide) ?_
    | with_reducible refine kq_ri ?_
    | with_reducible refine kq_if ?_ ?_
    | with_reducible refine kq_ifp ?_ ?_
theorem kq_tellFunc_102 {s : rS} (m : Nat) : ∀ (x0 : Int32) (x1 : Int32) (σ : rS), kq5 s σ → kq5 s (g5_tellFunc_102 m x0 x1 σ) := by
  induction m with
  | zero => exact fun _ _ _ h => h
  | succ m ih =>
    intro x0 x1 σ h
    rw [g5_tellFunc_102]
    try dsimp only [pb5, pm5]
    repeat' first
      | with_reducible exact h
      | dsimp only
      | with_reducible refine ih _ _ _ ?_
      | with_reducible refine kq_tellFunc_218 ?_
      | with_reducible refine kq_fresh ?_
      | with_reducible refine kq_tellFunc_185 (fun y0 y1 σ9 h9 => ih y0 y1 σ9 h9) ?_
      | with_reducible refine kq_si (by decide) (by decide) ?_
      | with_reducible refine kq_ri ?_
      | with_reducible refine kq_if ?_ ?_
      | with_reducible refine kq_ifp ?_ ?_
theorem kq_tellFunc_74 {s : rS} {a1 : Int32} {σ : rS} (h : kq5 s σ) : kq5 s (g5_tellFunc_74 a1 σ) := by
  unfold g5_tellFunc_74
  try dsimp only [pb5, pm5]
  repeat' first
    | with_reducible exact h
    | dsimp only
    | with_reducible refine kq_open ?_
    | with_reducible refine kq_tellFunc_102 _ _ _ _ ?_
    | with_reducible refine kq_si (by decide) (by decide) ?_
    | with_reducible refine kq_ri ?_
    | with_reducible refine kq_if ?_ ?_
    | with_reducible refine kq_ifp ?_ ?_
theorem kq_tellFunc_34 {s : rS} {a1 : Int32} {s1 : Int32} {σ : rS} (h : kq5 s σ) : kq5 s (g5_tellFunc_34 a1 s1 σ) := by
  unfold g5_tellFunc_34
  try dsimp only [pb5, pm5]
  repeat' first
    | with_reducible exact h
    | dsimp only
    | with_reducible refine kq_tellFunc_74 ?_
    | with_reducible refine kq_si (by decide) (by decide) ?_
    | with_reducible refine kq_ri ?_
    | with_reducible refine kq_if ?_ ?_
    | with_reducible refine kq_ifp ?_ ?_
theorem kq_tellFunc {s : rS} {σ : rS} (h : kq5 s σ) : kq5 s (g5_tellFunc  σ) := by
  unfold g5_tellFunc
  try dsimp only [pb5, pm5]
  repeat' first
    | with_reducible exact h
    | dsimp only
    | with_reducible refine kq_go ?_
    | with_reducible refine kq_fresh ?_
    | with_reducible refine kq_tellFunc_34 ?_
    | with_reducible refine kq_si (by decide) (by decide) ?_
    | with_reducible refine kq_ri ?_
    | with_reducible refine kq_if ?_ ?_
    | with_reducible refine kq_ifp ?_ ?_
