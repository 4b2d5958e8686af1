set_option maxHeartbeats 1600000
/-! field 514 stays (written by wip/p5/m/mkKT.py) -/
def km5 {α : Type} (z : Int32) (r : R5 α) : Prop := ∀ e' a', r = .inl (e', a') → e'.1 514 = z
theorem km_i5 {α : Type} {z : Int32} {e : E5} {a : α} (h : e.1 514 = z) : km5 z (.inl (e, a) : R5 α) := fun e' a' q => by
  have y := (Prod.mk.inj (Sum.inl.inj q)).1
  rw [← y]; exact h
theorem km_r5 {α : Type} {z : Int32} {x : Int32 × Int32} : km5 z (.inr x : R5 α) := fun e' a' q => by cases q
theorem km_f5 {α : Type} {z : Int32} {c : Prop} [Decidable c] {A B : R5 α} (hA : km5 z A) (hB : km5 z B) : km5 z (if c then A else B) := by
  by_cases h : c
  · rw [if_pos h]; exact hA
  · rw [if_neg h]; exact hB
theorem km_b5 {α β : Type} {z : Int32} {m : R5 α} {k : E5 → α → R5 β} (h : km5 z m) (hk : ∀ e a, e.1 514 = z → km5 z (k e a)) : km5 z (rdB5 m k) := by
  cases m with
  | inl x => exact hk x.1 x.2 (h x.1 x.2 rfl)
  | inr x => exact km_r5
theorem km_p5 {α β : Type} {z : Int32} {x : α} {k : α → R5 β} (h : km5 z (k x)) : km5 z (pb5 x k) := h
theorem km_stI {z x : Int32} {f : Nat} {e : E5} (hf : ¬ 514 = f) (h : e.1 514 = z) : km5 z (stI5 f x e) := km_i5 (by show (if 514 = f then x else e.1 514) = z; rw [if_neg hf]; exact h)
theorem km_sa {z x : Int32} {f i : Nat} {e : E5} (h : e.1 514 = z) : km5 z (sa5 f i x e) := km_i5 h
theorem km_sw {z x : Int32} {e : E5} (h : e.1 514 = z) : km5 z (sw5 x e) := km_i5 (by show (if 514 = 1016 then x else e.1 514) = z; rw [if_neg (by decide)]; exact h)
theorem km_Pa_hold {z x : Int32} {e : E5} (h : e.1 514 = z) : km5 z (f5_Pa_hold x e) := km_i5 (by show (if 514 = 1016 then e.1 1016 + 1 else e.1 514) = z; rw [if_neg (by decide)]; exact h)
theorem km_Co_emit {z x y : Int32} {e : E5} (h : e.1 514 = z) : km5 z (f5_Co_emit x y e) := km_i5 (by show (if 514 = 515 then e.1 515 + 1 else e.1 514) = z; rw [if_neg (by decide)]; exact h)
theorem km_Co_addStatement {z : Int32} {e : E5} (h : e.1 514 = z) : km5 z (f5_Co_addStatement e) := km_i5 (by show (if 514 = 513 then e.1 513 + 1 else e.1 514) = z; rw [if_neg (by decide)]; exact h)
theorem km_Co_setColumn {z s c x : Int32} {e : E5} (h : e.1 514 = z) : km5 z (f5_Co_setColumn s c x e) := by
  unfold f5_Co_setColumn
  exact km_f5 (km_i5 h) (km_f5 (km_i5 h) (km_sa h))
theorem km_Pa_take {z : Int32} {e : E5} (h : e.1 514 = z) : km5 z (f5_Pa_take  e) := by
  unfold f5_Pa_take
  repeat' first | with_reducible exact km_i5 (by assumption) | with_reducible exact km_r5 | with_reducible exact km_stI (by decide) (by assumption) | with_reducible exact km_sa (by assumption) | with_reducible exact km_sw (by assumption) | with_reducible refine km_f5 ?_ ?_ | with_reducible refine km_p5 ?_ | with_reducible refine km_b5 ?_ (fun _ _ _ => ?_) | dsimp only
theorem km_Pa_expect {z : Int32} {a1 : Int32} {e : E5} (h : e.1 514 = z) : km5 z (f5_Pa_expect a1 e) := by
  unfold f5_Pa_expect
  repeat' first | with_reducible exact km_i5 (by assumption) | with_reducible exact km_r5 | with_reducible exact km_stI (by decide) (by assumption) | with_reducible exact km_sa (by assumption) | with_reducible exact km_sw (by assumption) | with_reducible refine km_f5 ?_ ?_ | with_reducible refine km_p5 ?_ | with_reducible refine km_b5 ?_ (fun _ _ _ => ?_) | dsimp only
theorem km_Pa_pass {z : Int32} {a1 : Int32} {e : E5} (h : e.1 514 = z) : km5 z (f5_Pa_pass a1 e) := by
  unfold f5_Pa_pass
  repeat' first | with_reducible exact km_i5 (by assumption) | with_reducible exact km_r5 | with_reducible exact km_Pa_take (by assumption) | with_reducible exact km_stI (by decide) (by assumption) | with_reducible exact km_sa (by assumption) | with_reducible exact km_sw (by assumption) | with_reducible refine km_f5 ?_ ?_ | with_reducible refine km_p5 ?_ | with_reducible refine km_b5 ?_ (fun _ _ _ => ?_) | dsimp only
theorem km_Pa_openSign_35 {z : Int32} {e : E5} (h : e.1 514 = z) : km5 z (f5_Pa_openSign_35  e) := by
  unfold f5_Pa_openSign_35
  repeat' first | with_reducible exact km_i5 (by assumption) | with_reducible exact km_r5 | with_reducible exact km_Pa_take (by assumption) | with_reducible exact km_stI (by decide) (by assumption) | with_reducible exact km_sa (by assumption) | with_reducible exact km_sw (by assumption) | with_reducible refine km_f5 ?_ ?_ | with_reducible refine km_p5 ?_ | with_reducible refine km_b5 ?_ (fun _ _ _ => ?_) | dsimp only
theorem km_Pa_openSign_17 {z : Int32} {e : E5} (h : e.1 514 = z) : km5 z (f5_Pa_openSign_17  e) := by
  unfold f5_Pa_openSign_17
  repeat' first | with_reducible exact km_i5 (by assumption) | with_reducible exact km_r5 | with_reducible exact km_Pa_openSign_35 (by assumption) | with_reducible exact km_stI (by decide) (by assumption) | with_reducible exact km_sa (by assumption) | with_reducible exact km_sw (by assumption) | with_reducible refine km_f5 ?_ ?_ | with_reducible refine km_p5 ?_ | with_reducible refine km_b5 ?_ (fun _ _ _ => ?_) | dsimp only
theorem km_Pa_openSign {z : Int32} {a1 : Int32} {e : E5} (h : e.1 514 = z) : km5 z (f5_Pa_openSign a1 e) := by
  unfold f5_Pa_openSign
  repeat' first | with_reducible exact km_i5 (by assumption) | with_reducible exact km_r5 | with_reducible exact km_Pa_openSign_17 (by assumption) | with_reducible exact km_stI (by decide) (by assumption) | with_reducible exact km_sa (by assumption) | with_reducible exact km_sw (by assumption) | with_reducible refine km_f5 ?_ ?_ | with_reducible refine km_p5 ?_ | with_reducible refine km_b5 ?_ (fun _ _ _ => ?_) | dsimp only
theorem km_Pa_closeSign_17 {z : Int32} {e : E5} (h : e.1 514 = z) : km5 z (f5_Pa_closeSign_17  e) := by
  unfold f5_Pa_closeSign_17
  repeat' first | with_reducible exact km_i5 (by assumption) | with_reducible exact km_r5 | with_reducible exact km_Pa_take (by assumption) | with_reducible exact km_stI (by decide) (by assumption) | with_reducible exact km_sa (by assumption) | with_reducible exact km_sw (by assumption) | with_reducible refine km_f5 ?_ ?_ | with_reducible refine km_p5 ?_ | with_reducible refine km_b5 ?_ (fun _ _ _ => ?_) | dsimp only
theorem km_Pa_closeSign {z : Int32} {a1 : Int32} {e : E5} (h : e.1 514 = z) : km5 z (f5_Pa_closeSign a1 e) := by
  unfold f5_Pa_closeSign
  repeat' first | with_reducible exact km_i5 (by assumption) | with_reducible exact km_r5 | with_reducible exact km_Pa_closeSign_17 (by assumption) | with_reducible exact km_stI (by decide) (by assumption) | with_reducible exact km_sa (by assumption) | with_reducible exact km_sw (by assumption) | with_reducible refine km_f5 ?_ ?_ | with_reducible refine km_p5 ?_ | with_reducible refine km_b5 ?_ (fun _ _ _ => ?_) | dsimp only
theorem km_Pa_newName_143 {z : Int32} {e : E5} (h : e.1 514 = z) : km5 z (f5_Pa_newName_143  e) := by
  unfold f5_Pa_newName_143
  repeat' first | with_reducible exact km_i5 (by assumption) | with_reducible exact km_r5 | with_reducible exact km_Pa_take (by assumption) | with_reducible exact km_stI (by decide) (by assumption) | with_reducible exact km_sa (by assumption) | with_reducible exact km_sw (by assumption) | with_reducible refine km_f5 ?_ ?_ | with_reducible refine km_p5 ?_ | with_reducible refine km_b5 ?_ (fun _ _ _ => ?_) | dsimp only
theorem km_Pa_newName_128 {z : Int32} {a1 a2 : Int32} {e : E5} (h : e.1 514 = z) : km5 z (f5_Pa_newName_128 a1 a2 e) := by
  unfold f5_Pa_newName_128
  repeat' first | with_reducible exact km_i5 (by assumption) | with_reducible exact km_r5 | with_reducible exact km_Pa_newName_143 (by assumption) | with_reducible exact km_stI (by decide) (by assumption) | with_reducible exact km_sa (by assumption) | with_reducible exact km_sw (by assumption) | with_reducible refine km_f5 ?_ ?_ | with_reducible refine km_p5 ?_ | with_reducible refine km_b5 ?_ (fun _ _ _ => ?_) | dsimp only
theorem km_Pa_newName_113 {z : Int32} {a1 a2 s0 : Int32} {e : E5} (h : e.1 514 = z) : km5 z (f5_Pa_newName_113 a1 a2 s0 e) := by
  unfold f5_Pa_newName_113
  repeat' first | with_reducible exact km_i5 (by assumption) | with_reducible exact km_r5 | with_reducible exact km_Pa_newName_128 (by assumption) | with_reducible exact km_stI (by decide) (by assumption) | with_reducible exact km_sa (by assumption) | with_reducible exact km_sw (by assumption) | with_reducible refine km_f5 ?_ ?_ | with_reducible refine km_p5 ?_ | with_reducible refine km_b5 ?_ (fun _ _ _ => ?_) | dsimp only
theorem km_Pa_newName {z : Int32} {a1 a2 : Int32} {e : E5} (h : e.1 514 = z) : km5 z (f5_Pa_newName a1 a2 e) := by
  unfold f5_Pa_newName
  repeat' first | with_reducible exact km_i5 (by assumption) | with_reducible exact km_r5 | with_reducible exact km_Pa_expect (by assumption) | with_reducible exact km_Pa_newName_113 (by assumption) | with_reducible exact km_stI (by decide) (by assumption) | with_reducible exact km_sa (by assumption) | with_reducible exact km_sw (by assumption) | with_reducible refine km_f5 ?_ ?_ | with_reducible refine km_p5 ?_ | with_reducible refine km_b5 ?_ (fun _ _ _ => ?_) | dsimp only
theorem km_Pa_findArray {z : Int32} {a1 : Int32} {e : E5} (h : e.1 514 = z) : km5 z (f5_Pa_findArray a1 e) := by
  unfold f5_Pa_findArray
  repeat' first | with_reducible exact km_i5 (by assumption) | with_reducible exact km_r5 | with_reducible exact km_stI (by decide) (by assumption) | with_reducible exact km_sa (by assumption) | with_reducible exact km_sw (by assumption) | with_reducible refine km_f5 ?_ ?_ | with_reducible refine km_p5 ?_ | with_reducible refine km_b5 ?_ (fun _ _ _ => ?_) | dsimp only
theorem km_Pa_findVariable {z : Int32} {a1 : Int32} {e : E5} (h : e.1 514 = z) : km5 z (f5_Pa_findVariable a1 e) := by
  unfold f5_Pa_findVariable
  repeat' first | with_reducible exact km_i5 (by assumption) | with_reducible exact km_r5 | with_reducible exact km_stI (by decide) (by assumption) | with_reducible exact km_sa (by assumption) | with_reducible exact km_sw (by assumption) | with_reducible refine km_f5 ?_ ?_ | with_reducible refine km_p5 ?_ | with_reducible refine km_b5 ?_ (fun _ _ _ => ?_) | dsimp only
theorem km_Pa_addOwn {z : Int32} {a1 : Int32} {e : E5} (h : e.1 514 = z) : km5 z (f5_Pa_addOwn a1 e) := by
  unfold f5_Pa_addOwn
  repeat' first | with_reducible exact km_i5 (by assumption) | with_reducible exact km_r5 | with_reducible exact km_stI (by decide) (by assumption) | with_reducible exact km_sa (by assumption) | with_reducible exact km_sw (by assumption) | with_reducible refine km_f5 ?_ ?_ | with_reducible refine km_p5 ?_ | with_reducible refine km_b5 ?_ (fun _ _ _ => ?_) | dsimp only
theorem km_Pa_pushBlock {z : Int32} {a1 a2 : Int32} {e : E5} (h : e.1 514 = z) : km5 z (f5_Pa_pushBlock a1 a2 e) := by
  unfold f5_Pa_pushBlock
  repeat' first | with_reducible exact km_i5 (by assumption) | with_reducible exact km_r5 | with_reducible exact km_stI (by decide) (by assumption) | with_reducible exact km_sa (by assumption) | with_reducible exact km_sw (by assumption) | with_reducible refine km_f5 ?_ ?_ | with_reducible refine km_p5 ?_ | with_reducible refine km_b5 ?_ (fun _ _ _ => ?_) | dsimp only
theorem km_Pa_setPlace {z : Int32} {a1 a2 a3 : Int32} {e : E5} (h : e.1 514 = z) : km5 z (f5_Pa_setPlace a1 a2 a3 e) := by
  unfold f5_Pa_setPlace
  repeat' first | with_reducible exact km_i5 (by assumption) | with_reducible exact km_r5 | with_reducible exact km_Co_setColumn (by assumption) | with_reducible exact km_stI (by decide) (by assumption) | with_reducible exact km_sa (by assumption) | with_reducible exact km_sw (by assumption) | with_reducible refine km_f5 ?_ ?_ | with_reducible refine km_p5 ?_ | with_reducible refine km_b5 ?_ (fun _ _ _ => ?_) | dsimp only
theorem km_Pa_emitWaiting_0 {z : Int32} : ∀ (m : Nat) (x0 : Int32) (e : E5), e.1 514 = z → km5 z (f5_Pa_emitWaiting_0 m x0 e) := by
  intro m
  induction m with
  | zero => exact fun _ _ _ => km_r5
  | succ m ih =>
    intro x0 e h
    rw [f5_Pa_emitWaiting_0]
    repeat' first | with_reducible exact ih _ _ (by assumption) | with_reducible exact km_i5 (by assumption) | with_reducible exact km_r5 | with_reducible exact km_Co_emit (by assumption) | with_reducible exact km_stI (by decide) (by assumption) | with_reducible exact km_sa (by assumption) | with_reducible exact km_sw (by assumption) | with_reducible refine km_f5 ?_ ?_ | with_reducible refine km_p5 ?_ | with_reducible refine km_b5 ?_ (fun _ _ _ => ?_) | dsimp only
theorem km_Pa_emitWaiting {z : Int32} {a1 : Int32} {e : E5} (h : e.1 514 = z) : km5 z (f5_Pa_emitWaiting a1 e) := by
  unfold f5_Pa_emitWaiting
  repeat' first | with_reducible exact km_i5 (by assumption) | with_reducible exact km_r5 | with_reducible exact km_Pa_emitWaiting_0 _ _ _ (by assumption) | with_reducible exact km_stI (by decide) (by assumption) | with_reducible exact km_sa (by assumption) | with_reducible exact km_sw (by assumption) | with_reducible refine km_f5 ?_ ?_ | with_reducible refine km_p5 ?_ | with_reducible refine km_b5 ?_ (fun _ _ _ => ?_) | dsimp only
theorem km_Pa_operator_58 {z : Int32} {a1 : Int32} {e : E5} (h : e.1 514 = z) : km5 z (f5_Pa_operator_58 a1 e) := by
  unfold f5_Pa_operator_58
  repeat' first | with_reducible exact km_i5 (by assumption) | with_reducible exact km_r5 | with_reducible exact km_Pa_hold (by assumption) | with_reducible exact km_Pa_take (by assumption) | with_reducible exact km_stI (by decide) (by assumption) | with_reducible exact km_sa (by assumption) | with_reducible exact km_sw (by assumption) | with_reducible refine km_f5 ?_ ?_ | with_reducible refine km_p5 ?_ | with_reducible refine km_b5 ?_ (fun _ _ _ => ?_) | dsimp only
theorem km_Pa_operator_16 {z : Int32} {a1 a2 s1 : Int32} {e : E5} (h : e.1 514 = z) : km5 z (f5_Pa_operator_16 a1 a2 s1 e) := by
  unfold f5_Pa_operator_16
  repeat' first | with_reducible exact km_i5 (by assumption) | with_reducible exact km_r5 | with_reducible exact km_Pa_emitWaiting (by assumption) | with_reducible exact km_Pa_operator_58 (by assumption) | with_reducible exact km_stI (by decide) (by assumption) | with_reducible exact km_sa (by assumption) | with_reducible exact km_sw (by assumption) | with_reducible refine km_f5 ?_ ?_ | with_reducible refine km_p5 ?_ | with_reducible refine km_b5 ?_ (fun _ _ _ => ?_) | dsimp only
theorem km_Pa_operator {z : Int32} {a1 : Int32} {e : E5} (h : e.1 514 = z) : km5 z (f5_Pa_operator a1 e) := by
  unfold f5_Pa_operator
  repeat' first | with_reducible exact km_i5 (by assumption) | with_reducible exact km_r5 | with_reducible exact km_Pa_operator_16 (by assumption) | with_reducible exact km_stI (by decide) (by assumption) | with_reducible exact km_sa (by assumption) | with_reducible exact km_sw (by assumption) | with_reducible refine km_f5 ?_ ?_ | with_reducible refine km_p5 ?_ | with_reducible refine km_b5 ?_ (fun _ _ _ => ?_) | dsimp only
theorem km_Pa_closeInner_26 {z : Int32} {a1 s1 : Int32} {e : E5} (h : e.1 514 = z) : km5 z (f5_Pa_closeInner_26 a1 s1 e) := by
  unfold f5_Pa_closeInner_26
  repeat' first | with_reducible exact km_i5 (by assumption) | with_reducible exact km_r5 | with_reducible exact km_Pa_closeSign (by assumption) | with_reducible exact km_Co_emit (by assumption) | with_reducible exact km_stI (by decide) (by assumption) | with_reducible exact km_sa (by assumption) | with_reducible exact km_sw (by assumption) | with_reducible refine km_f5 ?_ ?_ | with_reducible refine km_p5 ?_ | with_reducible refine km_b5 ?_ (fun _ _ _ => ?_) | dsimp only
theorem km_Pa_closeInner {z : Int32} {e : E5} (h : e.1 514 = z) : km5 z (f5_Pa_closeInner  e) := by
  unfold f5_Pa_closeInner
  repeat' first | with_reducible exact km_i5 (by assumption) | with_reducible exact km_r5 | with_reducible exact km_Pa_closeInner_26 (by assumption) | with_reducible exact km_stI (by decide) (by assumption) | with_reducible exact km_sa (by assumption) | with_reducible exact km_sw (by assumption) | with_reducible refine km_f5 ?_ ?_ | with_reducible refine km_p5 ?_ | with_reducible refine km_b5 ?_ (fun _ _ _ => ?_) | dsimp only
theorem km_Pa_operand_102 {z : Int32} {a1 : Int32} {e : E5} (h : e.1 514 = z) : km5 z (f5_Pa_operand_102 a1 e) := by
  unfold f5_Pa_operand_102
  repeat' first | with_reducible exact km_i5 (by assumption) | with_reducible exact km_r5 | with_reducible exact km_stI (by decide) (by assumption) | with_reducible exact km_sa (by assumption) | with_reducible exact km_sw (by assumption) | with_reducible refine km_f5 ?_ ?_ | with_reducible refine km_p5 ?_ | with_reducible refine km_b5 ?_ (fun _ _ _ => ?_) | dsimp only
theorem km_Pa_operand_80 {z : Int32} {a1 s1 : Int32} {e : E5} (h : e.1 514 = z) : km5 z (f5_Pa_operand_80 a1 s1 e) := by
  unfold f5_Pa_operand_80
  repeat' first | with_reducible exact km_i5 (by assumption) | with_reducible exact km_r5 | with_reducible exact km_Pa_hold (by assumption) | with_reducible exact km_Pa_take (by assumption) | with_reducible exact km_Pa_operand_102 (by assumption) | with_reducible exact km_stI (by decide) (by assumption) | with_reducible exact km_sa (by assumption) | with_reducible exact km_sw (by assumption) | with_reducible refine km_f5 ?_ ?_ | with_reducible refine km_p5 ?_ | with_reducible refine km_b5 ?_ (fun _ _ _ => ?_) | dsimp only
theorem km_Pa_operand_64 {z : Int32} {a1 : Int32} {e : E5} (h : e.1 514 = z) : km5 z (f5_Pa_operand_64 a1 e) := by
  unfold f5_Pa_operand_64
  repeat' first | with_reducible exact km_i5 (by assumption) | with_reducible exact km_r5 | with_reducible exact km_Pa_operand_80 (by assumption) | with_reducible exact km_stI (by decide) (by assumption) | with_reducible exact km_sa (by assumption) | with_reducible exact km_sw (by assumption) | with_reducible refine km_f5 ?_ ?_ | with_reducible refine km_p5 ?_ | with_reducible refine km_b5 ?_ (fun _ _ _ => ?_) | dsimp only
theorem km_Pa_operand_15 {z : Int32} {s0 : Int32} {e : E5} (h : e.1 514 = z) : km5 z (f5_Pa_operand_15 s0 e) := by
  unfold f5_Pa_operand_15
  repeat' first | with_reducible exact km_i5 (by assumption) | with_reducible exact km_r5 | with_reducible exact km_Pa_operand_64 (by assumption) | with_reducible exact km_Pa_openSign (by assumption) | with_reducible exact km_Pa_hold (by assumption) | with_reducible exact km_Pa_operand_102 (by assumption) | with_reducible exact km_Co_emit (by assumption) | with_reducible exact km_Pa_take (by assumption) | with_reducible exact km_stI (by decide) (by assumption) | with_reducible exact km_sa (by assumption) | with_reducible exact km_sw (by assumption) | with_reducible refine km_f5 ?_ ?_ | with_reducible refine km_p5 ?_ | with_reducible refine km_b5 ?_ (fun _ _ _ => ?_) | dsimp only
theorem km_Pa_operand {z : Int32} {e : E5} (h : e.1 514 = z) : km5 z (f5_Pa_operand  e) := by
  unfold f5_Pa_operand
  repeat' first | with_reducible exact km_i5 (by assumption) | with_reducible exact km_r5 | with_reducible exact km_Pa_operand_15 (by assumption) | with_reducible exact km_stI (by decide) (by assumption) | with_reducible exact km_sa (by assumption) | with_reducible exact km_sw (by assumption) | with_reducible refine km_f5 ?_ ?_ | with_reducible refine km_p5 ?_ | with_reducible refine km_b5 ?_ (fun _ _ _ => ?_) | dsimp only
theorem km_Pa_operandName_68 {z : Int32} {a1 a2 s1 : Int32} {e : E5} (h : e.1 514 = z) : km5 z (f5_Pa_operandName_68 a1 a2 s1 e) := by
  unfold f5_Pa_operandName_68
  repeat' first | with_reducible exact km_i5 (by assumption) | with_reducible exact km_r5 | with_reducible exact km_Co_emit (by assumption) | with_reducible exact km_stI (by decide) (by assumption) | with_reducible exact km_sa (by assumption) | with_reducible exact km_sw (by assumption) | with_reducible refine km_f5 ?_ ?_ | with_reducible refine km_p5 ?_ | with_reducible refine km_b5 ?_ (fun _ _ _ => ?_) | dsimp only
theorem km_Pa_operandName_49 {z : Int32} {a1 : Int32} {e : E5} (h : e.1 514 = z) : km5 z (f5_Pa_operandName_49 a1 e) := by
  unfold f5_Pa_operandName_49
  repeat' first | with_reducible exact km_i5 (by assumption) | with_reducible exact km_r5 | with_reducible exact km_Pa_findVariable (by assumption) | with_reducible exact km_Pa_operandName_68 (by assumption) | with_reducible exact km_stI (by decide) (by assumption) | with_reducible exact km_sa (by assumption) | with_reducible exact km_sw (by assumption) | with_reducible refine km_f5 ?_ ?_ | with_reducible refine km_p5 ?_ | with_reducible refine km_b5 ?_ (fun _ _ _ => ?_) | dsimp only
theorem km_Pa_operandName {z : Int32} {a1 : Int32} {e : E5} (h : e.1 514 = z) : km5 z (f5_Pa_operandName a1 e) := by
  unfold f5_Pa_operandName
  repeat' first | with_reducible exact km_i5 (by assumption) | with_reducible exact km_r5 | with_reducible exact km_Pa_findArray (by assumption) | with_reducible exact km_Pa_openSign (by assumption) | with_reducible exact km_Pa_hold (by assumption) | with_reducible exact km_Pa_operandName_49 (by assumption) | with_reducible exact km_stI (by decide) (by assumption) | with_reducible exact km_sa (by assumption) | with_reducible exact km_sw (by assumption) | with_reducible refine km_f5 ?_ ?_ | with_reducible refine km_p5 ?_ | with_reducible refine km_b5 ?_ (fun _ _ _ => ?_) | dsimp only
theorem km_Pa_expression_109 {z : Int32} {B36 : Int32 → Int32 → Int32 → Int32 → E5 → R5 Unit} (hB : ∀ (y0 : Int32) (y1 : Int32) (y2 : Int32) (y3 : Int32) (e : E5), e.1 514 = z → km5 z (B36 y0 y1 y2 y3 e)) {a5 a6 s0 : Int32} {e : E5} (h : e.1 514 = z) : km5 z (f5_Pa_expression_109 B36 a5 a6 s0 e) := by
  unfold f5_Pa_expression_109
  repeat' first | with_reducible exact hB _ _ _ _ _ (by assumption) | with_reducible exact km_i5 (by assumption) | with_reducible exact km_r5 | with_reducible exact km_stI (by decide) (by assumption) | with_reducible exact km_sa (by assumption) | with_reducible exact km_sw (by assumption) | with_reducible refine km_f5 ?_ ?_ | with_reducible refine km_p5 ?_ | with_reducible refine km_b5 ?_ (fun _ _ _ => ?_) | dsimp only
theorem km_Pa_expression_161 {z : Int32} {B36 : Int32 → Int32 → Int32 → Int32 → E5 → R5 Unit} (hB : ∀ (y0 : Int32) (y1 : Int32) (y2 : Int32) (y3 : Int32) (e : E5), e.1 514 = z → km5 z (B36 y0 y1 y2 y3 e)) {a3 a4 a6 s0 : Int32} {e : E5} (h : e.1 514 = z) : km5 z (f5_Pa_expression_161 B36 a3 a4 a6 s0 e) := by
  unfold f5_Pa_expression_161
  repeat' first | with_reducible exact hB _ _ _ _ _ (by assumption) | with_reducible exact km_i5 (by assumption) | with_reducible exact km_r5 | with_reducible exact km_Pa_closeInner (by assumption) | with_reducible exact km_stI (by decide) (by assumption) | with_reducible exact km_sa (by assumption) | with_reducible exact km_sw (by assumption) | with_reducible refine km_f5 ?_ ?_ | with_reducible refine km_p5 ?_ | with_reducible refine km_b5 ?_ (fun _ _ _ => ?_) | dsimp only
theorem km_Pa_expression_87 {z : Int32} {B36 : Int32 → Int32 → Int32 → Int32 → E5 → R5 Unit} (hB : ∀ (y0 : Int32) (y1 : Int32) (y2 : Int32) (y3 : Int32) (e : E5), e.1 514 = z → km5 z (B36 y0 y1 y2 y3 e)) {a3 a4 a5 a6 : Int32} {e : E5} (h : e.1 514 = z) : km5 z (f5_Pa_expression_87 B36 a3 a4 a5 a6 e) := by
  unfold f5_Pa_expression_87
  repeat' first | with_reducible exact hB _ _ _ _ _ (by assumption) | with_reducible exact km_i5 (by assumption) | with_reducible exact km_r5 | with_reducible exact km_Pa_emitWaiting (by assumption) | with_reducible exact km_Pa_expression_161 hB (by assumption) | with_reducible exact km_Pa_operator (by assumption) | with_reducible exact km_Pa_operand (by assumption) | with_reducible exact km_Pa_expression_109 hB (by assumption) | with_reducible exact km_Pa_operandName (by assumption) | with_reducible exact km_stI (by decide) (by assumption) | with_reducible exact km_sa (by assumption) | with_reducible exact km_sw (by assumption) | with_reducible refine km_f5 ?_ ?_ | with_reducible refine km_p5 ?_ | with_reducible refine km_b5 ?_ (fun _ _ _ => ?_) | dsimp only
theorem km_Pa_expression_178 {z : Int32} {e : E5} (h : e.1 514 = z) : km5 z (f5_Pa_expression_178  e) := by
  unfold f5_Pa_expression_178
  repeat' first | with_reducible exact km_i5 (by assumption) | with_reducible exact km_r5 | with_reducible exact km_Co_emit (by assumption) | with_reducible exact km_stI (by decide) (by assumption) | with_reducible exact km_sa (by assumption) | with_reducible exact km_sw (by assumption) | with_reducible refine km_f5 ?_ ?_ | with_reducible refine km_p5 ?_ | with_reducible refine km_b5 ?_ (fun _ _ _ => ?_) | dsimp only
theorem km_Pa_expression_36 {z : Int32} : ∀ (m : Nat) (x0 : Int32) (x1 : Int32) (x2 : Int32) (x3 : Int32) (e : E5), e.1 514 = z → km5 z (f5_Pa_expression_36 m x0 x1 x2 x3 e) := by
  intro m
  induction m with
  | zero => exact fun _ _ _ _ _ _ => km_r5
  | succ m ih =>
    intro x0 x1 x2 x3 e h
    rw [f5_Pa_expression_36]
    repeat' first | with_reducible exact ih _ _ _ _ _ (by assumption) | with_reducible exact km_i5 (by assumption) | with_reducible exact km_r5 | with_reducible exact km_Pa_expression_178 (by assumption) | with_reducible exact km_Pa_expression_87 ih (by assumption) | with_reducible exact km_Pa_take (by assumption) | with_reducible exact km_stI (by decide) (by assumption) | with_reducible exact km_sa (by assumption) | with_reducible exact km_sw (by assumption) | with_reducible refine km_f5 ?_ ?_ | with_reducible refine km_p5 ?_ | with_reducible refine km_b5 ?_ (fun _ _ _ => ?_) | dsimp only
theorem km_Pa_expression {z : Int32} {a1 a2 : Int32} {e : E5} (h : e.1 514 = z) : km5 z (f5_Pa_expression a1 a2 e) := by
  unfold f5_Pa_expression
  repeat' first | with_reducible exact km_i5 (by assumption) | with_reducible exact km_r5 | with_reducible exact km_Co_setColumn (by assumption) | with_reducible exact km_Pa_expression_36 _ _ _ _ _ _ (by assumption) | with_reducible exact km_stI (by decide) (by assumption) | with_reducible exact km_sa (by assumption) | with_reducible exact km_sw (by assumption) | with_reducible refine km_f5 ?_ ?_ | with_reducible refine km_p5 ?_ | with_reducible refine km_b5 ?_ (fun _ _ _ => ?_) | dsimp only
theorem km_Pa_varItem_94 {z : Int32} {a1 a2 : Int32} {e : E5} (h : e.1 514 = z) : km5 z (f5_Pa_varItem_94 a1 a2 e) := by
  unfold f5_Pa_varItem_94
  repeat' first | with_reducible exact km_i5 (by assumption) | with_reducible exact km_r5 | with_reducible exact km_Pa_pass (by assumption) | with_reducible exact km_stI (by decide) (by assumption) | with_reducible exact km_sa (by assumption) | with_reducible exact km_sw (by assumption) | with_reducible refine km_f5 ?_ ?_ | with_reducible refine km_p5 ?_ | with_reducible refine km_b5 ?_ (fun _ _ _ => ?_) | dsimp only
theorem km_Pa_varItem_89 {z : Int32} {a1 s0 : Int32} {e : E5} (h : e.1 514 = z) : km5 z (f5_Pa_varItem_89 a1 s0 e) := by
  unfold f5_Pa_varItem_89
  repeat' first | with_reducible exact km_i5 (by assumption) | with_reducible exact km_r5 | with_reducible exact km_Pa_take (by assumption) | with_reducible exact km_Pa_varItem_94 (by assumption) | with_reducible exact km_stI (by decide) (by assumption) | with_reducible exact km_sa (by assumption) | with_reducible exact km_sw (by assumption) | with_reducible refine km_f5 ?_ ?_ | with_reducible refine km_p5 ?_ | with_reducible refine km_b5 ?_ (fun _ _ _ => ?_) | dsimp only
theorem km_Pa_varItem_52 {z : Int32} {a1 a3 : Int32} {e : E5} (h : e.1 514 = z) : km5 z (f5_Pa_varItem_52 a1 a3 e) := by
  unfold f5_Pa_varItem_52
  repeat' first | with_reducible exact km_i5 (by assumption) | with_reducible exact km_r5 | with_reducible exact km_Pa_expect (by assumption) | with_reducible exact km_Pa_varItem_89 (by assumption) | with_reducible exact km_stI (by decide) (by assumption) | with_reducible exact km_sa (by assumption) | with_reducible exact km_sw (by assumption) | with_reducible refine km_f5 ?_ ?_ | with_reducible refine km_p5 ?_ | with_reducible refine km_b5 ?_ (fun _ _ _ => ?_) | dsimp only
theorem km_Pa_varItem_43 {z : Int32} {a1 s0 : Int32} {e : E5} (h : e.1 514 = z) : km5 z (f5_Pa_varItem_43 a1 s0 e) := by
  unfold f5_Pa_varItem_43
  repeat' first | with_reducible exact km_i5 (by assumption) | with_reducible exact km_r5 | with_reducible exact km_Pa_varItem_52 (by assumption) | with_reducible exact km_Pa_take (by assumption) | with_reducible exact km_stI (by decide) (by assumption) | with_reducible exact km_sa (by assumption) | with_reducible exact km_sw (by assumption) | with_reducible refine km_f5 ?_ ?_ | with_reducible refine km_p5 ?_ | with_reducible refine km_b5 ?_ (fun _ _ _ => ?_) | dsimp only
theorem km_Pa_varItem {z : Int32} {e : E5} (h : e.1 514 = z) : km5 z (f5_Pa_varItem  e) := by
  unfold f5_Pa_varItem
  repeat' first | with_reducible exact km_i5 (by assumption) | with_reducible exact km_r5 | with_reducible exact km_Pa_newName (by assumption) | with_reducible exact km_Pa_take (by assumption) | with_reducible exact km_Pa_varItem_43 (by assumption) | with_reducible exact km_Pa_varItem_94 (by assumption) | with_reducible exact km_stI (by decide) (by assumption) | with_reducible exact km_sa (by assumption) | with_reducible exact km_sw (by assumption) | with_reducible refine km_f5 ?_ ?_ | with_reducible refine km_p5 ?_ | with_reducible refine km_b5 ?_ (fun _ _ _ => ?_) | dsimp only
theorem km_Pa_arrayItem_59 {z : Int32} {a1 a2 : Int32} {e : E5} (h : e.1 514 = z) : km5 z (f5_Pa_arrayItem_59 a1 a2 e) := by
  unfold f5_Pa_arrayItem_59
  repeat' first | with_reducible exact km_i5 (by assumption) | with_reducible exact km_r5 | with_reducible exact km_Pa_take (by assumption) | with_reducible exact km_Pa_closeSign (by assumption) | with_reducible exact km_Pa_pass (by assumption) | with_reducible exact km_stI (by decide) (by assumption) | with_reducible exact km_sa (by assumption) | with_reducible exact km_sw (by assumption) | with_reducible refine km_f5 ?_ ?_ | with_reducible refine km_p5 ?_ | with_reducible refine km_b5 ?_ (fun _ _ _ => ?_) | dsimp only
theorem km_Pa_arrayItem_49 {z : Int32} {a1 a2 : Int32} {e : E5} (h : e.1 514 = z) : km5 z (f5_Pa_arrayItem_49 a1 a2 e) := by
  unfold f5_Pa_arrayItem_49
  repeat' first | with_reducible exact km_i5 (by assumption) | with_reducible exact km_r5 | with_reducible exact km_stI (by decide) (by assumption) | with_reducible exact km_sa (by assumption) | with_reducible exact km_sw (by assumption) | with_reducible refine km_f5 ?_ ?_ | with_reducible refine km_p5 ?_ | with_reducible refine km_b5 ?_ (fun _ _ _ => ?_) | dsimp only
theorem km_Pa_arrayItem {z : Int32} {e : E5} (h : e.1 514 = z) : km5 z (f5_Pa_arrayItem  e) := by
  unfold f5_Pa_arrayItem
  repeat' first | with_reducible exact km_i5 (by assumption) | with_reducible exact km_r5 | with_reducible exact km_Pa_newName (by assumption) | with_reducible exact km_Pa_openSign (by assumption) | with_reducible exact km_Pa_expect (by assumption) | with_reducible exact km_Pa_arrayItem_49 (by assumption) | with_reducible exact km_Pa_arrayItem_59 (by assumption) | with_reducible exact km_stI (by decide) (by assumption) | with_reducible exact km_sa (by assumption) | with_reducible exact km_sw (by assumption) | with_reducible refine km_f5 ?_ ?_ | with_reducible refine km_p5 ?_ | with_reducible refine km_b5 ?_ (fun _ _ _ => ?_) | dsimp only
theorem km_Pa_functionHead_73 {z : Int32} {B37 : Int32 → Int32 → Int32 → E5 → R5 Unit} (hB : ∀ (y0 : Int32) (y1 : Int32) (y2 : Int32) (e : E5), e.1 514 = z → km5 z (B37 y0 y1 y2 e)) {a1 a3 s0 : Int32} {e : E5} (h : e.1 514 = z) : km5 z (f5_Pa_functionHead_73 B37 a1 a3 s0 e) := by
  unfold f5_Pa_functionHead_73
  repeat' first | with_reducible exact hB _ _ _ _ (by assumption) | with_reducible exact km_i5 (by assumption) | with_reducible exact km_r5 | with_reducible exact km_Pa_take (by assumption) | with_reducible exact km_stI (by decide) (by assumption) | with_reducible exact km_sa (by assumption) | with_reducible exact km_sw (by assumption) | with_reducible refine km_f5 ?_ ?_ | with_reducible refine km_p5 ?_ | with_reducible refine km_b5 ?_ (fun _ _ _ => ?_) | dsimp only
theorem km_Pa_functionHead_144 {z : Int32} {e : E5} (h : e.1 514 = z) : km5 z (f5_Pa_functionHead_144  e) := by
  unfold f5_Pa_functionHead_144
  repeat' first | with_reducible exact km_i5 (by assumption) | with_reducible exact km_r5 | with_reducible exact km_Pa_pushBlock (by assumption) | with_reducible exact km_stI (by decide) (by assumption) | with_reducible exact km_sa (by assumption) | with_reducible exact km_sw (by assumption) | with_reducible refine km_f5 ?_ ?_ | with_reducible refine km_p5 ?_ | with_reducible refine km_b5 ?_ (fun _ _ _ => ?_) | dsimp only
theorem km_Pa_functionHead_88 {z : Int32} {a1 : Int32} {e : E5} (h : e.1 514 = z) : km5 z (f5_Pa_functionHead_88 a1 e) := by
  unfold f5_Pa_functionHead_88
  repeat' first | with_reducible exact km_i5 (by assumption) | with_reducible exact km_r5 | with_reducible exact km_Pa_closeSign (by assumption) | with_reducible exact km_Pa_openSign (by assumption) | with_reducible exact km_Pa_functionHead_144 (by assumption) | with_reducible exact km_stI (by decide) (by assumption) | with_reducible exact km_sa (by assumption) | with_reducible exact km_sw (by assumption) | with_reducible refine km_f5 ?_ ?_ | with_reducible refine km_p5 ?_ | with_reducible refine km_b5 ?_ (fun _ _ _ => ?_) | dsimp only
theorem km_Pa_functionHead_37 {z : Int32} : ∀ (m : Nat) (x0 : Int32) (x1 : Int32) (x2 : Int32) (e : E5), e.1 514 = z → km5 z (f5_Pa_functionHead_37 m x0 x1 x2 e) := by
  intro m
  induction m with
  | zero => exact fun _ _ _ _ _ => km_r5
  | succ m ih =>
    intro x0 x1 x2 e h
    rw [f5_Pa_functionHead_37]
    repeat' first | with_reducible exact ih _ _ _ _ (by assumption) | with_reducible exact km_i5 (by assumption) | with_reducible exact km_r5 | with_reducible exact km_Pa_functionHead_88 (by assumption) | with_reducible exact km_Pa_newName (by assumption) | with_reducible exact km_Pa_addOwn (by assumption) | with_reducible exact km_Pa_functionHead_73 ih (by assumption) | with_reducible exact km_stI (by decide) (by assumption) | with_reducible exact km_sa (by assumption) | with_reducible exact km_sw (by assumption) | with_reducible refine km_f5 ?_ ?_ | with_reducible refine km_p5 ?_ | with_reducible refine km_b5 ?_ (fun _ _ _ => ?_) | dsimp only
theorem km_Pa_functionHead_34 {z : Int32} {a1 s0 : Int32} {e : E5} (h : e.1 514 = z) : km5 z (f5_Pa_functionHead_34 a1 s0 e) := by
  unfold f5_Pa_functionHead_34
  repeat' first | with_reducible exact km_i5 (by assumption) | with_reducible exact km_r5 | with_reducible exact km_Pa_functionHead_37 _ _ _ _ _ (by assumption) | with_reducible exact km_stI (by decide) (by assumption) | with_reducible exact km_sa (by assumption) | with_reducible exact km_sw (by assumption) | with_reducible refine km_f5 ?_ ?_ | with_reducible refine km_p5 ?_ | with_reducible refine km_b5 ?_ (fun _ _ _ => ?_) | dsimp only
theorem km_Pa_functionHead {z : Int32} {e : E5} (h : e.1 514 = z) : km5 z (f5_Pa_functionHead  e) := by
  unfold f5_Pa_functionHead
  repeat' first | with_reducible exact km_i5 (by assumption) | with_reducible exact km_r5 | with_reducible exact km_Pa_newName (by assumption) | with_reducible exact km_Pa_openSign (by assumption) | with_reducible exact km_Pa_functionHead_34 (by assumption) | with_reducible exact km_stI (by decide) (by assumption) | with_reducible exact km_sa (by assumption) | with_reducible exact km_sw (by assumption) | with_reducible refine km_f5 ?_ ?_ | with_reducible refine km_p5 ?_ | with_reducible refine km_b5 ?_ (fun _ _ _ => ?_) | dsimp only
theorem km_Pa_item_35 {z : Int32} {a1 : Int32} {e : E5} (h : e.1 514 = z) : km5 z (f5_Pa_item_35 a1 e) := by
  unfold f5_Pa_item_35
  repeat' first | with_reducible exact km_i5 (by assumption) | with_reducible exact km_r5 | with_reducible exact km_Pa_take (by assumption) | with_reducible exact km_Pa_varItem (by assumption) | with_reducible exact km_Pa_arrayItem (by assumption) | with_reducible exact km_Pa_functionHead (by assumption) | with_reducible exact km_stI (by decide) (by assumption) | with_reducible exact km_sa (by assumption) | with_reducible exact km_sw (by assumption) | with_reducible refine km_f5 ?_ ?_ | with_reducible refine km_p5 ?_ | with_reducible refine km_b5 ?_ (fun _ _ _ => ?_) | dsimp only
theorem km_Pa_item {z : Int32} {e : E5} (h : e.1 514 = z) : km5 z (f5_Pa_item  e) := by
  unfold f5_Pa_item
  repeat' first | with_reducible exact km_i5 (by assumption) | with_reducible exact km_r5 | with_reducible exact km_Pa_item_35 (by assumption) | with_reducible exact km_stI (by decide) (by assumption) | with_reducible exact km_sa (by assumption) | with_reducible exact km_sw (by assumption) | with_reducible refine km_f5 ?_ ?_ | with_reducible refine km_p5 ?_ | with_reducible refine km_b5 ?_ (fun _ _ _ => ?_) | dsimp only
theorem km_Pa_closeBlock_86 {z : Int32} {e : E5} (h : e.1 514 = z) : km5 z (f5_Pa_closeBlock_86  e) := by
  unfold f5_Pa_closeBlock_86
  repeat' first | with_reducible exact km_i5 (by assumption) | with_reducible exact km_r5 | with_reducible exact km_stI (by decide) (by assumption) | with_reducible exact km_sa (by assumption) | with_reducible exact km_sw (by assumption) | with_reducible refine km_f5 ?_ ?_ | with_reducible refine km_p5 ?_ | with_reducible refine km_b5 ?_ (fun _ _ _ => ?_) | dsimp only
theorem km_Pa_closeBlock_24 {z : Int32} {s1 : Int32} {e : E5} (h : e.1 514 = z) : km5 z (f5_Pa_closeBlock_24 s1 e) := by
  unfold f5_Pa_closeBlock_24
  repeat' first | with_reducible exact km_i5 (by assumption) | with_reducible exact km_r5 | with_reducible exact km_Pa_closeBlock_86 (by assumption) | with_reducible exact km_Pa_take (by assumption) | with_reducible exact km_Pa_openSign (by assumption) | with_reducible exact km_Pa_pushBlock (by assumption) | with_reducible exact km_stI (by decide) (by assumption) | with_reducible exact km_sa (by assumption) | with_reducible exact km_sw (by assumption) | with_reducible refine km_f5 ?_ ?_ | with_reducible refine km_p5 ?_ | with_reducible refine km_b5 ?_ (fun _ _ _ => ?_) | dsimp only
theorem km_Pa_closeBlock {z : Int32} {e : E5} (h : e.1 514 = z) : km5 z (f5_Pa_closeBlock  e) := by
  unfold f5_Pa_closeBlock
  repeat' first | with_reducible exact km_i5 (by assumption) | with_reducible exact km_r5 | with_reducible exact km_Pa_closeSign (by assumption) | with_reducible exact km_Pa_closeBlock_24 (by assumption) | with_reducible exact km_stI (by decide) (by assumption) | with_reducible exact km_sa (by assumption) | with_reducible exact km_sw (by assumption) | with_reducible refine km_f5 ?_ ?_ | with_reducible refine km_p5 ?_ | with_reducible refine km_b5 ?_ (fun _ _ _ => ?_) | dsimp only
theorem km_Pa_addStatement_205 {z : Int32} {a1 a2 a3 : Int32} {e : E5} (h : e.1 514 = z) : km5 z (f5_Pa_addStatement_205 a1 a2 a3 e) := by
  unfold f5_Pa_addStatement_205
  repeat' first | with_reducible exact km_i5 (by assumption) | with_reducible exact km_r5 | with_reducible exact km_Co_setColumn (by assumption) | with_reducible exact km_stI (by decide) (by assumption) | with_reducible exact km_sa (by assumption) | with_reducible exact km_sw (by assumption) | with_reducible refine km_f5 ?_ ?_ | with_reducible refine km_p5 ?_ | with_reducible refine km_b5 ?_ (fun _ _ _ => ?_) | dsimp only
theorem km_Pa_addStatement_170 {z : Int32} {a1 a2 a3 s1 s2 : Int32} {e : E5} (h : e.1 514 = z) : km5 z (f5_Pa_addStatement_170 a1 a2 a3 s1 s2 e) := by
  unfold f5_Pa_addStatement_170
  repeat' first | with_reducible exact km_i5 (by assumption) | with_reducible exact km_r5 | with_reducible exact km_Co_setColumn (by assumption) | with_reducible exact km_Pa_addStatement_205 (by assumption) | with_reducible exact km_stI (by decide) (by assumption) | with_reducible exact km_sa (by assumption) | with_reducible exact km_sw (by assumption) | with_reducible refine km_f5 ?_ ?_ | with_reducible refine km_p5 ?_ | with_reducible refine km_b5 ?_ (fun _ _ _ => ?_) | dsimp only
theorem km_Pa_addStatement_107 {z : Int32} {a1 s0 : Int32} {e : E5} (h : e.1 514 = z) : km5 z (f5_Pa_addStatement_107 a1 s0 e) := by
  unfold f5_Pa_addStatement_107
  repeat' first | with_reducible exact km_i5 (by assumption) | with_reducible exact km_r5 | with_reducible exact km_Pa_addStatement_205 (by assumption) | with_reducible exact km_Pa_addStatement_170 (by assumption) | with_reducible exact km_Co_setColumn (by assumption) | with_reducible exact km_stI (by decide) (by assumption) | with_reducible exact km_sa (by assumption) | with_reducible exact km_sw (by assumption) | with_reducible refine km_f5 ?_ ?_ | with_reducible refine km_p5 ?_ | with_reducible refine km_b5 ?_ (fun _ _ _ => ?_) | dsimp only
theorem km_Pa_addStatement_82 {z : Int32} {e : E5} (h : e.1 514 = z) : km5 z (f5_Pa_addStatement_82  e) := by
  unfold f5_Pa_addStatement_82
  repeat' first | with_reducible exact km_i5 (by assumption) | with_reducible exact km_r5 | with_reducible exact km_Co_addStatement (by assumption) | with_reducible exact km_Pa_addStatement_107 (by assumption) | with_reducible exact km_stI (by decide) (by assumption) | with_reducible exact km_sa (by assumption) | with_reducible exact km_sw (by assumption) | with_reducible refine km_f5 ?_ ?_ | with_reducible refine km_p5 ?_ | with_reducible refine km_b5 ?_ (fun _ _ _ => ?_) | dsimp only
theorem km_Pa_addStatement_59 {z : Int32} {e : E5} (h : e.1 514 = z) : km5 z (f5_Pa_addStatement_59  e) := by
  unfold f5_Pa_addStatement_59
  repeat' first | with_reducible exact km_i5 (by assumption) | with_reducible exact km_r5 | with_reducible exact km_Pa_addStatement_82 (by assumption) | with_reducible exact km_stI (by decide) (by assumption) | with_reducible exact km_sa (by assumption) | with_reducible exact km_sw (by assumption) | with_reducible refine km_f5 ?_ ?_ | with_reducible refine km_p5 ?_ | with_reducible refine km_b5 ?_ (fun _ _ _ => ?_) | dsimp only
theorem km_Pa_addStatement_50 {z : Int32} {e : E5} (h : e.1 514 = z) : km5 z (f5_Pa_addStatement_50  e) := by
  unfold f5_Pa_addStatement_50
  repeat' first | with_reducible exact km_i5 (by assumption) | with_reducible exact km_r5 | with_reducible exact km_stI (by decide) (by assumption) | with_reducible exact km_sa (by assumption) | with_reducible exact km_sw (by assumption) | with_reducible refine km_f5 ?_ ?_ | with_reducible refine km_p5 ?_ | with_reducible refine km_b5 ?_ (fun _ _ _ => ?_) | dsimp only
theorem km_Pa_addStatement {z : Int32} {e : E5} (h : e.1 514 = z) : km5 z (f5_Pa_addStatement  e) := by
  unfold f5_Pa_addStatement
  repeat' first | with_reducible exact km_i5 (by assumption) | with_reducible exact km_r5 | with_reducible exact km_Pa_addStatement_59 (by assumption) | with_reducible exact km_Pa_addStatement_50 (by assumption) | with_reducible exact km_stI (by decide) (by assumption) | with_reducible exact km_sa (by assumption) | with_reducible exact km_sw (by assumption) | with_reducible refine km_f5 ?_ ?_ | with_reducible refine km_p5 ?_ | with_reducible refine km_b5 ?_ (fun _ _ _ => ?_) | dsimp only
theorem km_Pa_localStatement {z : Int32} {a1 : Int32} {e : E5} (h : e.1 514 = z) : km5 z (f5_Pa_localStatement a1 e) := by
  unfold f5_Pa_localStatement
  repeat' first | with_reducible exact km_i5 (by assumption) | with_reducible exact km_r5 | with_reducible exact km_Pa_take (by assumption) | with_reducible exact km_Pa_newName (by assumption) | with_reducible exact km_Pa_pass (by assumption) | with_reducible exact km_Pa_expression (by assumption) | with_reducible exact km_Pa_setPlace (by assumption) | with_reducible exact km_Co_setColumn (by assumption) | with_reducible exact km_Pa_addOwn (by assumption) | with_reducible exact km_stI (by decide) (by assumption) | with_reducible exact km_sa (by assumption) | with_reducible exact km_sw (by assumption) | with_reducible refine km_f5 ?_ ?_ | with_reducible refine km_p5 ?_ | with_reducible refine km_b5 ?_ (fun _ _ _ => ?_) | dsimp only
theorem km_Pa_wordStatement_49 {z : Int32} {a1 s1 s2 s3 : Int32} {e : E5} (h : e.1 514 = z) : km5 z (f5_Pa_wordStatement_49 a1 s1 s2 s3 e) := by
  unfold f5_Pa_wordStatement_49
  repeat' first | with_reducible exact km_i5 (by assumption) | with_reducible exact km_r5 | with_reducible exact km_Co_setColumn (by assumption) | with_reducible exact km_Pa_openSign (by assumption) | with_reducible exact km_Pa_pushBlock (by assumption) | with_reducible exact km_stI (by decide) (by assumption) | with_reducible exact km_sa (by assumption) | with_reducible exact km_sw (by assumption) | with_reducible refine km_f5 ?_ ?_ | with_reducible refine km_p5 ?_ | with_reducible refine km_b5 ?_ (fun _ _ _ => ?_) | dsimp only
theorem km_Pa_wordStatement_29 {z : Int32} {a1 a2 : Int32} {e : E5} (h : e.1 514 = z) : km5 z (f5_Pa_wordStatement_29 a1 a2 e) := by
  unfold f5_Pa_wordStatement_29
  repeat' first | with_reducible exact km_i5 (by assumption) | with_reducible exact km_r5 | with_reducible exact km_Pa_wordStatement_49 (by assumption) | with_reducible exact km_stI (by decide) (by assumption) | with_reducible exact km_sa (by assumption) | with_reducible exact km_sw (by assumption) | with_reducible refine km_f5 ?_ ?_ | with_reducible refine km_p5 ?_ | with_reducible refine km_b5 ?_ (fun _ _ _ => ?_) | dsimp only
theorem km_Pa_wordStatement_97 {z : Int32} {s1 s2 s3 : Int32} {e : E5} (h : e.1 514 = z) : km5 z (f5_Pa_wordStatement_97 s1 s2 s3 e) := by
  unfold f5_Pa_wordStatement_97
  repeat' first | with_reducible exact km_i5 (by assumption) | with_reducible exact km_r5 | with_reducible exact km_Co_setColumn (by assumption) | with_reducible exact km_Pa_pass (by assumption) | with_reducible exact km_stI (by decide) (by assumption) | with_reducible exact km_sa (by assumption) | with_reducible exact km_sw (by assumption) | with_reducible refine km_f5 ?_ ?_ | with_reducible refine km_p5 ?_ | with_reducible refine km_b5 ?_ (fun _ _ _ => ?_) | dsimp only
theorem km_Pa_wordStatement {z : Int32} {a1 : Int32} {e : E5} (h : e.1 514 = z) : km5 z (f5_Pa_wordStatement a1 e) := by
  unfold f5_Pa_wordStatement
  repeat' first | with_reducible exact km_i5 (by assumption) | with_reducible exact km_r5 | with_reducible exact km_Pa_take (by assumption) | with_reducible exact km_Pa_expression (by assumption) | with_reducible exact km_Pa_wordStatement_29 (by assumption) | with_reducible exact km_Pa_wordStatement_97 (by assumption) | with_reducible exact km_stI (by decide) (by assumption) | with_reducible exact km_sa (by assumption) | with_reducible exact km_sw (by assumption) | with_reducible refine km_f5 ?_ ?_ | with_reducible refine km_p5 ?_ | with_reducible refine km_b5 ?_ (fun _ _ _ => ?_) | dsimp only
theorem km_Pa_behindPlace_159 {z : Int32} {a4 : Int32} {e : E5} (h : e.1 514 = z) : km5 z (f5_Pa_behindPlace_159 a4 e) := by
  unfold f5_Pa_behindPlace_159
  repeat' first | with_reducible exact km_i5 (by assumption) | with_reducible exact km_r5 | with_reducible exact km_stI (by decide) (by assumption) | with_reducible exact km_sa (by assumption) | with_reducible exact km_sw (by assumption) | with_reducible refine km_f5 ?_ ?_ | with_reducible refine km_p5 ?_ | with_reducible refine km_b5 ?_ (fun _ _ _ => ?_) | dsimp only
theorem km_Pa_behindPlace_133 {z : Int32} {a3 s0 : Int32} {e : E5} (h : e.1 514 = z) : km5 z (f5_Pa_behindPlace_133 a3 s0 e) := by
  unfold f5_Pa_behindPlace_133
  repeat' first | with_reducible exact km_i5 (by assumption) | with_reducible exact km_r5 | with_reducible exact km_Pa_take (by assumption) | with_reducible exact km_Pa_behindPlace_159 (by assumption) | with_reducible exact km_stI (by decide) (by assumption) | with_reducible exact km_sa (by assumption) | with_reducible exact km_sw (by assumption) | with_reducible refine km_f5 ?_ ?_ | with_reducible refine km_p5 ?_ | with_reducible refine km_b5 ?_ (fun _ _ _ => ?_) | dsimp only
theorem km_Pa_behindPlace_91 {z : Int32} {a1 a3 : Int32} {e : E5} (h : e.1 514 = z) : km5 z (f5_Pa_behindPlace_91 a1 a3 e) := by
  unfold f5_Pa_behindPlace_91
  repeat' first | with_reducible exact km_i5 (by assumption) | with_reducible exact km_r5 | with_reducible exact km_Co_setColumn (by assumption) | with_reducible exact km_Pa_behindPlace_133 (by assumption) | with_reducible exact km_stI (by decide) (by assumption) | with_reducible exact km_sa (by assumption) | with_reducible exact km_sw (by assumption) | with_reducible refine km_f5 ?_ ?_ | with_reducible refine km_p5 ?_ | with_reducible refine km_b5 ?_ (fun _ _ _ => ?_) | dsimp only
theorem km_Pa_behindPlace_63 {z : Int32} {a1 s0 : Int32} {e : E5} (h : e.1 514 = z) : km5 z (f5_Pa_behindPlace_63 a1 s0 e) := by
  unfold f5_Pa_behindPlace_63
  repeat' first | with_reducible exact km_i5 (by assumption) | with_reducible exact km_r5 | with_reducible exact km_Pa_expect (by assumption) | with_reducible exact km_Pa_behindPlace_91 (by assumption) | with_reducible exact km_stI (by decide) (by assumption) | with_reducible exact km_sa (by assumption) | with_reducible exact km_sw (by assumption) | with_reducible refine km_f5 ?_ ?_ | with_reducible refine km_p5 ?_ | with_reducible refine km_b5 ?_ (fun _ _ _ => ?_) | dsimp only
theorem km_Pa_behindPlace_25 {z : Int32} {a1 a2 : Int32} {e : E5} (h : e.1 514 = z) : km5 z (f5_Pa_behindPlace_25 a1 a2 e) := by
  unfold f5_Pa_behindPlace_25
  repeat' first | with_reducible exact km_i5 (by assumption) | with_reducible exact km_r5 | with_reducible exact km_Pa_take (by assumption) | with_reducible exact km_Pa_behindPlace_91 (by assumption) | with_reducible exact km_Pa_behindPlace_63 (by assumption) | with_reducible exact km_stI (by decide) (by assumption) | with_reducible exact km_sa (by assumption) | with_reducible exact km_sw (by assumption) | with_reducible refine km_f5 ?_ ?_ | with_reducible refine km_p5 ?_ | with_reducible refine km_b5 ?_ (fun _ _ _ => ?_) | dsimp only
theorem km_Pa_behindPlace_14 {z : Int32} {a1 s0 : Int32} {e : E5} (h : e.1 514 = z) : km5 z (f5_Pa_behindPlace_14 a1 s0 e) := by
  unfold f5_Pa_behindPlace_14
  repeat' first | with_reducible exact km_i5 (by assumption) | with_reducible exact km_r5 | with_reducible exact km_Pa_expect (by assumption) | with_reducible exact km_Pa_behindPlace_25 (by assumption) | with_reducible exact km_stI (by decide) (by assumption) | with_reducible exact km_sa (by assumption) | with_reducible exact km_sw (by assumption) | with_reducible refine km_f5 ?_ ?_ | with_reducible refine km_p5 ?_ | with_reducible refine km_b5 ?_ (fun _ _ _ => ?_) | dsimp only
theorem km_Pa_behindPlace {z : Int32} {a1 : Int32} {e : E5} (h : e.1 514 = z) : km5 z (f5_Pa_behindPlace a1 e) := by
  unfold f5_Pa_behindPlace
  repeat' first | with_reducible exact km_i5 (by assumption) | with_reducible exact km_r5 | with_reducible exact km_Pa_behindPlace_14 (by assumption) | with_reducible exact km_stI (by decide) (by assumption) | with_reducible exact km_sa (by assumption) | with_reducible exact km_sw (by assumption) | with_reducible refine km_f5 ?_ ?_ | with_reducible refine km_p5 ?_ | with_reducible refine km_b5 ?_ (fun _ _ _ => ?_) | dsimp only
theorem km_Pa_finish_107 {z : Int32} {B48 : Int32 → Int32 → Int32 → Int32 → E5 → R5 Unit} (hB : ∀ (y0 : Int32) (y1 : Int32) (y2 : Int32) (y3 : Int32) (e : E5), e.1 514 = z → km5 z (B48 y0 y1 y2 y3 e)) {a1 a2 a4 s0 : Int32} {e : E5} (h : e.1 514 = z) : km5 z (f5_Pa_finish_107 B48 a1 a2 a4 s0 e) := by
  unfold f5_Pa_finish_107
  repeat' first | with_reducible exact hB _ _ _ _ _ (by assumption) | with_reducible exact km_i5 (by assumption) | with_reducible exact km_r5 | with_reducible exact km_Pa_pass (by assumption) | with_reducible exact km_stI (by decide) (by assumption) | with_reducible exact km_sa (by assumption) | with_reducible exact km_sw (by assumption) | with_reducible refine km_f5 ?_ ?_ | with_reducible refine km_p5 ?_ | with_reducible refine km_b5 ?_ (fun _ _ _ => ?_) | dsimp only
theorem km_Pa_finish_48 {z : Int32} : ∀ (m : Nat) (x0 : Int32) (x1 : Int32) (x2 : Int32) (x3 : Int32) (e : E5), e.1 514 = z → km5 z (f5_Pa_finish_48 m x0 x1 x2 x3 e) := by
  intro m
  induction m with
  | zero => exact fun _ _ _ _ _ _ => km_r5
  | succ m ih =>
    intro x0 x1 x2 x3 e h
    rw [f5_Pa_finish_48]
    repeat' first | with_reducible exact ih _ _ _ _ _ (by assumption) | with_reducible exact km_i5 (by assumption) | with_reducible exact km_r5 | with_reducible exact km_Pa_closeSign (by assumption) | with_reducible exact km_Pa_expression (by assumption) | with_reducible exact km_Pa_finish_107 ih (by assumption) | with_reducible exact km_stI (by decide) (by assumption) | with_reducible exact km_sa (by assumption) | with_reducible exact km_sw (by assumption) | with_reducible refine km_f5 ?_ ?_ | with_reducible refine km_p5 ?_ | with_reducible refine km_b5 ?_ (fun _ _ _ => ?_) | dsimp only
theorem km_Pa_finish_44 {z : Int32} {a1 a2 s0 : Int32} {e : E5} (h : e.1 514 = z) : km5 z (f5_Pa_finish_44 a1 a2 s0 e) := by
  unfold f5_Pa_finish_44
  repeat' first | with_reducible exact km_i5 (by assumption) | with_reducible exact km_r5 | with_reducible exact km_Pa_finish_48 _ _ _ _ _ _ (by assumption) | with_reducible exact km_stI (by decide) (by assumption) | with_reducible exact km_sa (by assumption) | with_reducible exact km_sw (by assumption) | with_reducible refine km_f5 ?_ ?_ | with_reducible refine km_p5 ?_ | with_reducible refine km_b5 ?_ (fun _ _ _ => ?_) | dsimp only
theorem km_Pa_finish {z : Int32} {a1 a2 : Int32} {e : E5} (h : e.1 514 = z) : km5 z (f5_Pa_finish a1 a2 e) := by
  unfold f5_Pa_finish
  repeat' first | with_reducible exact km_i5 (by assumption) | with_reducible exact km_r5 | with_reducible exact km_Pa_expression (by assumption) | with_reducible exact km_Pa_openSign (by assumption) | with_reducible exact km_Pa_finish_44 (by assumption) | with_reducible exact km_stI (by decide) (by assumption) | with_reducible exact km_sa (by assumption) | with_reducible exact km_sw (by assumption) | with_reducible refine km_f5 ?_ ?_ | with_reducible refine km_p5 ?_ | with_reducible refine km_b5 ?_ (fun _ _ _ => ?_) | dsimp only
theorem km_Pa_spread_72 {z : Int32} {B10 : Int32 → Int32 → Int32 → E5 → R5 Unit} (hB : ∀ (y0 : Int32) (y1 : Int32) (y2 : Int32) (e : E5), e.1 514 = z → km5 z (B10 y0 y1 y2 e)) {a1 a3 s0 : Int32} {e : E5} (h : e.1 514 = z) : km5 z (f5_Pa_spread_72 B10 a1 a3 s0 e) := by
  unfold f5_Pa_spread_72
  repeat' first | with_reducible exact hB _ _ _ _ (by assumption) | with_reducible exact km_i5 (by assumption) | with_reducible exact km_r5 | with_reducible exact km_Pa_take (by assumption) | with_reducible exact km_stI (by decide) (by assumption) | with_reducible exact km_sa (by assumption) | with_reducible exact km_sw (by assumption) | with_reducible refine km_f5 ?_ ?_ | with_reducible refine km_p5 ?_ | with_reducible refine km_b5 ?_ (fun _ _ _ => ?_) | dsimp only
theorem km_Pa_spread_48 {z : Int32} {B10 : Int32 → Int32 → Int32 → E5 → R5 Unit} (hB : ∀ (y0 : Int32) (y1 : Int32) (y2 : Int32) (e : E5), e.1 514 = z → km5 z (B10 y0 y1 y2 e)) {a1 a3 : Int32} {e : E5} (h : e.1 514 = z) : km5 z (f5_Pa_spread_48 B10 a1 a3 e) := by
  unfold f5_Pa_spread_48
  repeat' first | with_reducible exact hB _ _ _ _ (by assumption) | with_reducible exact km_i5 (by assumption) | with_reducible exact km_r5 | with_reducible exact km_Pa_take (by assumption) | with_reducible exact km_Pa_expression (by assumption) | with_reducible exact km_Pa_spread_72 hB (by assumption) | with_reducible exact km_stI (by decide) (by assumption) | with_reducible exact km_sa (by assumption) | with_reducible exact km_sw (by assumption) | with_reducible refine km_f5 ?_ ?_ | with_reducible refine km_p5 ?_ | with_reducible refine km_b5 ?_ (fun _ _ _ => ?_) | dsimp only
theorem km_Pa_spread_10 {z : Int32} : ∀ (m : Nat) (x0 : Int32) (x1 : Int32) (x2 : Int32) (e : E5), e.1 514 = z → km5 z (f5_Pa_spread_10 m x0 x1 x2 e) := by
  intro m
  induction m with
  | zero => exact fun _ _ _ _ _ => km_r5
  | succ m ih =>
    intro x0 x1 x2 e h
    rw [f5_Pa_spread_10]
    repeat' first | with_reducible exact ih _ _ _ _ (by assumption) | with_reducible exact km_i5 (by assumption) | with_reducible exact km_r5 | with_reducible exact km_Pa_closeSign (by assumption) | with_reducible exact km_Pa_expression (by assumption) | with_reducible exact km_Pa_expect (by assumption) | with_reducible exact km_Pa_spread_48 ih (by assumption) | with_reducible exact km_stI (by decide) (by assumption) | with_reducible exact km_sa (by assumption) | with_reducible exact km_sw (by assumption) | with_reducible refine km_f5 ?_ ?_ | with_reducible refine km_p5 ?_ | with_reducible refine km_b5 ?_ (fun _ _ _ => ?_) | dsimp only
theorem km_Pa_spread {z : Int32} {a1 : Int32} {e : E5} (h : e.1 514 = z) : km5 z (f5_Pa_spread a1 e) := by
  unfold f5_Pa_spread
  repeat' first | with_reducible exact km_i5 (by assumption) | with_reducible exact km_r5 | with_reducible exact km_Pa_openSign (by assumption) | with_reducible exact km_Pa_spread_10 _ _ _ _ _ (by assumption) | with_reducible exact km_stI (by decide) (by assumption) | with_reducible exact km_sa (by assumption) | with_reducible exact km_sw (by assumption) | with_reducible refine km_f5 ?_ ?_ | with_reducible refine km_p5 ?_ | with_reducible refine km_b5 ?_ (fun _ _ _ => ?_) | dsimp only
theorem km_Pa_statement_268 {z : Int32} {e : E5} (h : e.1 514 = z) : km5 z (f5_Pa_statement_268  e) := by
  unfold f5_Pa_statement_268
  repeat' first | with_reducible exact km_i5 (by assumption) | with_reducible exact km_r5 | with_reducible exact km_Pa_pass (by assumption) | with_reducible exact km_stI (by decide) (by assumption) | with_reducible exact km_sa (by assumption) | with_reducible exact km_sw (by assumption) | with_reducible refine km_f5 ?_ ?_ | with_reducible refine km_p5 ?_ | with_reducible refine km_b5 ?_ (fun _ _ _ => ?_) | dsimp only
theorem km_Pa_statement_233 {z : Int32} {a1 : Int32} {e : E5} (h : e.1 514 = z) : km5 z (f5_Pa_statement_233 a1 e) := by
  unfold f5_Pa_statement_233
  repeat' first | with_reducible exact km_i5 (by assumption) | with_reducible exact km_r5 | with_reducible exact km_Pa_spread (by assumption) | with_reducible exact km_Pa_statement_268 (by assumption) | with_reducible exact km_Pa_finish (by assumption) | with_reducible exact km_stI (by decide) (by assumption) | with_reducible exact km_sa (by assumption) | with_reducible exact km_sw (by assumption) | with_reducible refine km_f5 ?_ ?_ | with_reducible refine km_p5 ?_ | with_reducible refine km_b5 ?_ (fun _ _ _ => ?_) | dsimp only
theorem km_Pa_statement_223 {z : Int32} {a1 : Int32} {e : E5} (h : e.1 514 = z) : km5 z (f5_Pa_statement_223 a1 e) := by
  unfold f5_Pa_statement_223
  repeat' first | with_reducible exact km_i5 (by assumption) | with_reducible exact km_r5 | with_reducible exact km_Co_setColumn (by assumption) | with_reducible exact km_Pa_statement_233 (by assumption) | with_reducible exact km_stI (by decide) (by assumption) | with_reducible exact km_sa (by assumption) | with_reducible exact km_sw (by assumption) | with_reducible refine km_f5 ?_ ?_ | with_reducible refine km_p5 ?_ | with_reducible refine km_b5 ?_ (fun _ _ _ => ?_) | dsimp only
theorem km_Pa_statement_191 {z : Int32} {a1 a3 s0 : Int32} {e : E5} (h : e.1 514 = z) : km5 z (f5_Pa_statement_191 a1 a3 s0 e) := by
  unfold f5_Pa_statement_191
  repeat' first | with_reducible exact km_i5 (by assumption) | with_reducible exact km_r5 | with_reducible exact km_Co_setColumn (by assumption) | with_reducible exact km_Pa_statement_233 (by assumption) | with_reducible exact km_Pa_statement_223 (by assumption) | with_reducible exact km_stI (by decide) (by assumption) | with_reducible exact km_sa (by assumption) | with_reducible exact km_sw (by assumption) | with_reducible refine km_f5 ?_ ?_ | with_reducible refine km_p5 ?_ | with_reducible refine km_b5 ?_ (fun _ _ _ => ?_) | dsimp only
theorem km_Pa_statement_177 {z : Int32} {a1 a2 s0 : Int32} {e : E5} (h : e.1 514 = z) : km5 z (f5_Pa_statement_177 a1 a2 s0 e) := by
  unfold f5_Pa_statement_177
  repeat' first | with_reducible exact km_i5 (by assumption) | with_reducible exact km_r5 | with_reducible exact km_Pa_behindPlace (by assumption) | with_reducible exact km_Pa_statement_191 (by assumption) | with_reducible exact km_stI (by decide) (by assumption) | with_reducible exact km_sa (by assumption) | with_reducible exact km_sw (by assumption) | with_reducible refine km_f5 ?_ ?_ | with_reducible refine km_p5 ?_ | with_reducible refine km_b5 ?_ (fun _ _ _ => ?_) | dsimp only
theorem km_Pa_statement_151 {z : Int32} {a1 a2 : Int32} {e : E5} (h : e.1 514 = z) : km5 z (f5_Pa_statement_151 a1 a2 e) := by
  unfold f5_Pa_statement_151
  repeat' first | with_reducible exact km_i5 (by assumption) | with_reducible exact km_r5 | with_reducible exact km_Pa_statement_177 (by assumption) | with_reducible exact km_stI (by decide) (by assumption) | with_reducible exact km_sa (by assumption) | with_reducible exact km_sw (by assumption) | with_reducible refine km_f5 ?_ ?_ | with_reducible refine km_p5 ?_ | with_reducible refine km_b5 ?_ (fun _ _ _ => ?_) | dsimp only
theorem km_Pa_statement_121 {z : Int32} {a1 a2 a3 s1 s2 : Int32} {e : E5} (h : e.1 514 = z) : km5 z (f5_Pa_statement_121 a1 a2 a3 s1 s2 e) := by
  unfold f5_Pa_statement_121
  repeat' first | with_reducible exact km_i5 (by assumption) | with_reducible exact km_r5 | with_reducible exact km_Pa_setPlace (by assumption) | with_reducible exact km_Pa_statement_151 (by assumption) | with_reducible exact km_stI (by decide) (by assumption) | with_reducible exact km_sa (by assumption) | with_reducible exact km_sw (by assumption) | with_reducible refine km_f5 ?_ ?_ | with_reducible refine km_p5 ?_ | with_reducible refine km_b5 ?_ (fun _ _ _ => ?_) | dsimp only
theorem km_Pa_statement_104 {z : Int32} {a1 a2 : Int32} {e : E5} (h : e.1 514 = z) : km5 z (f5_Pa_statement_104 a1 a2 e) := by
  unfold f5_Pa_statement_104
  repeat' first | with_reducible exact km_i5 (by assumption) | with_reducible exact km_r5 | with_reducible exact km_Pa_findVariable (by assumption) | with_reducible exact km_Pa_statement_121 (by assumption) | with_reducible exact km_stI (by decide) (by assumption) | with_reducible exact km_sa (by assumption) | with_reducible exact km_sw (by assumption) | with_reducible refine km_f5 ?_ ?_ | with_reducible refine km_p5 ?_ | with_reducible refine km_b5 ?_ (fun _ _ _ => ?_) | dsimp only
theorem km_Pa_statement {z : Int32} {a1 : Int32} {e : E5} (h : e.1 514 = z) : km5 z (f5_Pa_statement a1 e) := by
  unfold f5_Pa_statement
  repeat' first | with_reducible exact km_i5 (by assumption) | with_reducible exact km_r5 | with_reducible exact km_Pa_localStatement (by assumption) | with_reducible exact km_Pa_take (by assumption) | with_reducible exact km_Pa_findArray (by assumption) | with_reducible exact km_Pa_setPlace (by assumption) | with_reducible exact km_Pa_openSign (by assumption) | with_reducible exact km_Pa_expression (by assumption) | with_reducible exact km_Pa_closeSign (by assumption) | with_reducible exact km_Pa_statement_151 (by assumption) | with_reducible exact km_Pa_statement_104 (by assumption) | with_reducible exact km_Pa_wordStatement (by assumption) | with_reducible exact km_stI (by decide) (by assumption) | with_reducible exact km_sa (by assumption) | with_reducible exact km_sw (by assumption) | with_reducible refine km_f5 ?_ ?_ | with_reducible refine km_p5 ?_ | with_reducible refine km_b5 ?_ (fun _ _ _ => ?_) | dsimp only
