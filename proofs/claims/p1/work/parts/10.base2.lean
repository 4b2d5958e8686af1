theorem i_lt {a b : Int32} : a < b ↔ a.toInt < b.toInt := Int32.lt_iff_toInt_lt
theorem i_le {a b : Int32} : a ≤ b ↔ a.toInt ≤ b.toInt := Int32.le_iff_toInt_le
theorem i_eq {a b : Int32} : a = b ↔ a.toInt = b.toInt := ⟨fun h => by rw [h], fun h => Int32.toInt_inj.mp h⟩
/-- the exceptions' classes -/
def exs : List String := ["java/lang/IllegalArgumentException", "java/lang/IllegalStateException", "java/lang/IndexOutOfBoundsException", "java/lang/UnsupportedOperationException"]
def sups : List String := ["java/lang/RuntimeException", "java/lang/Exception", "java/lang/Throwable"]
/-- the texts of the throws -/
def strs : List (String × Nat × String) := [
  (RX7, 118, "a fault of the text"),
  (RX12, 107, "the tape is full"),
  (RX12, 120, "the tape has not so many bytes"),
  (RX12, 156, "no such count"),
  (RX12, 164, "there is no program"),
  (RX12, 167, "most is not 1 .. 1000"),
  (RX12, 177, "no such state or question"),
  (RX12, 203, "no such state, call or variable"),
  (RX12, 209, "no such state, next or question"),
  (RX12, 230, "no such ending or variable"),
  (RX12, 241, "no such state that chooses, or next"),
  (RX12, 246, "no such state that chooses"),
  (RX12, 248, "nothing is explored"),
  (RX12, 256, "no such kind"),
  (RX12, 261, "there is no such fraction now"),
  (RX12, 263, "no such ending or state"),
  (RX12, 286, "no such part"),
  (RX12, 300, "no such number"),
  (RX12, 308, "200 draws are told"),
  (RX12, 310, "most is not 0 .. 2000"),
  (RX12, 316, "no such question"),
  (RX12, 318, "nothing is solved"),
  (RX12, 323, "no such variable")]
/-- what a throw needs of the state: Throwable's two statics outside of A, the classes, the texts -/
def tK (A : Nat → Prop) (U : State) : Prop := vx_Zq Bundle.tN "UNASSIGNED_STACK" Bundle.steD A U U.heap ∧ vx_Zq Bundle.tN "SUPPRESSED_SENTINEL" Bundle.listD A U U.heap ∧ (∀ X ∈ exs, va_Nw (.castable X X) U) ∧ (∀ Y ∈ sups, va_Nw (.declares (Bundle.initS Y)) U) ∧ va_Nc "java/lang/IllegalStateException" "java/lang/IllegalArgumentException" U ∧ ∀ x ∈ strs, ∃ a, vk_R x.1 x.2.1 x.2.2 a U
theorem tK.at {A B : Nat → Prop} {s U : State} {H : Heap} {locs : List Loc} (h : tK A s) (hS : va_S A s.heap H locs) (hU : U.heap = H) (hW : s.WarmedH U.vm) (hAB : ∀ q, B q → A q) : tK B U := by
  obtain ⟨h1, h2, h3, h6, h4, h5⟩ := h
  refine ⟨?_, ?_, fun X hX => va_Nw.warmC hW (h3 X hX), fun X hX => va_Nw.warmD hW (h6 X hX), va_Nc.moved hW.alike h4, fun x hx => ?_⟩
  · rw [hU]; exact vx_Zq.narrow (vx_Zq.moved hW.alike (h1.kept hS.2.1)) hAB
  · rw [hU]; exact vx_Zq.narrow (vx_Zq.moved hW.alike (h2.kept hS.2.1)) hAB
  · obtain ⟨a, ha⟩ := h5 x hx
    exact ⟨a, vk_R.warm hW ha⟩
theorem tK.same {A : Nat → Prop} {u U : State} (hv : U.vm = u.vm) (hh : U.heap = u.heap) (h : tK A u) : tK A U := by
  obtain ⟨h1, h2, h3, h6, h4, h5⟩ := h
  have ha : u.vm.Alike U.vm := by rw [hv]; exact Vm.Alike.refl _
  refine ⟨?_, ?_, fun X hX => va_Nw.same rfl hv.symm (h3 X hX), fun X hX => va_Nw.same rfl hv.symm (h6 X hX), va_Nc.moved ha h4, fun x hx => ?_⟩
  · rw [hh]; exact vx_Zq.moved ha h1
  · rw [hh]; exact vx_Zq.moved ha h2
  · obtain ⟨a, hx9⟩ := h5 x hx
    exact ⟨a, vk_R.same hv hx9⟩
theorem t_F {A : Nat → Prop} {s t : State} {H : Heap} {locs : List Loc} (hS : va_S A s.heap H locs) (h1 : H.size ≤ t.heap.size) (h2 : ∀ q : Nat, q < H.size → t.heap[q]? = H[q]?) : va_F A s t :=
  ⟨Nat.le_trans hS.1 h1, fun q hq ha => (h2 q (Nat.lt_of_lt_of_le hq hS.1)).trans (hS.2.1 q hq ha)⟩
theorem va_P0 {D : va_G} {cl : List vw_C} {H : Heap} : va_P D cl [] H := fun k q h => by simp at h
theorem va_D0 {A : Nat → Prop} : va_D A [] := ⟨fun i j p q h => by simp at h, fun k q h => by simp at h⟩
theorem p_kept {D : va_G} {cl : List vw_C} {ws : va_W} {H H1 : Heap} (h : va_P D cl ws H) (h2 : ∀ q : Nat, q < H.size → H1[q]? = H[q]?) : va_P D cl ws H1 := fun k q hk => (h k q hk).kept (h2 q.1 (h k q hk).lt)
