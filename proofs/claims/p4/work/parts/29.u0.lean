/-! updates and rows as `grind` reads them -/
theorem si1 {σ : rS} {k j : Nat} {x : Int32} : (siU σ k x).1 j = if j = k then x else σ.1 j := rfl
theorem si2 {σ : rS} {k : Nat} {x : Int32} : (siU σ k x).2 = σ.2 := rfl
theorem sl1 {σ : rS} {k j : Nat} {x : Int64} : (slU σ k x).1 j = σ.1 j := rfl
theorem sl2 {σ : rS} {k j : Nat} {x : Int64} : (slU σ k x).2.1 j = if j = k then x else σ.2.1 j := rfl
theorem sl3 {σ : rS} {k : Nat} {x : Int64} : (slU σ k x).2.2 = σ.2.2 := rfl
theorem ri1 {σ : rS} {k i j : Nat} {x : Int32} : (riU σ k i x).1 j = σ.1 j := rfl
theorem ri2 {σ : rS} {k i j : Nat} {x : Int32} : (riU σ k i x).2.1 j = σ.2.1 j := rfl
theorem ri3 {σ : rS} {k i j : Nat} {x : Int32} (h : ¬ j = k) : (riU σ k i x).2.2.1 j = σ.2.2.1 j := by unfold riU; simp [h]
theorem ri4 {σ : rS} {k i m : Nat} {x : Int32} : (riU σ k i x).2.2.1 k m = if m = i then x else σ.2.2.1 k m := by unfold riU upd; simp
theorem ri5 {σ : rS} {k i r j : Nat} {x : Int32} : (riU σ k i x).2.2.2 r j = σ.2.2.2 r j := rfl
theorem rl1 {σ : rS} {k i j : Nat} {x : Int64} : (rlU σ k i x).1 j = σ.1 j := rfl
theorem rl2 {σ : rS} {k i j : Nat} {x : Int64} : (rlU σ k i x).2.1 j = σ.2.1 j := rfl
theorem rl3 {σ : rS} {k i r : Nat} {x : Int64} : (rlU σ k i x).2.2.1 r = σ.2.2.1 r := rfl
theorem rl3a {σ : rS} {k i r j : Nat} {x : Int64} : (rlU σ k i x).2.2.1 r j = σ.2.2.1 r j := rfl
theorem rl4 {σ : rS} {k i j : Nat} {x : Int64} (h : ¬ j = k) : (rlU σ k i x).2.2.2 j = σ.2.2.2 j := by unfold rlU; simp [h]
theorem rl5 {σ : rS} {k i m : Nat} {x : Int64} : (rlU σ k i x).2.2.2 k m = if m = i then x else σ.2.2.2 k m := by unfold rlU vp_updL; simp
abbrev rd (σ : rS) (k : Nat) (i : Int32) : Int32 := σ.2.2.1 k i.toNatClampNeg
theorem ib_of {i x : Int32} {n : Nat} (hx : x.toInt = n) : inb i n ↔ 0 ≤ i ∧ i < x := by
  rw [inb_iff, Int32.le_iff_toInt_le, Int32.toInt_zero, Int32.lt_iff_toInt_lt]
  omega
theorem ib_3 {i : Int32} : inb i 3 ↔ 0 ≤ i ∧ i < 3 := ib_of rfl
theorem ib_4 {i : Int32} : inb i 4 ↔ 0 ≤ i ∧ i < 4 := ib_of rfl
theorem ib_8 {i : Int32} : inb i 8 ↔ 0 ≤ i ∧ i < 8 := ib_of rfl
theorem ib_10 {i : Int32} : inb i 10 ↔ 0 ≤ i ∧ i < 10 := ib_of rfl
theorem ib_12 {i : Int32} : inb i 12 ↔ 0 ≤ i ∧ i < 12 := ib_of rfl
theorem ib_30 {i : Int32} : inb i 30 ↔ 0 ≤ i ∧ i < 30 := ib_of rfl
theorem ib_34 {i : Int32} : inb i 34 ↔ 0 ≤ i ∧ i < 34 := ib_of rfl
theorem ib_64 {i : Int32} : inb i 64 ↔ 0 ≤ i ∧ i < 64 := ib_of rfl
theorem ib_80 {i : Int32} : inb i 80 ↔ 0 ≤ i ∧ i < 80 := ib_of rfl
theorem ib_96 {i : Int32} : inb i 96 ↔ 0 ≤ i ∧ i < 96 := ib_of rfl
theorem ib_143 {i : Int32} : inb i 143 ↔ 0 ≤ i ∧ i < 143 := ib_of rfl
theorem ib_150 {i : Int32} : inb i 150 ↔ 0 ≤ i ∧ i < 150 := ib_of rfl
theorem ib_200 {i : Int32} : inb i 200 ↔ 0 ≤ i ∧ i < 200 := ib_of rfl
theorem ib_1000 {i : Int32} : inb i 1000 ↔ 0 ≤ i ∧ i < 1000 := ib_of rfl
theorem ib_1001 {i : Int32} : inb i 1001 ↔ 0 ≤ i ∧ i < 1001 := ib_of rfl
theorem ib_2048 {i : Int32} : inb i 2048 ↔ 0 ≤ i ∧ i < 2048 := ib_of rfl
theorem ib_16000 {i : Int32} : inb i 16000 ↔ 0 ≤ i ∧ i < 16000 := ib_of rfl
theorem ib_20000 {i : Int32} : inb i 20000 ↔ 0 ≤ i ∧ i < 20000 := ib_of rfl
theorem ib_34000 {i : Int32} : inb i 34000 ↔ 0 ≤ i ∧ i < 34000 := ib_of rfl
theorem ib_35000 {i : Int32} : inb i 35000 ↔ 0 ≤ i ∧ i < 35000 := ib_of rfl
theorem ib_65536 {i : Int32} : inb i 65536 ↔ 0 ≤ i ∧ i < 65536 := ib_of rfl
theorem ib_66000 {i : Int32} : inb i 66000 ↔ 0 ≤ i ∧ i < 66000 := ib_of rfl
theorem ib_131074 {i : Int32} : inb i 131074 ↔ 0 ≤ i ∧ i < 131074 := ib_of rfl
theorem ib_143000 {i : Int32} : inb i 143000 ↔ 0 ≤ i ∧ i < 143000 := ib_of rfl
theorem ib_566000 {i : Int32} : inb i 566000 ↔ 0 ≤ i ∧ i < 566000 := ib_of rfl
theorem ib_1200000 {i : Int32} : inb i 1200000 ↔ 0 ≤ i ∧ i < 1200000 := ib_of rfl
theorem cn_lt2 {x y : Int32} {n : Nat} (hn : n = y.toNatClampNeg) (h0 : 0 ≤ x) (h : x < y) : x.toNatClampNeg < n := hn ▸ cn_lt h0 h
theorem ri34 {σ : rS} {k i r j : Nat} {x : Int32} : (riU σ k i x).2.2.1 r j = if r = k then (if j = i then x else σ.2.2.1 k j) else σ.2.2.1 r j := by
  by_cases h : r = k
  · subst h; simp [ri4]
  · simp [ri3 h, h]
theorem rl45 {σ : rS} {k i r j : Nat} {x : Int64} : (rlU σ k i x).2.2.2 r j = if r = k then (if j = i then x else σ.2.2.2 k j) else σ.2.2.2 r j := by
  by_cases h : r = k
  · subst h; simp [rl5]
  · simp [rl4 h, h]
