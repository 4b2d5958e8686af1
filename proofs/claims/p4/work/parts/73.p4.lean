set_option maxHeartbeats 1600000
/-! the reference: paths, and rows of bits that say them -/
/-- a path of k + 1 edges -/
def pth (E : Nat → Nat → Prop) : Nat → Nat → Nat → Prop
  | 0, a, b => E a b
  | k + 1, a, b => ∃ c, E a c ∧ pth E k c b
def Tr (E : Nat → Nat → Prop) (a b : Nat) : Prop := ∃ k, pth E k a b
theorem pth_tr {E : Nat → Nat → Prop} {i j a b c : Nat} (h : pth E i a b) (g : pth E j b c) : pth E (i + j + 1) a c := by
  induction i generalizing a with
  | zero => rw [show 0 + j + 1 = j + 1 by omega]; exact ⟨b, h, g⟩
  | succ i ih =>
    obtain ⟨d, h1, h2⟩ := h
    rw [show i + 1 + j + 1 = (i + j + 1) + 1 by omega]
    exact ⟨d, h1, ih h2⟩
theorem Tr_1 {E : Nat → Nat → Prop} {a b : Nat} (h : E a b) : Tr E a b := ⟨0, h⟩
theorem Tr_tr {E : Nat → Nat → Prop} {a b c : Nat} (h : Tr E a b) (g : Tr E b c) : Tr E a c := by
  obtain ⟨i, h⟩ := h
  obtain ⟨j, g⟩ := g
  exact ⟨_, pth_tr h g⟩
/-- a relation that holds the edges and is closed below n holds all paths below n -/
theorem Tr_cl {E R : Nat → Nat → Prop} {n : Nat} (hn : ∀ a b, E a b → a < n → b < n) (h1 : ∀ a b, a < n → b < n → E a b → R a b) (h2 : ∀ a b c, a < n → b < n → c < n → R a b → R b c → R a c) {a b : Nat} (ha : a < n) (hb : b < n) (h : Tr E a b) : R a b := by
  obtain ⟨k, h⟩ := h
  induction k generalizing a with
  | zero => exact h1 a b ha hb h
  | succ k ih =>
    obtain ⟨c, g1, g2⟩ := h
    have hc := hn a c g1 ha
    exact h2 a c b ha hc hb (h1 a c ha hc g1) (ih hc g2)
/-- one state more between -/
theorem war {E R0 R1 : Nat → Nat → Prop} {n m : Nat} (hm : m < n) (hE : ∀ a b, a < n → b < n → E a b → R0 a b) (hT : ∀ a b, a < n → b < n → R0 a b → Tr E a b) (hw : ∀ a j b, a < n → j < m → b < n → R0 a j → R0 j b → R0 a b) (h1 : ∀ a b, a < n → b < n → (R1 a b ↔ R0 a b ∨ (R0 a m ∧ R0 m b))) : (∀ a b, a < n → b < n → E a b → R1 a b) ∧ (∀ a b, a < n → b < n → R1 a b → Tr E a b) ∧ (∀ a j b, a < n → j < m + 1 → b < n → R1 a j → R1 j b → R1 a b) := by
  refine ⟨fun a b ha hb h => (h1 a b ha hb).mpr (Or.inl (hE a b ha hb h)), fun a b ha hb h => ?_, fun a j b ha hj hb x y => ?_⟩
  · rcases (h1 a b ha hb).mp h with z | z
    · exact hT a b ha hb z
    · exact Tr_tr (hT a m ha hm z.1) (hT m b hm hb z.2)
  · have hjn : j < n := by omega
    rw [h1 a j ha hjn] at x
    rw [h1 j b hjn hb] at y
    rw [h1 a b ha hb]
    by_cases e : j = m
    · subst e
      have xa : R0 a j := by rcases x with z | z; exact z; exact z.1
      have yb : R0 j b := by rcases y with z | z; exact z; exact z.2
      exact Or.inr ⟨xa, yb⟩
    · have hjm : j < m := by omega
      rcases x with x | x
      · rcases y with y | y
        · exact Or.inl (hw a j b ha hjm hb x y)
        · exact Or.inr ⟨hw a j m ha hjm hm x y.1, y.2⟩
      · rcases y with y | y
        · exact Or.inr ⟨x.1, hw m j b hm hjm hb x.2 y⟩
        · exact Or.inr ⟨x.1, y.2⟩
theorem row_or {r r1 : Nat → Int64} {k m : Nat} (h : ∀ w, w < 16 → r (16 * k + w) = r1 (16 * k + w) ||| r1 (16 * m + w)) (ho : ∀ x, (x < 16 * k ∨ 16 * k + 16 ≤ x) → r x = r1 x) {a b : Nat} (hb : b < 1024) : bR r a b = if a = k then (bR r1 k b || bR r1 m b) else bR r1 a b := by
  unfold bR
  have hw : b / 64 < 16 := by omega
  by_cases e : a = k
  · subst e
    rw [if_pos rfl, h _ hw, bit_o]
  · rw [if_neg e, ho _ (by omega)]
theorem bit_set {r : Nat → Int64} {k : Nat} {t : Int32} {x : Nat} (t0' : 0 ≤ t) (ht : t < 1000) (hx : x = 16 * k + t.toNatClampNeg / 64) {r' : Nat → Int64} (hr : ∀ y, r' y = if y = x then (r x ||| ((1 : Int64) <<< ((t &&& 63).toInt64 &&& 63))) else r y) {a b : Nat} (hb : b < 1024) : bR r' a b = true ↔ bR r a b = true ∨ (a = k ∧ b = t.toNatClampNeg) := by
  have tn : t.toNatClampNeg < 1000 := by have := cn_lt t0' ht; rwa [show (1000 : Int32).toNatClampNeg = 1000 from rfl] at this
  unfold bR
  subst hx
  by_cases e : 16 * a + b / 64 = 16 * k + t.toNatClampNeg / 64
  · have ea : a = k := by omega
    have eb : b / 64 = t.toNatClampNeg / 64 := by omega
    rw [hr, if_pos e, e, bit_s t0' (Nat.mod_lt _ (by decide)), Bool.or_eq_true, decide_eq_true_iff]
    constructor
    · rintro (z | z)
      · exact Or.inl z
      · exact Or.inr ⟨ea, by omega⟩
    · rintro (z | z)
      · exact Or.inl z
      · exact Or.inr (by rw [z.2])
  · rw [hr, if_neg e]
    constructor
    · exact fun z => Or.inl z
    · rintro (z | z)
      · exact z
      · exact absurd (by rw [z.1, z.2]) e
/-- states and nexts in order, as they stay behind explore -/
def exO (σ : rS) : Prop := (0 ≤ σ.1 70 ∧ σ.1 70 ≤ 1000) ∧ (0 ≤ σ.1 71 ∧ σ.1 71 ≤ 1000) ∧ (0 ≤ σ.1 72 ∧ σ.1 72 ≤ 20000) ∧ (∀ j : Int32, 0 ≤ j → j < σ.1 70 → stOK σ j) ∧ (∀ i, i < (σ.1 72).toNatClampNeg → nxE σ i)
/-- only the rows of bits differ -/
def frL (σ τ : rS) : Prop := τ.1 = σ.1 ∧ τ.2.1 = σ.2.1 ∧ τ.2.2.1 = σ.2.2.1 ∧ ∀ k, k ≠ 86 → τ.2.2.2 k = σ.2.2.2 k
theorem frL_refl {σ : rS} : frL σ σ := ⟨rfl, rfl, rfl, fun _ _ => rfl⟩
theorem frL_tr {σ τ υ : rS} (h : frL σ τ) (g : frL τ υ) : frL σ υ := ⟨g.1.trans h.1, g.2.1.trans h.2.1, g.2.2.1.trans h.2.2.1, fun k hk => (g.2.2.2 k hk).trans (h.2.2.2 k hk)⟩
theorem frL_rl {σ : rS} {i : Nat} {x : Int64} : frL σ (rlU σ 86 i x) := ⟨rfl, rfl, rfl, fun k hk => rl4 hk⟩
/-- next i of state a leads to state b -/
def edg (σ : rS) (p : Int32) (o : Nat) (l : Int32) (a : Nat) (i : Int32) (b : Nat) : Prop := rd σ 77 i = 0 ∧ (rd σ 78 i).toNatClampNeg = b ∧ (p = 0 ∨ σ.2.2.1 81 a = 0 ∨ i = σ.2.2.1 76 a + σ.2.2.1 83 a) ∧ (l ≠ 0 ∨ (σ.2.2.1 o a ≠ 0 ∧ σ.2.2.1 o b ≠ 0))
/-- a next of state a before number i leads to state b -/
def edI (σ : rS) (p : Int32) (o : Nat) (l : Int32) (a : Nat) (i : Int32) (b : Nat) : Prop := ∃ i', σ.2.2.1 76 a ≤ i' ∧ i' < i ∧ edg σ p o l a i' b
def edN (σ : rS) (p : Int32) (o : Nat) (l : Int32) (a b : Nat) : Prop := edI σ p o l a (σ.2.2.1 76 (a + 1)) b
theorem edI_0 {σ : rS} {p l : Int32} {o a b : Nat} : ¬ edI σ p o l a (σ.2.2.1 76 a) b := fun ⟨i, h1, h2, _⟩ => absurd h2 (Int32.not_lt.mpr h1)
theorem i_sp {i j : Int32} (h0 : 0 ≤ i) (h1 : i < 20000) (h : j < i + 1) : j = i ∨ j < i := by grind
theorem edI_s {σ : rS} {p l i : Int32} {o a b : Nat} (h0 : 0 ≤ i) (h1 : i < 20000) (h2 : σ.2.2.1 76 a ≤ i) : edI σ p o l a (i + 1) b ↔ edI σ p o l a i b ∨ edg σ p o l a i b := by
  constructor
  · rintro ⟨j, g1, g2, g3⟩
    rcases i_sp h0 h1 g2 with e | e
    · subst e; exact Or.inr g3
    · exact Or.inl ⟨j, g1, e, g3⟩
  · rintro (⟨j, g1, g2, g3⟩ | g)
    · exact ⟨j, g1, Int32.lt_trans g2 (by grind), g3⟩
    · exact ⟨i, h2, by grind, g⟩
theorem ex_st {σ : rS} {j : Int32} (h : exO σ) (j0 : 0 ≤ j) (j1 : j < σ.1 70) : (0 ≤ σ.2.2.1 76 j.toNatClampNeg ∧ σ.2.2.1 76 j.toNatClampNeg ≤ 20000) ∧ σ.2.2.1 76 j.toNatClampNeg ≤ σ.2.2.1 76 (j.toNatClampNeg + 1) ∧ σ.2.2.1 76 (j.toNatClampNeg + 1) ≤ σ.1 72 ∧ (j + 1).toNatClampNeg = j.toNatClampNeg + 1 ∧ j < 1000 ∧ 0 ≤ j + 1 ∧ j + 1 < 1001 := by
  have s := (h.2.2.2.1 j j0 j1).1
  have k1 := Int32.lt_of_lt_of_le j1 h.1.2
  have e := cn_succ j0 (Int32.lt_trans k1 (by decide))
  have kk := k1001 j0 k1
  rw [rd, rd, e] at s
  exact ⟨⟨s.1, Int32.le_trans (Int32.le_of_lt s.2.1) (Int32.le_trans s.2.2 h.2.2.1.2)⟩, Int32.le_of_lt s.2.1, s.2.2, e, k1, kk.1, kk.2.1⟩
theorem ex_nx {σ : rS} {i : Int32} (h : exO σ) (i0 : 0 ≤ i) (i1 : i < σ.1 72) (hk : rd σ 77 i = 0) : 0 ≤ rd σ 78 i ∧ rd σ 78 i < σ.1 70 := (h.2.2.2.2 _ (cn_lt i0 i1)).2.1 hk
theorem u16 {x : Int32} (h0 : 0 ≤ x) (h : ¬ 16 ≤ x) : 0 ≤ 16 - (x + 1) ∧ 16 - (x + 1) < 16 - x ∧ 0 ≤ x + 1 ∧ x + 1 ≤ 16 ∧ x < 16 := by grind
theorem m16 {n : Int32} (n0 : 0 ≤ n) (n1 : n ≤ 1000) : (16 * n).toNatClampNeg = 16 * n.toNatClampNeg ∧ 0 ≤ 16 * n ∧ 16 * n ≤ 16000 := by
  have a2 := t0 n0
  have a3 := ti n1
  rw [show (1000 : Int32).toInt = 1000 from rfl] at a3
  have m : (16 * n).toInt = 16 * n.toInt := by
    rw [Int32.toInt_mul, show (16 : Int32).toInt = 16 from rfl]
    exact Int.bmod_eq_of_le (by omega) (by omega)
  have z : 0 ≤ 16 * n := Int32.le_iff_toInt_le.mpr (by rw [m, Int32.toInt_zero]; omega)
  have c := cn_int z
  have d := cn_int n0
  exact ⟨by omega, z, Int32.le_iff_toInt_le.mpr (by rw [m, show (16000 : Int32).toInt = 16000 from rfl]; omega)⟩
theorem z16 {x n : Int32} (n0 : 0 ≤ n) (n1 : n ≤ 1000) (h0 : 0 ≤ x) (h : ¬ 16 * n ≤ x) : 0 ≤ 16 * n - (x + 1) ∧ 16 * n - (x + 1) < 16 * n - x ∧ 0 ≤ x + 1 ∧ x + 1 ≤ 16 * n ∧ x < 16000 ∧ x < 1000000 := by
  have m := (m16 n0 n1).2.2
  have u := u2 h0 h (Int32.le_trans m (by decide))
  have l := Int32.lt_of_lt_of_le u.2.2.2.2.2.1 m
  exact ⟨u.1, u.2.1, u.2.2.1, u.2.2.2.2.1, l, Int32.lt_trans l (by decide)⟩
theorem toI {a : Nat} {n : Int32} (n0 : 0 ≤ n) (h : a < n.toNatClampNeg) : ∃ j : Int32, 0 ≤ j ∧ j < n ∧ j.toNatClampNeg = a := by
  have c := cn_int n0
  have l := Int32.toInt_lt n
  have e : (Int32.ofNat a).toInt = a := Int32.toInt_ofNat_of_lt (by omega)
  refine ⟨Int32.ofNat a, Int32.le_iff_toInt_le.mpr (by rw [e, Int32.toInt_zero]; omega), Int32.lt_iff_toInt_lt.mpr (by rw [e]; omega), cn_nat e⟩
theorem ed_lt {σ : rS} {p l : Int32} {o a b : Nat} (h : exO σ) (E : edN σ p o l a b) (ha : a < (σ.1 70).toNatClampNeg) : b < (σ.1 70).toNatClampNeg := by
  obtain ⟨j, j0, j1, je⟩ := toI h.1.1 ha
  obtain ⟨i, g1, g2, g3, g4, -⟩ := E
  have st := ex_st h j0 j1
  rw [je] at st
  have nx := ex_nx h (Int32.le_trans st.1.1 g1) (Int32.lt_of_lt_of_le g2 st.2.2.1) g3
  rw [← g4]
  exact cn_lt nx.1 nx.2
theorem findReach_c {C : rCx} (hC : cOK C)  {σ : rS} {a1 : Int32} {a2 : Nat} {a3 : Int32} {Q : rS → Prop} (hp : exO σ ∧ (a2 = 87 ∨ a2 = 95)) (h : ∀ (σ' : rS), (frL σ σ' ∧ ∀ a b, a < (σ.1 70).toNatClampNeg → b < (σ.1 70).toNatClampNeg → (bR (σ'.2.2.2 86) a b = true ↔ Tr (edN σ a1 a2 a3) a b)) → Q σ') : cV C 1 m_findReach [.ref (co C), .int a1, .ref (cad C a2), .int a3] σ Q := by
  refine m_findReach_run hC ?_
  unfold w_findReach_0
  obtain ⟨hO, ho⟩ := hp
  have n1000 : (σ.1 70).toNatClampNeg ≤ 1000 := cn_le (y := 1000) rfl hO.1.2
  unfold w_findReach_3
  refine ⟨fun n l1 l2 l3 l4 τ => n = (16 * σ.1 70 - l4).toNatClampNeg ∧ (l1 = a1 ∧ l2 = a2 ∧ l3 = a3 ∧ frL σ τ ∧ 0 ≤ l4 ∧ l4 ≤ 16 * σ.1 70 ∧ ∀ w, w < l4.toNatClampNeg → τ.2.2.2 86 w = 0), ⟨_, rfl, ?_⟩, ?_⟩
  · clear h; exact ⟨rfl, rfl, rfl, frL_refl, by decide, (m16 hO.1.1 hO.1.2).2.1, fun w hw => absurd hw (Nat.not_lt_zero w)⟩  -- j1
  rintro n3 x3_1 x3_2 x3_3 x3_4 σ3 ⟨hn3, i3⟩
  refine ⟨fun c1 => ?_, fun c1 => ?_⟩
  · skip
    unfold w_findReach_32
    refine ⟨fun n l1 l2 l3 l4 τ => n = (σ.1 70 - l4).toNatClampNeg ∧ (l1 = a1 ∧ l2 = a2 ∧ l3 = a3 ∧ frL σ τ ∧ 0 ≤ l4 ∧ l4 ≤ σ.1 70 ∧ ∀ a b, a < (σ.1 70).toNatClampNeg → b < (σ.1 70).toNatClampNeg → (bR (τ.2.2.2 86) a b = true ↔ a < l4.toNatClampNeg ∧ edN σ a1 a2 a3 a b)), ⟨_, rfl, ?_⟩, ?_⟩
    · clear h; obtain ⟨z1, z2, z3, y1, y2, y3, y4⟩ := i3
      have e : x3_4 = 16 * σ.1 70 := Int32.le_antisymm y3 (by rw [← y1.1]; exact c1)
      have em := (m16 hO.1.1 hO.1.2).1
      refine ⟨z1, z2, z3, y1, by decide, hO.1.1, fun a b ha hb => ⟨fun z => ?_, fun z => absurd z.1 (Nat.not_lt_zero a)⟩⟩
      unfold bR at z
      rw [y4 _ (by rw [e, em]; omega), show (0 : Int64).toBitVec = 0#64 from rfl, BitVec.getLsbD_zero] at z
      exact absurd z (by decide)
    rintro n32 x32_1 x32_2 x32_3 x32_4 σ32 ⟨hn32, i32⟩
    refine ⟨fun c2 => ?_, fun c2 => ?_⟩
    · skip
      unfold w_findReach_154
      refine ⟨fun n l4 τ => n = (σ.1 70 - l4).toNatClampNeg ∧ (frL σ τ ∧ 0 ≤ l4 ∧ l4 ≤ σ.1 70 ∧ (∀ a b, a < (σ.1 70).toNatClampNeg → b < (σ.1 70).toNatClampNeg → edN σ a1 a2 a3 a b → bR (τ.2.2.2 86) a b = true) ∧ (∀ a b, a < (σ.1 70).toNatClampNeg → b < (σ.1 70).toNatClampNeg → bR (τ.2.2.2 86) a b = true → Tr (edN σ a1 a2 a3) a b) ∧ (∀ a j b, a < (σ.1 70).toNatClampNeg → j < l4.toNatClampNeg → b < (σ.1 70).toNatClampNeg → bR (τ.2.2.2 86) a j = true → bR (τ.2.2.2 86) j b = true → bR (τ.2.2.2 86) a b = true)), ⟨_, rfl, ?_⟩, ?_⟩
      · clear h; obtain ⟨z1, z2, z3, y1, y2, y3, y4⟩ := i32
        have e : x32_4 = σ.1 70 := Int32.le_antisymm y3 (by rw [← y1.1]; exact c2)
        rw [e] at y4
        exact ⟨y1, by decide, hO.1.1, fun a b ha hb E => (y4 a b ha hb).mpr ⟨ha, E⟩, fun a b ha hb z => Tr_1 ((y4 a b ha hb).mp z).2, fun a j b _ hj => absurd hj (Nat.not_lt_zero j)⟩
      rintro n154 x154_4 σ154 ⟨hn154, i154⟩
      refine ⟨fun c3 => ?_, fun c3 => ?_⟩
      · skip
        refine h _ ?_
        · clear h; obtain ⟨y1, y2, y3, y4, y5, y6⟩ := i154
          have e : x154_4 = σ.1 70 := Int32.le_antisymm y3 (by rw [← y1.1]; exact c3)
          rw [e] at y6
          exact ⟨y1, fun a b ha hb => ⟨y5 a b ha hb, fun z => Tr_cl (R := fun a b => bR (σ154.2.2.2 86) a b = true) (fun a b E ha => ed_lt hO E ha) y4 (fun a b c ha hb hc x y => y6 a b c ha hb hc x y) ha hb z⟩⟩
      · skip
        unfold w_findReach_166
        refine ⟨fun n l4 l5 τ => n = (σ.1 70 - l5).toNatClampNeg ∧ (frL σ τ ∧ l4 = x154_4 ∧ ¬ σ.1 70 ≤ x154_4 ∧ 0 ≤ l5 ∧ l5 ≤ σ.1 70 ∧ ∀ a b, a < (σ.1 70).toNatClampNeg → b < (σ.1 70).toNatClampNeg → (bR (τ.2.2.2 86) a b = true ↔ bR (σ154.2.2.2 86) a b = true ∨ (a < l5.toNatClampNeg ∧ bR (σ154.2.2.2 86) a x154_4.toNatClampNeg = true ∧ bR (σ154.2.2.2 86) x154_4.toNatClampNeg b = true))), ⟨_, rfl, ?_⟩, ?_⟩
        · clear h; obtain ⟨y1, y2, y3, y4, y5, y6⟩ := i154
          refine ⟨y1, rfl, by rw [← y1.1]; exact c3, by decide, hO.1.1, fun a b ha hb => ⟨fun z => Or.inl z, fun z => ?_⟩⟩
          rcases z with z | z
          · exact z
          · exact absurd z.1 (Nat.not_lt_zero a)
        rintro n166 x166_4 x166_5 σ166 ⟨hn166, i166⟩
        obtain ⟨w1, w2, w3, w4, w5, w6⟩ := i166
        obtain ⟨y1, y2, y3, y4, y5, y6⟩ := i154
        have u := uk y2 w3 hO.1.2
        have mn : x154_4.toNatClampNeg < (σ.1 70).toNatClampNeg := cn_lt y2 u.2.2.2.2.1
        refine ⟨fun c4 => ?_, fun c4 => ?_⟩
        · skip
          intro x5 hx5
          refine ⟨_, cn_lt2 hn154 ?_ ?_, rfl, ?_⟩
          · clear h; rw [hx5, w2]; exact u.1  -- d6
          · clear h; rw [hx5, w2]; exact u.2.1  -- d7
          · clear h; rw [hx5, w2]
            have e : x166_5 = σ.1 70 := Int32.le_antisymm w5 (by rw [← w1.1]; exact c4)
            rw [e] at w6
            have W := war (E := edN σ a1 a2 a3) (R0 := fun a b => bR (σ154.2.2.2 86) a b = true) (R1 := fun a b => bR (σ166.2.2.2 86) a b = true) mn y4 y5 y6 (fun a b ha hb => by
              rw [w6 a b ha hb]
              constructor
              · rintro (z | z)
                · exact Or.inl z
                · exact Or.inr z.2
              · rintro (z | z)
                · exact Or.inl z
                · exact Or.inr ⟨ha, z⟩)
            refine ⟨w1, u.2.2.1, u.2.2.2.1, W.1, W.2.1, ?_⟩
            rw [cn_succ y2 (Int32.lt_trans u.2.2.2.2.2 (by decide))]
            exact W.2.2
        · skip
          have u5 := uk w4 (by rw [← w1.1]; exact c4) hO.1.2
          have kn : x166_5.toNatClampNeg < (σ.1 70).toNatClampNeg := cn_lt w4 u5.2.2.2.2.1
          have k1 := cn_succ w4 (Int32.lt_trans u5.2.2.2.2.2 (by decide))
          have wk : ∀ b, b < (σ.1 70).toNatClampNeg → (bR (σ166.2.2.2 86) x166_5.toNatClampNeg b = true ↔ bR (σ154.2.2.2 86) x166_5.toNatClampNeg b = true) := fun b hb => by
            rw [w6 _ b kn hb]
            constructor
            · rintro (z | z)
              · exact z
              · exact absurd z.1 (Nat.lt_irrefl _)
            · exact fun z => Or.inl z
          have wm : ∀ b, b < (σ.1 70).toNatClampNeg → (bR (σ166.2.2.2 86) x154_4.toNatClampNeg b = true ↔ bR (σ154.2.2.2 86) x154_4.toNatClampNeg b = true) := fun b hb => by
            rw [w6 _ b mn hb]
            constructor
            · rintro (z | z)
              · exact z
              · exact z.2.2
            · exact fun z => Or.inl z
          refine leads_c hC  ?_ (fun r6 q8 => ?_)
          · clear h; rw [w2]; exact ⟨w4, u5.2.2.2.2.2, y2, u.2.2.2.2.2⟩  -- p9
          refine ⟨fun c9 => ?_, fun c9 => ?_⟩
          · skip
            intro x10 hx10
            refine ⟨_, cn_lt2 hn166 ?_ ?_, rfl, ?_⟩
            · clear h; rw [hx10]; exact u5.1  -- d10
            · clear h; rw [hx10]; exact u5.2.1  -- d11
            · clear h; rw [hx10]
              have nk : ¬ bR (σ154.2.2.2 86) x166_5.toNatClampNeg x154_4.toNatClampNeg = true := fun z => (q8.2.mpr (by rw [w2]; exact (wk _ mn).mpr z)) c9
              refine ⟨w1, w2, w3, u5.2.2.1, u5.2.2.2.1, fun a b ha hb => ?_⟩
              rw [w6 a b ha hb, k1]
              constructor
              · rintro (z | z)
                · exact Or.inl z
                · exact Or.inr ⟨by omega, z.2⟩
              · rintro (z | z)
                · exact Or.inl z
                · by_cases e : a = x166_5.toNatClampNeg
                  · rw [e] at z; exact absurd z.2.1 nk
                  · exact Or.inr ⟨by omega, z.2⟩
          · skip
            unfold w_findReach_189
            refine ⟨fun n l4 l5 l6 τ => n = (16 - l6).toNatClampNeg ∧ (frL σ τ ∧ l4 = x154_4 ∧ l5 = x166_5 ∧ ¬ σ.1 70 ≤ x166_5 ∧ bR (σ166.2.2.2 86) x166_5.toNatClampNeg x154_4.toNatClampNeg = true ∧ 0 ≤ l6 ∧ l6 ≤ 16 ∧ (∀ w, w < l6.toNatClampNeg → τ.2.2.2 86 (16 * x166_5.toNatClampNeg + w) = σ166.2.2.2 86 (16 * x166_5.toNatClampNeg + w) ||| σ166.2.2.2 86 (16 * x154_4.toNatClampNeg + w)) ∧ (∀ x, (x < 16 * x166_5.toNatClampNeg ∨ 16 * x166_5.toNatClampNeg + l6.toNatClampNeg ≤ x) → τ.2.2.2 86 x = σ166.2.2.2 86 x)), ⟨_, rfl, ?_⟩, ?_⟩
            · clear h; have q := q8.2.mp c9
              rw [w2] at q
              exact ⟨w1, w2, rfl, by rw [← w1.1]; exact c4, q, by decide, by decide, fun w hw => absurd hw (Nat.not_lt_zero w), fun x _ => rfl⟩
            rintro n189 x189_4 x189_5 x189_6 σ189 ⟨hn189, i189⟩
            obtain ⟨v1, v2, v3, v4, v5, v6, v7, v8, v9⟩ := i189
            refine ⟨fun c11 => ?_, fun c11 => ?_⟩
            · skip
              intro x12 hx12
              refine ⟨_, cn_lt2 hn166 ?_ ?_, rfl, ?_⟩
              · clear h; rw [hx12, v3]; exact u5.1  -- d14
              · clear h; rw [hx12, v3]; exact u5.2.1  -- d15
              · clear h; rw [hx12, v3]
                have e : x189_6 = 16 := Int32.le_antisymm v7 c11
                rw [e, show (16 : Int32).toNatClampNeg = 16 from rfl] at v8 v9
                have km := (wk _ mn).mp v5
                refine ⟨v1, v2, w3, u5.2.2.1, u5.2.2.2.1, fun a b ha hb => ?_⟩
                rw [row_or v8 v9 (by omega), k1]
                by_cases ea : a = x166_5.toNatClampNeg
                · rw [if_pos ea, Bool.or_eq_true, wk b hb, wm b hb, ea]
                  constructor
                  · rintro (z | z)
                    · exact Or.inl z
                    · exact Or.inr ⟨by omega, km, z⟩
                  · rintro (z | z)
                    · exact Or.inl z
                    · exact Or.inr z.2.2
                · rw [if_neg ea, w6 a b ha hb]
                  constructor
                  · rintro (z | z)
                    · exact Or.inl z
                    · exact Or.inr ⟨by omega, z.2⟩
                  · rintro (z | z)
                    · exact Or.inl z
                    · exact Or.inr ⟨by omega, z.2⟩
            · skip
              have t := u16 v6 c11
              have xk := x16 w4 u5.2.2.2.2.2 v6 t.2.2.2.2
              have xm := x16 y2 u.2.2.2.2.2 v6 t.2.2.2.2
              have l6 : x189_6.toNatClampNeg < 16 := by have := cn_lt v6 t.2.2.2.2; rwa [show (16 : Int32).toNatClampNeg = 16 from rfl] at this
              refine ⟨ib_16000.mpr ?_, ?_⟩
              · clear h; rw [v3]; exact xk.1  -- b17
              refine ⟨ib_16000.mpr ?_, ?_⟩
              · clear h; rw [v2]; exact xm.1  -- b18
              refine ⟨ib_16000.mpr ?_, ?_⟩
              · clear h; rw [v3]; exact xk.1  -- b19
              intro σ_13 hσ_13
              intro x14 hx14
              refine ⟨_, cn_lt2 hn189 ?_ ?_, rfl, ?_⟩
              · clear h; rw [hx14]; exact t.1  -- d20
              · clear h; rw [hx14]; exact t.2.1  -- d21
              · clear h; rw [hx14]
                rw [v2, v3, xk.2, xm.2] at hσ_13
                have r13 : ∀ x, σ_13.2.2.2 86 x = if x = 16 * x166_5.toNatClampNeg + x189_6.toNatClampNeg then (σ189.2.2.2 86 (16 * x166_5.toNatClampNeg + x189_6.toNatClampNeg) ||| σ189.2.2.2 86 (16 * x154_4.toNatClampNeg + x189_6.toNatClampNeg)) else σ189.2.2.2 86 x := fun x => by rw [hσ_13, rl5]
                refine ⟨frL_tr v1 (by rw [hσ_13]; exact frL_rl), v2, v3, v4, v5, t.2.2.1, t.2.2.2.1, fun w hw => ?_, fun x hx => ?_⟩
                · rw [cn_succ v6 (Int32.lt_trans t.2.2.2.2 (by decide))] at hw
                  rw [r13]
                  by_cases e : w = x189_6.toNatClampNeg
                  · rw [e, if_pos rfl, v9 _ (by omega), v9 _ (by omega)]
                  · rw [if_neg (by omega)]; exact v8 w (by omega)
                · rw [cn_succ v6 (Int32.lt_trans t.2.2.2.2 (by decide))] at hx
                  rw [r13, if_neg (by omega)]
                  exact v9 x (by omega)
    · skip
      obtain ⟨z1, z2, z3, y1, y2, y3, y4⟩ := i32
      have c2' : ¬ σ.1 70 ≤ x32_4 := by rw [← y1.1]; exact c2
      have u := uk y2 c2' hO.1.2
      have kn : x32_4.toNatClampNeg < (σ.1 70).toNatClampNeg := cn_lt y2 u.2.2.2.2.1
      have st := ex_st hO y2 u.2.2.2.2.1
      refine ⟨ib_1001.mpr ?_, ?_⟩
      · clear h; exact ⟨y2, (k1001 y2 u.2.2.2.2.2).2.2.1⟩  -- b23
      intro x15 hx15
      unfold w_findReach_50
      refine ⟨fun n l1 l2 l3 l4 l5 τ => n = (σ.2.2.1 76 (x32_4 + 1).toNatClampNeg - l5).toNatClampNeg ∧ (l1 = a1 ∧ l2 = a2 ∧ l3 = a3 ∧ frL σ τ ∧ l4 = x32_4 ∧ ¬ σ.1 70 ≤ x32_4 ∧ σ.2.2.1 76 x32_4.toNatClampNeg ≤ l5 ∧ l5 ≤ σ.2.2.1 76 (x32_4 + 1).toNatClampNeg ∧ ∀ a b, a < (σ.1 70).toNatClampNeg → b < (σ.1 70).toNatClampNeg → (bR (τ.2.2.2 86) a b = true ↔ (a < x32_4.toNatClampNeg ∧ edN σ a1 a2 a3 a b) ∨ (a = x32_4.toNatClampNeg ∧ edI σ a1 a2 a3 a l5 b))), ⟨_, rfl, ?_⟩, ?_⟩
      · clear h; rw [y1.2.2.1] at hx15
        refine ⟨z1, z2, z3, y1, rfl, c2', by rw [hx15]; exact Int32.le_refl _, by rw [hx15, st.2.2.2.1]; exact st.2.1, fun a b ha hb => ?_⟩
        rw [y4 a b ha hb]
        constructor
        · exact fun z => Or.inl z
        · rintro (z | z)
          · exact z
          · rw [z.1, hx15] at z; exact absurd z.2 edI_0
      rintro n50 x50_1 x50_2 x50_3 x50_4 x50_5 σ50 ⟨hn50, i50⟩
      have hj113 : ∀ (l1 : Int32) (l2 : Nat) (l3 : Int32) (l4 : Int32) (l5 : Int32) (l6 : Int32) (τ : rS), (l1 = a1 ∧ l2 = a2 ∧ l3 = a3 ∧ τ = σ50 ∧ l4 = x32_4 ∧ l5 = x50_5 ∧ ¬ σ.2.2.1 76 (x32_4 + 1).toNatClampNeg ≤ x50_5 ∧ l6 = rd σ 78 x50_5 ∧ 0 ≤ l6 ∧ l6 < σ.1 70 ∧ edg σ a1 a2 a3 x32_4.toNatClampNeg x50_5 l6.toNatClampNeg) → w_findReach_113 C Q (fun l1' l2' l3' l4' τ => ∃ k < n32, (fun n l1 l2 l3 l4 τ => n = (σ.1 70 - l4).toNatClampNeg ∧ (l1 = a1 ∧ l2 = a2 ∧ l3 = a3 ∧ frL σ τ ∧ 0 ≤ l4 ∧ l4 ≤ σ.1 70 ∧ ∀ a b, a < (σ.1 70).toNatClampNeg → b < (σ.1 70).toNatClampNeg → (bR (τ.2.2.2 86) a b = true ↔ a < l4.toNatClampNeg ∧ edN σ a1 a2 a3 a b))) k l1' l2' l3' l4' τ) (fun l1' l2' l3' l4' l5' τ => ∃ k < n50, (fun n l1 l2 l3 l4 l5 τ => n = (σ.2.2.1 76 (x32_4 + 1).toNatClampNeg - l5).toNatClampNeg ∧ (l1 = a1 ∧ l2 = a2 ∧ l3 = a3 ∧ frL σ τ ∧ l4 = x32_4 ∧ ¬ σ.1 70 ≤ x32_4 ∧ σ.2.2.1 76 x32_4.toNatClampNeg ≤ l5 ∧ l5 ≤ σ.2.2.1 76 (x32_4 + 1).toNatClampNeg ∧ ∀ a b, a < (σ.1 70).toNatClampNeg → b < (σ.1 70).toNatClampNeg → (bR (τ.2.2.2 86) a b = true ↔ (a < x32_4.toNatClampNeg ∧ edN σ a1 a2 a3 a b) ∨ (a = x32_4.toNatClampNeg ∧ edI σ a1 a2 a3 a l5 b)))) k l1' l2' l3' l4' l5' τ) l1 l2 l3 l4 l5 l6 τ := by
        rintro y113_1 y113_2 y113_3 y113_4 y113_5 y113_6 τ113 j113
        unfold w_findReach_113
        obtain ⟨b1, b2, b3, j1, j2, j3, j4, j5, j6, j7, j8⟩ := j113
        obtain ⟨a1', a2', a3', i1, i2, i3', i4, i5, i6⟩ := i50
        have i0 : 0 ≤ x50_5 := Int32.le_trans st.1.1 i4
        have n1 : σ.2.2.1 76 (x32_4 + 1).toNatClampNeg ≤ 20000 := by rw [st.2.2.2.1]; exact Int32.le_trans st.2.2.1 hO.2.2.1.2
        have q := u2 i0 j4 n1
        have t1000 : y113_6 < 1000 := Int32.lt_of_lt_of_le j7 hO.1.2
        have sh := shr6 j6 t1000
        have xk := x16 y2 u.2.2.2.2.2 sh.1.1 sh.1.2
        refine ⟨ib_16000.mpr ?_, ?_⟩
        · clear h; rw [j2]; exact xk.1  -- b25
        refine ⟨ib_16000.mpr ?_, ?_⟩
        · clear h; rw [j2]; exact xk.1  -- b26
        intro σ_16 hσ_16
        intro x17 hx17
        refine ⟨_, cn_lt2 hn50 ?_ ?_, rfl, ?_⟩
        · clear h; rw [hx17, j3]; exact q.1  -- d27
        · clear h; rw [hx17, j3]; exact q.2.1  -- d28
        · clear h; rw [hx17, j3]
          rw [j2, j1] at hσ_16
          have bs := fun (a b : Nat) (hb : b < 1024) => bit_set (r := σ50.2.2.2 86) (k := x32_4.toNatClampNeg) (t := y113_6) (x := (16 * x32_4 + y113_6 >>> ((6 : Int32) &&& 31)).toNatClampNeg) j6 t1000 (by rw [xk.2, sh.2]) (r' := σ_16.2.2.2 86) (fun y => by rw [hσ_16, rl5]) (a := a) (b := b) hb
          refine ⟨b1, b2, b3, frL_tr i1 (by rw [hσ_16]; exact frL_rl), j2, i3', Int32.le_trans i4 q.2.2.2.1, q.2.2.2.2.1, fun a b ha hb => ?_⟩
          rw [bs a b (by omega), i6 a b ha hb]
          constructor
          · rintro ((z | z) | z)
            · exact Or.inl z
            · refine Or.inr ⟨z.1, ?_⟩
              rw [edI_s i0 q.2.2.2.2.2.2 (by rw [z.1]; exact i4)]
              exact Or.inl z.2
            · refine Or.inr ⟨z.1, ?_⟩
              rw [edI_s i0 q.2.2.2.2.2.2 (by rw [z.1]; exact i4), z.1, z.2]
              exact Or.inr j8
          · rintro (z | z)
            · exact Or.inl (Or.inl z)
            · obtain ⟨ze, z⟩ := z
              rw [edI_s i0 q.2.2.2.2.2.2 (by rw [ze]; exact i4)] at z
              rcases z with z | z
              · exact Or.inl (Or.inr ⟨ze, z⟩)
              · exact Or.inr ⟨ze, by rw [← z.2.1, j5]⟩
      obtain ⟨a1', a2', a3', i1, i2, i3', i4, i5, i6⟩ := i50
      have i0 : 0 ≤ x50_5 := Int32.le_trans st.1.1 i4
      have n1 : σ.2.2.1 76 (x32_4 + 1).toNatClampNeg ≤ 20000 := by rw [st.2.2.2.1]; exact Int32.le_trans st.2.2.1 hO.2.2.1.2
      refine ⟨ib_1001.mpr ?_, ?_⟩
      · clear h; rw [i2]; exact ⟨st.2.2.2.2.2.1, st.2.2.2.2.2.2⟩  -- b30
      refine ⟨fun c18 => ?_, fun c18 => ?_⟩
      · skip
        intro x19 hx19
        refine ⟨_, cn_lt2 hn32 ?_ ?_, rfl, ?_⟩
        · clear h; rw [hx19, i2]; exact u.1  -- d31
        · clear h; rw [hx19, i2]; exact u.2.1  -- d32
        · clear h; rw [hx19, i2]
          have e : x50_5 = σ.2.2.1 76 (x32_4.toNatClampNeg + 1) := by
            rw [i2, i1.2.2.1] at c18
            rw [← st.2.2.2.1]
            exact Int32.le_antisymm i5 c18
          refine ⟨a1', a2', a3', i1, u.2.2.1, u.2.2.2.1, fun a b ha hb => ?_⟩
          rw [i6 a b ha hb, cn_succ y2 (Int32.lt_trans u.2.2.2.2.2 (by decide))]
          constructor
          · rintro (z | z)
            · exact ⟨by omega, z.2⟩
            · refine ⟨by omega, ?_⟩
              have z2 := z.2
              rw [e] at z2
              rw [z.1] at z2 ⊢
              exact z2
          · rintro ⟨z1, z2⟩
            by_cases ea : a = x32_4.toNatClampNeg
            · refine Or.inr ⟨ea, ?_⟩
              rw [e]
              rw [ea] at z2 ⊢
              exact z2
            · exact Or.inl ⟨by omega, z2⟩
      · skip
        have c18' : ¬ σ.2.2.1 76 (x32_4 + 1).toNatClampNeg ≤ x50_5 := by rw [i2, i1.2.2.1] at c18; exact c18
        have q := u2 i0 c18' n1
        have i72 : x50_5 < σ.1 72 := by have := st.2.2.1; rw [← st.2.2.2.1] at this; exact Int32.lt_of_lt_of_le q.2.2.2.2.2.1 this
        have sk : (∀ b, ¬ edg σ a1 a2 a3 x32_4.toNatClampNeg x50_5 b) → x50_1 = a1 ∧ x50_2 = a2 ∧ x50_3 = a3 ∧ frL σ σ50 ∧ x50_4 = x32_4 ∧ ¬ σ.1 70 ≤ x32_4 ∧ σ.2.2.1 76 x32_4.toNatClampNeg ≤ x50_5 + 1 ∧ x50_5 + 1 ≤ σ.2.2.1 76 (x32_4 + 1).toNatClampNeg ∧ ∀ a b, a < (σ.1 70).toNatClampNeg → b < (σ.1 70).toNatClampNeg → (bR (σ50.2.2.2 86) a b = true ↔ (a < x32_4.toNatClampNeg ∧ edN σ a1 a2 a3 a b) ∨ (a = x32_4.toNatClampNeg ∧ edI σ a1 a2 a3 a (x50_5 + 1) b)) := fun ne => by
          refine ⟨a1', a2', a3', i1, i2, i3', Int32.le_trans i4 q.2.2.2.1, q.2.2.2.2.1, fun a b ha hb => ?_⟩
          rw [i6 a b ha hb]
          constructor
          · rintro (z | z)
            · exact Or.inl z
            · refine Or.inr ⟨z.1, ?_⟩
              rw [edI_s i0 q.2.2.2.2.2.2 (by rw [z.1]; exact i4)]
              exact Or.inl z.2
          · rintro (z | z)
            · exact Or.inl z
            · obtain ⟨ze, z⟩ := z
              rw [edI_s i0 q.2.2.2.2.2.2 (by rw [ze]; exact i4)] at z
              rcases z with z | z
              · exact Or.inr ⟨ze, z⟩
              · rw [ze] at z; exact absurd z (ne b)
        refine ⟨ib_20000.mpr ?_, ?_⟩
        · clear h; exact ⟨i0, q.2.2.2.2.2.2⟩  -- b34
        intro x20 hx20
        refine ⟨ib_20000.mpr ?_, ?_⟩
        · clear h; exact ⟨i0, q.2.2.2.2.2.2⟩  -- b35
        refine ⟨fun c21 => ?_, fun c21 => ?_⟩
        · skip
          intro x22 hx22
          refine ⟨_, cn_lt2 hn50 ?_ ?_, rfl, ?_⟩
          · clear h; rw [hx22]; exact q.1  -- d36
          · clear h; rw [hx22]; exact q.2.1  -- d37
          · clear h; rw [hx22]; rw [i1.2.2.1] at c21; exact sk (fun b z => c21 z.1)  -- i38
        · skip
          rw [i1.2.2.1] at c21 hx20
          have nx := ex_nx hO i0 i72 c21
          refine isTaken_c hC  ?_ (fun r23 q25 => ?_)
          · clear h; rw [i2]; exact ⟨y2, u.2.2.2.2.2⟩  -- p39
          have tk : r23 ≠ 0 ↔ (a1 = 0 ∨ σ.2.2.1 81 x32_4.toNatClampNeg = 0 ∨ x50_5 = σ.2.2.1 76 x32_4.toNatClampNeg + σ.2.2.1 83 x32_4.toNatClampNeg) := by rw [q25.2, a1', i2, rd, rd, rd, i1.2.2.1]
          refine ⟨fun c26 => ?_, fun c26 => ?_⟩
          · skip
            intro x27 hx27
            refine ⟨_, cn_lt2 hn50 ?_ ?_, rfl, ?_⟩
            · clear h; rw [hx27]; exact q.1  -- d40
            · clear h; rw [hx27]; exact q.2.1  -- d41
            · clear h; rw [hx27]; exact sk (fun b z => tk.mpr z.2.2.1 c26)  -- i42
          · skip
            refine ⟨fun c28 => ?_, fun c28 => ?_⟩
            · skip
              refine hj113 _ _ _ _ _ _ _ ?_
              · clear h; rw [a3'] at c28
                have nx : 0 ≤ x20 ∧ x20 < σ.1 70 := by rw [hx20]; exact nx
                exact ⟨a1', a2', a3', rfl, i2, rfl, c18', hx20, nx.1, nx.2, c21, by rw [hx20], tk.mp c26, Or.inl c28⟩
            · skip
              refine ⟨1000, ?_, ?_, ?_⟩
              · clear h; rw [a2']; rcases ho with z | z <;> (rw [z]; rfl)  -- t44
              · clear h; rw [i2]; exact ib_1000.mpr ⟨y2, u.2.2.2.2.2⟩  -- b45
              refine ⟨fun c29 => ?_, fun c29 => ?_⟩
              · skip
                intro x30 hx30
                refine ⟨_, cn_lt2 hn50 ?_ ?_, rfl, ?_⟩
                · clear h; rw [hx30]; exact q.1  -- d46
                · clear h; rw [hx30]; exact q.2.1  -- d47
                · clear h; rw [hx30]
                  rw [i1.2.2.1, a2', i2] at c29
                  rw [a3'] at c28
                  refine sk (fun b z => ?_)
                  rcases z.2.2.2 with y | y
                  · exact y c28
                  · exact y.1 c29
              · skip
                refine ⟨1000, ?_, ?_, ?_⟩
                · clear h; rw [a2']; rcases ho with z | z <;> (rw [z]; rfl)  -- t49
                · clear h; rw [hx20]; exact ib_1000.mpr ⟨nx.1, Int32.lt_of_lt_of_le nx.2 hO.1.2⟩  -- b50
                refine ⟨fun c31 => ?_, fun c31 => ?_⟩
                · skip
                  intro x32 hx32
                  refine ⟨_, cn_lt2 hn50 ?_ ?_, rfl, ?_⟩
                  · clear h; rw [hx32]; exact q.1  -- d51
                  · clear h; rw [hx32]; exact q.2.1  -- d52
                  · clear h; rw [hx32]
                    rw [i1.2.2.1, a2', hx20] at c31
                    rw [a3'] at c28
                    refine sk (fun b z => ?_)
                    rcases z.2.2.2 with y | y
                    · exact y c28
                    · exact y.2 (by rw [← z.2.1]; exact c31)
                · skip
                  refine hj113 _ _ _ _ _ _ _ ?_
                  · clear h; rw [i1.2.2.1, a2', i2] at c29
                    rw [i1.2.2.1, a2'] at c31
                    have nx : 0 ≤ x20 ∧ x20 < σ.1 70 := by rw [hx20]; exact nx
                    exact ⟨a1', a2', a3', rfl, i2, rfl, c18', hx20, nx.1, nx.2, c21, by rw [hx20], tk.mp c26, Or.inr ⟨c29, c31⟩⟩
  · skip
    obtain ⟨z1, z2, z3, y1, y2, y3, y4⟩ := i3
    have t := z16 hO.1.1 hO.1.2 y2 (by rw [← y1.1]; exact c1)
    refine ⟨ib_16000.mpr ?_, ?_⟩
    · clear h; exact ⟨y2, t.2.2.2.2.1⟩  -- b55
    intro σ_33 hσ_33
    intro x34 hx34
    refine ⟨_, cn_lt2 hn3 ?_ ?_, rfl, ?_⟩
    · clear h; rw [hx34]; exact t.1  -- d56
    · clear h; rw [hx34]; exact t.2.1  -- d57
    · clear h; rw [hx34]
      refine ⟨z1, z2, z3, frL_tr y1 (by rw [hσ_33]; exact frL_rl), t.2.2.1, t.2.2.2.1, fun w hw => ?_⟩
      rw [cn_succ y2 t.2.2.2.2.2] at hw
      rw [hσ_33, rl5]
      by_cases e : w = x3_4.toNatClampNeg
      · rw [if_pos e]
      · rw [if_neg e]; exact y4 w (by omega)
