set_option maxHeartbeats 1600000
/-! the reference: what the nexts of a state weigh -/
theorem sI_c {f g : Nat → Int} : ∀ {n : Nat}, (∀ i, i < n → f i = g i) → sI f n = sI g n
  | 0, _ => rfl
  | n + 1, h => by
    show sI f n + f n = sI g n + g n
    rw [sI_c (n := n) (fun i hi => h i (by omega)), h n (by omega)]
theorem sI_le {f g : Nat → Int} : ∀ {n : Nat}, (∀ i, i < n → f i ≤ g i) → sI f n ≤ sI g n
  | 0, _ => Int.le_refl _
  | n + 1, h => Int.add_le_add (sI_le (n := n) fun i hi => h i (by omega)) (h n (by omega))
theorem sI_z : ∀ {n : Nat}, sI (fun _ => 0) n = 0
  | 0 => rfl
  | n + 1 => by
    show sI (fun _ => 0) n + 0 = 0
    rw [sI_z (n := n)]; rfl
theorem sI_nn {f : Nat → Int} {n : Nat} (h : ∀ i, i < n → 0 ≤ f i) : 0 ≤ sI f n := by
  have a := sI_le (f := fun _ => 0) (g := f) h
  rwa [sI_z] at a
theorem sI_lt {f g : Nat → Int} {j : Nat} : ∀ {n : Nat}, (∀ i, i < n → f i ≤ g i) → j < n → f j < g j → sI f n < sI g n
  | 0, _, h, _ => absurd h (Nat.not_lt_zero j)
  | n + 1, h, hj, hl => by
    show sI f n + f n < sI g n + g n
    by_cases e : j = n
    · have a := sI_le (f := f) (g := g) (n := n) (fun i hi => h i (by omega))
      rw [e] at hl
      omega
    · have a := sI_lt (f := f) (g := g) (n := n) (fun i hi => h i (by omega)) (by omega) hl
      have b := h n (by omega)
      omega
theorem sI_mn {f : Nat → Int} {m n : Nat} (h : ∀ i, i < n → 0 ≤ f i) (hm : m ≤ n) : sI f m ≤ sI f n := by
  induction n with
  | zero => rw [show m = 0 by omega]; exact Int.le_refl _
  | succ n ih =>
    by_cases e : m = n + 1
    · rw [e]; exact Int.le_refl _
    · have a := ih (fun i hi => h i (by omega)) (by omega)
      have b := h n (by omega)
      show sI f m ≤ sI f n + f n
      omega
theorem sI_ad {f g : Nat → Int} : ∀ {n : Nat}, sI (fun i => f i + g i) n = sI f n + sI g n
  | 0 => rfl
  | n + 1 => by
    show sI (fun i => f i + g i) n + (f n + g n) = sI f n + f n + (sI g n + g n)
    rw [sI_ad (n := n)]; omega
theorem sI_cm {f : Nat → Nat → Int} {n : Nat} : ∀ {m : Nat}, sI (fun a => sI (fun b => f a b) n) m = sI (fun b => sI (fun a => f a b) m) n
  | 0 => sI_z.symm
  | m + 1 => by
    show sI (fun a => sI (fun b => f a b) n) m + sI (fun b => f m b) n = sI (fun b => sI (fun a => f a b) m + f m b) n
    rw [sI_ad, sI_cm (m := m)]
theorem sI_one {c : Nat} {x : Int} : ∀ {n : Nat}, sI (fun d => if d = c then x else 0) n = if c < n then x else 0
  | 0 => rfl
  | n + 1 => by
    show sI (fun d => if d = c then x else 0) n + (if n = c then x else 0) = if c < n + 1 then x else 0
    rw [sI_one (n := n)]
    split <;> split <;> split <;> omega
theorem ws_I {r : Nat → Int32} : ∀ {n : Nat}, wsum r n = sI (fun j => (r j).toInt) n
  | 0 => rfl
  | n + 1 => by
    show wsum r n + (r n).toInt = sI (fun j => (r j).toInt) n + (r n).toInt
    rw [ws_I (n := n)]
/-- the weight of next i of state s, 0 if it is not taken -/
def twI (σ : rS) (s i : Nat) : Int := if σ.2.2.1 81 s = 0 then (σ.2.2.1 79 i).toInt else if i = (σ.2.2.1 76 s + σ.2.2.1 83 s).toNatClampNeg then 1 else 0
def wcI (σ : rS) (s : Nat) (t : Int32) (i : Nat) : Int := if σ.2.2.1 77 i = 0 ∧ σ.2.2.1 78 i = t then twI σ s i else 0
def loN (σ : rS) (s : Nat) : Nat := (σ.2.2.1 76 s).toNatClampNeg
def leN (σ : rS) (s : Nat) : Nat := (σ.2.2.1 76 (s + 1)).toNatClampNeg - loN σ s
/-- what state s gives to state t with its first n nexts -/
def wpI (σ : rS) (s : Nat) (t : Int32) (n : Nat) : Int := sI (fun d => wcI σ s t (loN σ s + d)) n
def wKI (σ : rS) (s : Nat) (t : Int32) : Int := wpI σ s t (leN σ s)
def tTI (σ : rS) (s : Nat) : Int := if σ.2.2.1 81 s = 0 then (σ.2.2.1 80 s).toInt else 1
/-- states in order, and a plan within them -/
def pOK (σ : rS) : Prop := exO σ ∧ ∀ j : Int32, 0 ≤ j → j < σ.1 70 → rd σ 81 j ≠ 0 → 0 ≤ rd σ 83 j ∧ rd σ 83 j < rd σ 76 (j + 1) - rd σ 76 j
theorem pOK_of {σ : rS} (h : exP σ) : pOK σ := ⟨h.1, fun j j0 j1 => (h.2.2.1 j j0 j1).2⟩
theorem sub_n {a b p : Int32} (a0 : 0 ≤ a) (ab : a < b) (b1 : b ≤ 20000) (p0 : 0 ≤ p) (p1 : p < b - a) : (a + p).toNatClampNeg = a.toNatClampNeg + p.toNatClampNeg ∧ p.toNatClampNeg < b.toNatClampNeg - a.toNatClampNeg ∧ 0 ≤ a + p ∧ a + p < b := by
  have x1 : 0 ≤ a + p := by grind
  have x2 : a + p < b := by grind
  have ta := t0 a0
  have tp := t0 p0
  have tb := ti b1
  have tab := Int32.lt_iff_toInt_lt.mp ab
  have tp1 : p.toInt ≤ 20000 := by
    have z : p ≤ 20000 := by grind
    exact ti z
  rw [show (20000 : Int32).toInt = 20000 from rfl] at tb
  have e : (a + p).toInt = a.toInt + p.toInt := by
    rw [Int32.toInt_add]
    exact Int.bmod_eq_of_le (by omega) (by omega)
  have l := Int32.lt_iff_toInt_lt.mp x2
  have c1 := cn_int a0
  have c2 := cn_int p0
  have c3 := cn_int x1
  have c4 := cn_int (x := b) (by grind)
  exact ⟨by omega, by omega, x1, x2⟩
theorem tw_nn {σ : rS} {j : Int32} (h : pOK σ) (j0 : 0 ≤ j) (j1 : j < σ.1 70) {d : Nat} (hd : d < leN σ j.toNatClampNeg) : 0 ≤ twI σ j.toNatClampNeg (loN σ j.toNatClampNeg + d) := by
  have s := h.1.2.2.2.1 j j0 j1
  have st := ex_st h.1 j0 j1
  unfold twI
  split
  · have z := s.2.2.1 (loN σ j.toNatClampNeg + d) (Nat.le_add_right ..) (by unfold leN loN at *; rw [rd, st.2.2.2.1]; omega)
    have z2 := Int32.le_iff_toInt_le.mp z
    rw [show (1 : Int32).toInt = 1 from rfl] at z2
    omega
  · split <;> omega
theorem tT_sum {σ : rS} {j : Int32} (h : pOK σ) (j0 : 0 ≤ j) (j1 : j < σ.1 70) : sI (fun d => twI σ j.toNatClampNeg (loN σ j.toNatClampNeg + d)) (leN σ j.toNatClampNeg) = tTI σ j.toNatClampNeg := by
  have s := h.1.2.2.2.1 j j0 j1
  have st := ex_st h.1 j0 j1
  by_cases e : σ.2.2.1 81 j.toNatClampNeg = 0
  · unfold tTI
    rw [if_pos e, sI_c (g := fun d => (σ.2.2.1 79 (loN σ j.toNatClampNeg + d)).toInt) (fun i _ => by unfold twI; rw [if_pos e])]
    have z := (s.2.2.2.1 e).1
    rw [wOf, ws_I, rd, rd, rd, st.2.2.2.1] at z
    exact z.symm
  · have p := h.2 j j0 j1 e
    have s1 := s.1
    rw [rd, rd, rd, st.2.2.2.1] at p
    rw [rd, rd, st.2.2.2.1] at s1
    have q := sub_n s1.1 s1.2.1 (Int32.le_trans s1.2.2 h.1.2.2.1.2) p.1 p.2
    unfold tTI
    rw [if_neg e, sI_c (g := fun d => if d = (σ.2.2.1 83 j.toNatClampNeg).toNatClampNeg then 1 else 0) (fun i _ => by unfold twI loN; rw [if_neg e, q.1]; split <;> split <;> omega), sI_one, if_pos]
    exact q.2.1
theorem tT_b {σ : rS} {j : Int32} (h : pOK σ) (j0 : 0 ≤ j) (j1 : j < σ.1 70) : 1 ≤ tTI σ j.toNatClampNeg ∧ tTI σ j.toNatClampNeg ≤ 8000000 := by
  have s := h.1.2.2.2.1 j j0 j1
  have st := ex_st h.1 j0 j1
  by_cases e : σ.2.2.1 81 j.toNatClampNeg = 0
  · constructor
    · rw [← tT_sum h j0 j1]
      have s1 := s.1
      rw [rd, rd, st.2.2.2.1] at s1
      have l := cn_lt s1.1 s1.2.1
      have z := s.2.2.1 (loN σ j.toNatClampNeg) (Nat.le_refl _) (by rw [rd, st.2.2.2.1]; exact l)
      have z2 := Int32.le_iff_toInt_le.mp z
      rw [show (1 : Int32).toInt = 1 from rfl] at z2
      have g := sI_lt (f := fun _ => 0) (g := fun d => twI σ j.toNatClampNeg (loN σ j.toNatClampNeg + d)) (j := 0) (n := leN σ j.toNatClampNeg) (fun i hi => tw_nn h j0 j1 hi) (by unfold leN loN; omega) (by unfold twI; rw [if_pos e, Nat.add_zero]; omega)
      rw [sI_z] at g
      omega
    · unfold tTI
      rw [if_pos e]
      exact Int32.le_iff_toInt_le.mp (s.2.2.2.1 e).2
  · unfold tTI
    rw [if_neg e]
    omega
theorem wc_b {σ : rS} {j t : Int32} (h : pOK σ) (j0 : 0 ≤ j) (j1 : j < σ.1 70) {d : Nat} (hd : d < leN σ j.toNatClampNeg) : 0 ≤ wcI σ j.toNatClampNeg t (loN σ j.toNatClampNeg + d) ∧ wcI σ j.toNatClampNeg t (loN σ j.toNatClampNeg + d) ≤ twI σ j.toNatClampNeg (loN σ j.toNatClampNeg + d) := by
  have z := tw_nn h j0 j1 hd
  unfold wcI
  split
  · exact ⟨z, Int.le_refl _⟩
  · exact ⟨Int.le_refl _, z⟩
theorem wp_b {σ : rS} {j t : Int32} (h : pOK σ) (j0 : 0 ≤ j) (j1 : j < σ.1 70) {n : Nat} (hn : n ≤ leN σ j.toNatClampNeg) : 0 ≤ wpI σ j.toNatClampNeg t n ∧ wpI σ j.toNatClampNeg t n ≤ tTI σ j.toNatClampNeg := by
  unfold wpI
  refine ⟨sI_nn (fun i hi => (wc_b h j0 j1 (by omega)).1), ?_⟩
  rw [← tT_sum h j0 j1]
  exact Int.le_trans (sI_le (fun i hi => (wc_b h j0 j1 (by omega)).2)) (sI_mn (fun i hi => tw_nn h j0 j1 hi) hn)
/-- members that differ take each next once -/
theorem wc_m {σ : rS} {M : Nat → Int32} {m : Nat} (hM : ∀ a b, a < m → b < m → M a = M b → a = b) {s i : Nat} (h0 : 0 ≤ twI σ s i) : 0 ≤ sI (fun b => wcI σ s (M b) i) m ∧ sI (fun b => wcI σ s (M b) i) m ≤ twI σ s i ∧ ((σ.2.2.1 77 i ≠ 0 ∨ ∀ b, b < m → σ.2.2.1 78 i ≠ M b) → sI (fun b => wcI σ s (M b) i) m = 0) := by
  by_cases e : σ.2.2.1 77 i = 0 ∧ ∃ c, c < m ∧ σ.2.2.1 78 i = M c
  · obtain ⟨e1, c, hc, e2⟩ := e
    rw [sI_c (g := fun b => if b = c then twI σ s i else 0) (fun b hb => by
      unfold wcI
      by_cases z : b = c
      · rw [if_pos ⟨e1, by rw [z]; exact e2⟩, if_pos z]
      · rw [if_neg (fun y => z (hM b c hb hc (y.2.symm.trans e2))), if_neg z]), sI_one, if_pos hc]
    refine ⟨h0, Int.le_refl _, fun z => ?_⟩
    rcases z with z | z
    · exact absurd e1 z
    · exact absurd e2 (z c hc)
  · rw [sI_c (g := fun _ => 0) (fun b hb => by
      unfold wcI
      rw [if_neg (fun y => e ⟨y.1, b, hb, y.2⟩)]), sI_z]
    exact ⟨Int.le_refl _, h0, fun _ => rfl⟩
theorem wK_m {σ : rS} {M : Nat → Int32} {m : Nat} (hM : ∀ a b, a < m → b < m → M a = M b → a = b) {j : Int32} (h : pOK σ) (j0 : 0 ≤ j) (j1 : j < σ.1 70) : sI (fun b => wKI σ j.toNatClampNeg (M b)) m ≤ tTI σ j.toNatClampNeg ∧ ∀ i : Int32, σ.2.2.1 76 j.toNatClampNeg ≤ i → i < σ.2.2.1 76 (j.toNatClampNeg + 1) → 0 < twI σ j.toNatClampNeg i.toNatClampNeg → (σ.2.2.1 77 i.toNatClampNeg ≠ 0 ∨ ∀ b, b < m → σ.2.2.1 78 i.toNatClampNeg ≠ M b) → sI (fun b => wKI σ j.toNatClampNeg (M b)) m < tTI σ j.toNatClampNeg := by
  have st := ex_st h.1 j0 j1
  unfold wKI wpI
  rw [← tT_sum h j0 j1, sI_cm (f := fun b d => wcI σ j.toNatClampNeg (M b) (loN σ j.toNatClampNeg + d))]
  refine ⟨sI_le (fun i hi => (wc_m hM (tw_nn h j0 j1 hi)).2.1), fun i i0 i1 hw hn => ?_⟩
  have l := cn_l i0 st.1.1
  have u := cn_lt (Int32.le_trans st.1.1 i0) i1
  have e : loN σ j.toNatClampNeg + (i.toNatClampNeg - loN σ j.toNatClampNeg) = i.toNatClampNeg := by unfold loN; omega
  refine sI_lt (j := i.toNatClampNeg - loN σ j.toNatClampNeg) (fun i hi => (wc_m hM (tw_nn h j0 j1 hi)).2.1) (by unfold leN loN; omega) ?_
  show sI (fun a => wcI σ j.toNatClampNeg (M a) (loN σ j.toNatClampNeg + (i.toNatClampNeg - loN σ j.toNatClampNeg))) m < twI σ j.toNatClampNeg (loN σ j.toNatClampNeg + (i.toNatClampNeg - loN σ j.toNatClampNeg))
  rw [e, (wc_m (M := M) (m := m) hM (Int.le_of_lt hw)).2.2 hn]
  exact hw
