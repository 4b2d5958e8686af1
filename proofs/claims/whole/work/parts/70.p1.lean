section
set_option maxHeartbeats 1600000
/-! the reference: endings and nexts are kept -/
theorem xe {k i : Int32} (k0 : 0 ≤ k) (k1 : k < 1000) (i0 : 0 ≤ i) (i1 : i < 34) : (0 ≤ 35 * k + 1 + i ∧ 35 * k + 1 + i < 35000) ∧ 0 ≤ 35 * k ∧ 35 * k < 35000 := by grind
theorem le_ne {x n : Int32} (h0 : 0 ≤ x) (h1 : x ≤ n) (hn : n ≤ 20000) (h : ¬ x = n) : x < n ∧ 0 ≤ x + 1 ∧ x ≤ x + 1 ∧ x + 1 ≤ n ∧ x + 1 - 1 = x ∧ x < x + 1 := by grind
theorem endingNumber_c {C : rCx} (hC : cOK C)  {σ : rS}  {Q : Int32 → rS → Prop} (hp : 0 ≤ σ.1 71 ∧ σ.1 71 ≤ 1000) (h : ∀ (v : Int32) (σ' : rS), (frG [71] [75] σ σ' ∧ (0 ≤ σ'.1 71 ∧ σ.1 71 ≤ σ'.1 71 ∧ σ'.1 71 ≤ 1000) ∧ (v = -1 ∨ (0 ≤ v ∧ v < σ'.1 71))) → Q v σ') : cI C 0 m_endingNumber [.ref (co C)] σ Q := by
  refine m_endingNumber_run hC ?_
  unfold w_endingNumber_0
  unfold w_endingNumber_2
  refine ⟨fun n l1 τ => n = (σ.1 71 - l1).toNatClampNeg ∧ (σ = τ ∧ 0 ≤ l1 ∧ l1 ≤ σ.1 71), ⟨_, rfl, ?_⟩, ?_⟩
  · clear h; exact ⟨rfl, by decide, hp.1⟩  -- j1
  rintro n2 x2_1 _ ⟨hn2, rfl, i2⟩
  have hj78 : ∀ (l1 : Int32) (l2 : Int32) (τ : rS), (σ = τ ∧ l1 = x2_1 ∧ ¬ σ.1 71 ≤ x2_1) → w_endingNumber_78 C Q (fun l1' τ => ∃ k < n2, (fun n l1 τ => n = (σ.1 71 - l1).toNatClampNeg ∧ (σ = τ ∧ 0 ≤ l1 ∧ l1 ≤ σ.1 71)) k l1' τ) l1 l2 τ := by
    rintro y78_1 y78_2 _ ⟨rfl, j78⟩
    unfold w_endingNumber_78
    have u := uk i2.1 j78.2 hp.2
    refine ⟨fun c1 => ?_, fun c1 => ?_⟩
    · skip
      intro x2 hx2
      refine ⟨_, cn_lt2 hn2 ?_ ?_, rfl, ?_⟩
      · clear h; rw [hx2, j78.1]; exact u.1  -- d2
      · clear h; rw [hx2, j78.1]; exact u.2.1  -- d3
      · clear h; rw [hx2, j78.1]; exact ⟨rfl, u.2.2.1, u.2.2.2.1⟩  -- i4
    · skip
      refine h _ _ ?_
      · clear h; rw [j78.1]; exact ⟨frG_refl, ⟨hp.1, Int32.le_refl _, hp.2⟩, Or.inr ⟨i2.1, u.2.2.2.2.1⟩⟩  -- q5
  have hj31 : ∀ (l1 : Int32) (s0 : Int32) (τ : rS), (σ = τ ∧ l1 = x2_1 ∧ ¬ σ.1 71 ≤ x2_1 ∧ nb s0) → w_endingNumber_31 C Q (fun l1' τ => ∃ k < n2, (fun n l1 τ => n = (σ.1 71 - l1).toNatClampNeg ∧ (σ = τ ∧ 0 ≤ l1 ∧ l1 ≤ σ.1 71)) k l1' τ) l1 s0 τ := by
    rintro y31_1 y31_s0 _ ⟨rfl, j31⟩
    unfold w_endingNumber_31
    unfold w_endingNumber_34
    refine ⟨fun n l1 l2 l3 τ => n = (34 - l3).toNatClampNeg ∧ (σ = τ ∧ l1 = x2_1 ∧ nb l2 ∧ 0 ≤ l3 ∧ l3 ≤ 34), ⟨_, rfl, ?_⟩, ?_⟩
    · clear h; exact ⟨rfl, j31.1, j31.2.2, by decide, by decide⟩  -- j6
    rintro n34 x34_1 x34_2 x34_3 _ ⟨hn34, rfl, i34⟩
    have hj71 : ∀ (l1 : Int32) (l3 : Int32) (s0 : Int32) (τ : rS), (σ = τ ∧ l1 = x2_1 ∧ l3 = x34_3 ∧ ¬ 34 ≤ x34_3 ∧ nb s0) → w_endingNumber_71 C Q (fun l1' τ => ∃ k < n2, (fun n l1 τ => n = (σ.1 71 - l1).toNatClampNeg ∧ (σ = τ ∧ 0 ≤ l1 ∧ l1 ≤ σ.1 71)) k l1' τ) (fun l1' l2' l3' τ => ∃ k < n34, (fun n l1 l2 l3 τ => n = (34 - l3).toNatClampNeg ∧ (σ = τ ∧ l1 = x2_1 ∧ nb l2 ∧ 0 ≤ l3 ∧ l3 ≤ 34)) k l1' l2' l3' τ) l1 l3 s0 τ := by
      rintro y71_1 y71_3 y71_s0 _ ⟨rfl, j71⟩
      unfold w_endingNumber_71
      intro x3 hx3
      have u := up34 i34.2.2.1 j71.2.2.1
      refine ⟨_, cn_lt2 hn34 ?_ ?_, rfl, ?_⟩
      · clear h; rw [hx3, j71.2.1]; exact u.1  -- d7
      · clear h; rw [hx3, j71.2.1]; exact u.2.1  -- d8
      · clear h; rw [hx3, j71.2.1]; exact ⟨rfl, j71.1, j71.2.2.2, u.2.2.1, u.2.2.2.1⟩  -- i9
    refine ⟨fun c4 => ?_, fun c4 => ?_⟩
    · skip
      refine hj78 _ _ _ ?_
      · clear h; exact ⟨rfl, i34.1, j31.2.1⟩  -- k10
    · skip
      refine ⟨fun c5 => ?_, fun c5 => ?_⟩
      · skip
        refine hj78 _ _ _ ?_
        · clear h; exact ⟨rfl, i34.1, j31.2.1⟩  -- k11
      · skip
        have u := up34 i34.2.2.1 c4
        have z := xe i2.1 (uk i2.1 j31.2.1 hp.2).2.2.2.2.2 i34.2.2.1 u.2.2.2.2
        refine ⟨ib_35000.mpr ?_, ?_⟩
        · clear h; rw [i34.1]; exact z.1  -- b12
        refine ⟨ib_34.mpr ?_, ?_⟩
        · clear h; exact ⟨i34.2.2.1, u.2.2.2.2⟩  -- b13
        refine ⟨fun c6 => ?_, fun c6 => ?_⟩
        · skip
          refine hj71 _ _ _ _ ?_
          · clear h; exact ⟨rfl, i34.1, rfl, c4, nb_0⟩  -- k14
        · skip
          refine hj71 _ _ _ _ ?_
          · clear h; exact ⟨rfl, i34.1, rfl, c4, nb_1⟩  -- k15
  refine ⟨fun c7 => ?_, fun c7 => ?_⟩
  · skip
    refine ⟨fun c8 => ?_, fun c8 => ?_⟩
    · skip
      refine ⟨ib_35000.mpr ?_, ?_⟩
      · clear h; have lt := le_ne hp.1 hp.2 (by decide) c8
        exact (xe hp.1 lt.1 (Int32.le_refl 0) (by decide)).2
      intro σ_9 hσ_9
      unfold w_endingNumber_120
      refine ⟨fun n l1 τ => n = (34 - l1).toNatClampNeg ∧ (frG [] [75] σ τ ∧ 0 ≤ l1 ∧ l1 ≤ 34), ⟨_, rfl, ?_⟩, ?_⟩
      · clear h; exact ⟨by rw [hσ_9]; exact frG_1 (by decide), by decide, by decide⟩  -- j17
      rintro n120 x120_1 σ120 ⟨hn120, i120⟩
      refine ⟨fun c10 => ?_, fun c10 => ?_⟩
      · skip
        intro σ_11 hσ_11
        refine h _ _ ?_
        · clear h; have lt := le_ne hp.1 hp.2 (by decide) c8
          have e71 : σ_11.1 71 = σ.1 71 + 1 := by rw [hσ_11, si1, if_pos rfl, i120.1.1 71 (by decide)]
          rw [e71, lt.2.2.2.2.1]
          exact ⟨frG_tr (frG_mono i120.1 (by decide) (by decide)) (by rw [hσ_11]; exact frG_0 (by decide)), ⟨lt.2.1, lt.2.2.1, lt.2.2.2.1⟩, Or.inr ⟨hp.1, lt.2.2.2.2.2⟩⟩
      · skip
        have u := up34 i120.2.1 c10
        refine ⟨ib_34.mpr ?_, ?_⟩
        · clear h; exact ⟨i120.2.1, u.2.2.2.2⟩  -- b19
        refine ⟨ib_35000.mpr ?_, ?_⟩
        · clear h; have lt := le_ne hp.1 hp.2 (by decide) c8
          rw [i120.1.1 71 (by decide)]; exact (xe hp.1 lt.1 i120.2.1 u.2.2.2.2).1
        intro σ_12 hσ_12
        intro x13 hx13
        refine ⟨_, cn_lt2 hn120 ?_ ?_, rfl, ?_⟩
        · clear h; rw [hx13]; exact u.1  -- d21
        · clear h; rw [hx13]; exact u.2.1  -- d22
        · clear h; rw [hx13]; exact ⟨frG_tr i120.1 (by rw [hσ_12]; exact frG_1 (by decide)), u.2.2.1, u.2.2.2.1⟩  -- i23
    · skip
      refine h _ _ ?_
      · clear h; exact ⟨frG_refl, ⟨hp.1, Int32.le_refl _, hp.2⟩, Or.inl rfl⟩  -- q24
  · skip
    refine ⟨ib_35000.mpr ?_, ?_⟩
    · clear h; exact (xe i2.1 (uk i2.1 c7 hp.2).2.2.2.2.2 (Int32.le_refl 0) (by decide)).2  -- b25
    refine ⟨fun c14 => ?_, fun c14 => ?_⟩
    · skip
      refine hj31 _ _ _ ?_
      · clear h; exact ⟨rfl, rfl, c7, nb_0⟩  -- k26
    · skip
      refine hj31 _ _ _ ?_
      · clear h; exact ⟨rfl, rfl, c7, nb_1⟩  -- k27

/-- ranges of the numbers of states, endings, nexts -/
def exRR9 (σ : rS) : Prop := (0 ≤ σ.1 70 ∧ σ.1 70 ≤ σ.1 85 ∧ σ.1 85 ≤ 1000) ∧ (0 ≤ σ.1 71 ∧ σ.1 71 ≤ 1000) ∧ (0 ≤ σ.1 72 ∧ σ.1 72 ≤ 20000)
/-- a next in order -/
def nxE (σ : rS) (i : Nat) : Prop := (σ.2.2.1 77 i = 0 ∨ σ.2.2.1 77 i = 1 ∨ σ.2.2.1 77 i = 2 ∨ σ.2.2.1 77 i = 3) ∧ (σ.2.2.1 77 i = 0 → 0 ≤ σ.2.2.1 78 i ∧ σ.2.2.1 78 i < σ.1 70) ∧ (σ.2.2.1 77 i = 1 → 0 ≤ σ.2.2.1 78 i ∧ σ.2.2.1 78 i < σ.1 71)
/-- the sum of n weights from a on -/
def wOf (r : Nat → Int32) (a n : Nat) : Int := wsum (fun j => r (a + j)) n
/-- rows of states stay in order, new ones are -/
def rwKR9 (σ σ' : rS) : Prop := (∀ k : Int32, 0 ≤ k → k < σ.1 70 → rowOK σ k → rowOK σ' k) ∧ (∀ k : Int32, 0 ≤ k → σ.1 70 ≤ k → k < σ'.1 70 → rowOK σ' k)
/-- what a next that was added or joined changes -/
def anQ (σ σ' : rS) (a w joins : Int32) : Prop := (∀ i, i < (σ.1 72).toNatClampNeg → nxE σ i → nxE σ' i) ∧ (∀ i, (σ.1 72).toNatClampNeg ≤ i → i < (σ'.1 72).toNatClampNeg → nxE σ' i) ∧ (∀ i, i < a.toNatClampNeg → σ'.2.2.1 79 i = σ.2.2.1 79 i) ∧ (∀ i, a.toNatClampNeg ≤ i → i < (σ'.1 72).toNatClampNeg → 1 ≤ σ'.2.2.1 79 i) ∧ wOf (σ'.2.2.1 79) a.toNatClampNeg ((σ'.1 72).toNatClampNeg - a.toNatClampNeg) = wOf (σ.2.2.1 79) a.toNatClampNeg ((σ.1 72).toNatClampNeg - a.toNatClampNeg) + w.toInt ∧ a < σ'.1 72 ∧ (joins = 0 → σ'.1 72 = σ.1 72 + 1)
abbrev anF : List Nat := [70, 71, 72]
abbrev anR : List Nat := [73, 74, 75, 77, 78, 79, 84]
/-- a next's number was found -/
def anS (σ τ : rS) (h s : Int32) : Prop := frG [70, 71] [73, 74, 75, 84] σ τ ∧ exRR9 τ ∧ (σ.1 70 ≤ τ.1 70 ∧ σ.1 71 ≤ τ.1 71) ∧ rwKR9 σ τ ∧ (h = 0 → 0 ≤ s ∧ s < τ.1 70) ∧ (h = 1 → 0 ≤ s ∧ s < τ.1 71)
theorem wsum_congr {f g : Nat → Int32} {n : Nat} (h : ∀ j, j < n → f j = g j) : wsum f n = wsum g n := by
  induction n with
  | zero => rfl
  | succ n ih =>
    show wsum f n + (f n).toInt = wsum g n + (g n).toInt
    rw [ih (fun j hj => h j (by omega)), h n (by omega)]
theorem wsum_upd {f : Nat → Int32} {n k : Nat} {x : Int32} (hk : k < n) : wsum (upd f k x) n = wsum f n + (x.toInt - (f k).toInt) := by
  induction n with
  | zero => omega
  | succ n ih =>
    show wsum (upd f k x) n + (upd f k x n).toInt = wsum f n + (f n).toInt + (x.toInt - (f k).toInt)
    by_cases e : k = n
    · subst e
      rw [upd_eq, wsum_congr (fun j hj => upd_ne (by omega) : ∀ j, j < k → upd f k x j = f j)]
      omega
    · rw [ih (by omega), upd_ne (fun z => e z.symm)]
      omega
theorem wsum_ge {f : Nat → Int32} {n k : Nat} (h : ∀ j, j < n → 0 ≤ (f j).toInt) (hk : k < n) : (f k).toInt ≤ wsum f n := by
  induction n with
  | zero => omega
  | succ n ih =>
    show (f k).toInt ≤ wsum f n + (f n).toInt
    have hn := h n (by omega)
    have h0 : 0 ≤ wsum f n := by
      clear ih hk hn
      induction n with
      | zero => exact Int.le_refl _
      | succ n ih =>
        have := ih (fun j hj => h j (by omega))
        have := h n (by omega)
        show 0 ≤ wsum f n + (f n).toInt
        omega
    by_cases e : k = n
    · subst e; omega
    · have := ih (fun j hj => h j (by omega)) (by omega)
      omega
theorem wOf_app {r : Nat → Int32} {a n : Nat} {x : Int32} : wOf (upd r (a + n) x) a (n + 1) = wOf r a n + x.toInt := by
  show wsum (fun j => upd r (a + n) x (a + j)) n + (upd r (a + n) x (a + n)).toInt = _
  rw [upd_eq, wsum_congr (fun j hj => upd_ne (by omega) : ∀ j, j < n → upd r (a + n) x (a + j) = r (a + j))]
  rfl
theorem wOf_upd {r : Nat → Int32} {a n k : Nat} {x : Int32} (hk : k < n) : wOf (upd r (a + k) x) a n = wOf r a n + (x.toInt - (r (a + k)).toInt) := by
  have e : (fun j => upd r (a + k) x (a + j)) = upd (fun j => r (a + j)) k x := by
    funext j
    unfold upd
    by_cases z : j = k
    · rw [if_pos (by omega), if_pos z]
    · rw [if_neg (by omega), if_neg z]
  show wsum (fun j => upd r (a + k) x (a + j)) n = _
  rw [e, wsum_upd hk]
  rfl
theorem nx_mono {σ υ : rS} {i : Nat} (h : nxE σ i) (h77 : υ.2.2.1 77 i = σ.2.2.1 77 i) (h78 : υ.2.2.1 78 i = σ.2.2.1 78 i) (h70 : σ.1 70 ≤ υ.1 70) (h71 : σ.1 71 ≤ υ.1 71) : nxE υ i := by
  unfold nxE
  rw [h77, h78]
  exact ⟨h.1, fun z => ⟨(h.2.1 z).1, Int32.lt_of_lt_of_le (h.2.1 z).2 h70⟩, fun z => ⟨(h.2.2 z).1, Int32.lt_of_lt_of_le (h.2.2 z).2 h71⟩⟩
theorem cn_l {x y : Int32} (h : x ≤ y) (h0 : 0 ≤ x) : x.toNatClampNeg ≤ y.toNatClampNeg := by
  have h1 := ti h
  have e1 := cn_int h0
  have e2 := cn_int (Int32.le_trans h0 h)
  omega
theorem rw_o {σ τ υ : rS} (h : rwKR9 σ τ) (h73 : υ.2.2.1 73 = τ.2.2.1 73) (h30 : υ.2.2.1 30 = τ.2.2.1 30) (h19 : υ.1 19 = τ.1 19) (h70 : υ.1 70 = τ.1 70) : rwKR9 σ υ := by
  refine ⟨fun k k0 k1 r => row_o (h.1 k k0 k1 r) h73 h30 h19, fun k k0 k1 k2 => row_o (h.2 k k0 k1 (by rw [← h70]; exact k2)) h73 h30 h19⟩
theorem an_app {σ τ υ : rS} {h s a w j : Int32} (q : anS σ τ h s) (hh : h = 0 ∨ h = 1 ∨ h = 2 ∨ h = 3) (h0 : 0 ≤ a) (h1 : a ≤ σ.1 72) (hw : 1 ≤ w) (hg : ∀ i, a.toNatClampNeg ≤ i → i < (σ.1 72).toNatClampNeg → 1 ≤ σ.2.2.1 79 i) (c : ¬ τ.1 72 = 20000) (e : ∀ k, k ≠ 72 → υ.1 k = τ.1 k) (e72 : υ.1 72 = τ.1 72 + 1) (r77 : υ.2.2.1 77 = upd (τ.2.2.1 77) (τ.1 72).toNatClampNeg h) (r78 : υ.2.2.1 78 = upd (τ.2.2.1 78) (τ.1 72).toNatClampNeg s) (r79 : υ.2.2.1 79 = upd (τ.2.2.1 79) (τ.1 72).toNatClampNeg w) : exRR9 υ ∧ σ.1 72 ≤ υ.1 72 ∧ anQ σ υ a w j := by
  obtain ⟨f, hR, hm, hk, n0, n1⟩ := q
  have d72 : τ.1 72 = σ.1 72 := f.1 72 (by decide)
  have lt := le_ne hR.2.2.1 hR.2.2.2 (by decide) c
  rw [d72] at lt
  rw [d72] at e72 r77 r78 r79
  have en : (υ.1 72).toNatClampNeg = (σ.1 72).toNatClampNeg + 1 := by rw [e72]; exact cn_succ (Int32.le_trans h0 h1) (Int32.lt_trans lt.1 (by decide))
  have t77 : τ.2.2.1 77 = σ.2.2.1 77 := f.2.2.1 77 (by decide)
  have t78 : τ.2.2.1 78 = σ.2.2.1 78 := f.2.2.1 78 (by decide)
  have t79 : τ.2.2.1 79 = σ.2.2.1 79 := f.2.2.1 79 (by decide)
  rw [t77] at r77
  rw [t78] at r78
  rw [t79] at r79
  have la := cn_l h1 h0
  have x70 := e 70 (by decide)
  have x71 := e 71 (by decide)
  refine ⟨⟨by rw [x70, e 85 (by decide)]; exact hR.1, by rw [x71]; exact hR.2.1, by rw [e72]; exact ⟨lt.2.1, lt.2.2.2.1⟩⟩, by rw [e72]; exact lt.2.2.1, fun i hi hx => ?_, fun i hi hi2 => ?_, fun i hi => ?_, fun i hi hi2 => ?_, ?_, ?_, fun _ => e72⟩
  · exact nx_mono hx (by rw [r77, upd_ne (by omega)]) (by rw [r78, upd_ne (by omega)]) (by rw [x70]; exact hm.1) (by rw [x71]; exact hm.2)
  · have ei : i = (σ.1 72).toNatClampNeg := by omega
    unfold nxE
    rw [r77, r78, ei, upd_eq, upd_eq, x70, x71]
    exact ⟨hh, n0, n1⟩
  · rw [r79, upd_ne (by omega)]
  · rw [r79]
    by_cases z : i = (σ.1 72).toNatClampNeg
    · rw [z, upd_eq]; exact hw
    · rw [upd_ne z]; exact hg i hi (by omega)
  · rw [en, r79, show (σ.1 72).toNatClampNeg + 1 - a.toNatClampNeg = ((σ.1 72).toNatClampNeg - a.toNatClampNeg) + 1 by omega]
    have z := wOf_app (r := σ.2.2.1 79) (a := a.toNatClampNeg) (n := (σ.1 72).toNatClampNeg - a.toNatClampNeg) (x := w)
    rw [show a.toNatClampNeg + ((σ.1 72).toNatClampNeg - a.toNatClampNeg) = (σ.1 72).toNatClampNeg by omega] at z
    exact z
  · rw [e72]; exact Int32.lt_of_le_of_lt h1 lt.2.2.2.2.2
theorem an_join {σ τ υ : rS} {h s a w j k : Int32} (q : anS σ τ h s) (h0 : 0 ≤ a) (h1 : a ≤ σ.1 72) (hw : 1 ≤ w) (hg : ∀ i, a.toNatClampNeg ≤ i → i < (σ.1 72).toNatClampNeg → 1 ≤ σ.2.2.1 79 i) (hs : wOf (σ.2.2.1 79) a.toNatClampNeg ((σ.1 72).toNatClampNeg - a.toNatClampNeg) + w.toInt ≤ 8000000) (k0 : a ≤ k) (k1 : k < σ.1 72) (hj : ¬ j = 0) (e : ∀ k, υ.1 k = τ.1 k) (r77 : υ.2.2.1 77 = τ.2.2.1 77) (r78 : υ.2.2.1 78 = τ.2.2.1 78) (r79 : υ.2.2.1 79 = upd (τ.2.2.1 79) k.toNatClampNeg (τ.2.2.1 79 k.toNatClampNeg + w)) : exRR9 υ ∧ σ.1 72 ≤ υ.1 72 ∧ anQ σ υ a w j := by
  obtain ⟨f, hR, hm, hk, n0, n1⟩ := q
  have d72 : υ.1 72 = σ.1 72 := (e 72).trans (f.1 72 (by decide))
  have t77 : τ.2.2.1 77 = σ.2.2.1 77 := f.2.2.1 77 (by decide)
  have t78 : τ.2.2.1 78 = σ.2.2.1 78 := f.2.2.1 78 (by decide)
  have t79 : τ.2.2.1 79 = σ.2.2.1 79 := f.2.2.1 79 (by decide)
  rw [t77] at r77
  rw [t78] at r78
  rw [t79] at r79
  have la := cn_l k0 h0
  have lk := cn_lt (Int32.le_trans h0 k0) k1
  have ge := wsum_ge (f := fun j => σ.2.2.1 79 (a.toNatClampNeg + j)) (n := (σ.1 72).toNatClampNeg - a.toNatClampNeg) (k := k.toNatClampNeg - a.toNatClampNeg) (fun j hj => t0 (Int32.le_trans (by decide) (hg _ (by omega) (by omega)))) (by omega)
  have ge' : (σ.2.2.1 79 k.toNatClampNeg).toInt ≤ wOf (σ.2.2.1 79) a.toNatClampNeg ((σ.1 72).toNatClampNeg - a.toNatClampNeg) := by
    have z : a.toNatClampNeg + (k.toNatClampNeg - a.toNatClampNeg) = k.toNatClampNeg := by omega
    simp only [z] at ge
    exact ge
  have w1 := hg k.toNatClampNeg la lk
  have p1 : 0 ≤ σ.2.2.1 79 k.toNatClampNeg := Int32.le_trans (by decide) w1
  have p2 : 0 ≤ w := Int32.le_trans (by decide) hw
  have ad := i_add p1 p2 (by omega)
  have w1' := ti w1
  have hw' := ti hw
  rw [show (1 : Int32).toInt = 1 from rfl] at w1' hw'
  refine ⟨⟨by rw [e 70, e 85]; exact hR.1, by rw [e 71]; exact hR.2.1, by rw [e 72]; exact hR.2.2⟩, by rw [d72]; exact Int32.le_refl _, fun i hi hx => ?_, fun i hi hi2 => ?_, fun i hi => ?_, fun i hi hi2 => ?_, ?_, ?_, fun z => absurd z hj⟩
  · exact nx_mono hx (by rw [r77]) (by rw [r78]) (by rw [e 70]; exact hm.1) (by rw [e 71]; exact hm.2)
  · rw [d72] at hi2; omega
  · rw [r79, upd_ne (by omega)]
  · rw [d72] at hi2
    rw [r79]
    by_cases z : i = k.toNatClampNeg
    · rw [z, upd_eq]
      refine Int32.le_iff_toInt_le.mpr ?_
      rw [ad, show (1 : Int32).toInt = 1 from rfl]
      omega
    · rw [upd_ne z]; exact hg i hi hi2
  · rw [d72, r79]
    have z := wOf_upd (r := σ.2.2.1 79) (a := a.toNatClampNeg) (n := (σ.1 72).toNatClampNeg - a.toNatClampNeg) (k := k.toNatClampNeg - a.toNatClampNeg) (x := σ.2.2.1 79 k.toNatClampNeg + w) (by omega)
    rw [show a.toNatClampNeg + (k.toNatClampNeg - a.toNatClampNeg) = k.toNatClampNeg by omega, ad] at z
    rw [z]; omega
  · rw [d72]; exact Int32.lt_of_le_of_lt k0 k1
theorem u2 {x n : Int32} (h0 : 0 ≤ x) (h : ¬ n ≤ x) (hn : n ≤ 20000) : 0 ≤ n - (x + 1) ∧ n - (x + 1) < n - x ∧ 0 ≤ x + 1 ∧ x ≤ x + 1 ∧ x + 1 ≤ n ∧ x < n ∧ x < 20000 := by grind
theorem addNext_c {C : rCx} (hC : cOK C)  {σ : rS} {a1 : Int32} {a2 : Int32} {a3 : Int32} {a4 : Int32} {Q : Int32 → rS → Prop} (hp : exRR9 σ ∧ (a1 = 0 ∨ a1 = 1 ∨ a1 = 2 ∨ a1 = 3) ∧ (a1 = 0 → csF σ) ∧ 0 ≤ a4 ∧ a4 ≤ σ.1 72 ∧ 1 ≤ a2 ∧ (∀ i, a4.toNatClampNeg ≤ i → i < (σ.1 72).toNatClampNeg → 1 ≤ σ.2.2.1 79 i) ∧ wOf (σ.2.2.1 79) a4.toNatClampNeg ((σ.1 72).toNatClampNeg - a4.toNatClampNeg) + a2.toInt ≤ 8000000) (h : ∀ (v : Int32) (σ' : rS), (frG anF anR σ σ' ∧ exRR9 σ' ∧ (σ.1 70 ≤ σ'.1 70 ∧ σ.1 71 ≤ σ'.1 71 ∧ σ.1 72 ≤ σ'.1 72) ∧ rwKR9 σ σ' ∧ nb v ∧ (v ≠ 0 → anQ σ σ' a4 a2 a3)) → Q v σ') : cI C 3 m_addNext [.ref (co C), .int a1, .int a2, .int a3, .int a4] σ Q := by
  refine m_addNext_run hC ?_
  unfold w_addNext_0
  obtain ⟨hR, hh, hc, h0, h1, hw, hg, hs⟩ := hp
  have hj110 : ∀ (l1 : Int32) (l2 : Int32) (l5 : Int32) (τ : rS), (l1 = a1 ∧ l2 = a2 ∧ anS σ τ a1 l5) → w_addNext_110 C Q  l1 l2 l5 τ := by
    rintro y110_1 y110_2 y110_5 τ110 j110
    unfold w_addNext_110
    obtain ⟨z1, z2, z3⟩ := j110
    have b72 : 0 ≤ τ110.1 72 ∧ τ110.1 72 < 20000 → True := fun _ => trivial
    refine ⟨fun c1 => ?_, fun c1 => ?_⟩
    · skip
      refine ⟨ib_20000.mpr ?_, ?_⟩
      · clear h; exact ⟨z3.2.1.2.2.1, (le_ne z3.2.1.2.2.1 z3.2.1.2.2.2 (by decide) c1).1⟩  -- b1
      intro σ_2 hσ_2
      refine ⟨ib_20000.mpr ?_, ?_⟩
      · clear h; rw [hσ_2, ri1]; exact ⟨z3.2.1.2.2.1, (le_ne z3.2.1.2.2.1 z3.2.1.2.2.2 (by decide) c1).1⟩  -- b2
      intro σ_3 hσ_3
      refine ⟨ib_20000.mpr ?_, ?_⟩
      · clear h; rw [hσ_3, ri1, hσ_2, ri1]; exact ⟨z3.2.1.2.2.1, (le_ne z3.2.1.2.2.1 z3.2.1.2.2.2 (by decide) c1).1⟩  -- b3
      intro σ_4 hσ_4
      intro σ_5 hσ_5
      refine h _ _ ?_
      · clear h; have e5 : ∀ k, k ≠ 72 → σ_5.1 k = τ110.1 k := fun k hk => by rw [hσ_5, si1, if_neg hk, hσ_4, ri1, hσ_3, ri1, hσ_2, ri1]
        have e72 : σ_5.1 72 = τ110.1 72 + 1 := by rw [hσ_5, si1, if_pos rfl, hσ_4, ri1, hσ_3, ri1, hσ_2, ri1]
        have r77 : σ_5.2.2.1 77 = upd (τ110.2.2.1 77) (τ110.1 72).toNatClampNeg a1 := by rw [hσ_5, si2, hσ_4, ri3 (by decide), hσ_3, ri3 (by decide), hσ_2, ri_row, z1]
        have r78 : σ_5.2.2.1 78 = upd (τ110.2.2.1 78) (τ110.1 72).toNatClampNeg y110_5 := by rw [hσ_5, si2, hσ_4, ri3 (by decide), hσ_3, ri_row, hσ_2, ri1, ri3 (by decide)]
        have r79 : σ_5.2.2.1 79 = upd (τ110.2.2.1 79) (τ110.1 72).toNatClampNeg a2 := by rw [hσ_5, si2, hσ_4, ri_row, hσ_3, ri1, ri3 (by decide), hσ_2, ri1, ri3 (by decide), z2]
        have w := an_app (j := a3) z3 hh h0 h1 hw hg c1 e5 e72 r77 r78 r79
        have fr : frG anF anR τ110 σ_5 := by rw [hσ_5, hσ_4, hσ_3, hσ_2]; exact frG_tr (frG_tr (frG_tr (frG_1 (by decide)) (frG_1 (by decide))) (frG_1 (by decide))) (frG_0 (by decide))
        exact ⟨frG_tr (frG_mono z3.1 (by decide) (by decide)) fr, w.1, ⟨by rw [e5 70 (by decide)]; exact z3.2.2.1.1, by rw [e5 71 (by decide)]; exact z3.2.2.1.2, w.2.1⟩, rw_o z3.2.2.2.1 (by rw [hσ_5, si2, hσ_4, ri3 (by decide), hσ_3, ri3 (by decide), hσ_2, ri3 (by decide)]) (by rw [hσ_5, si2, hσ_4, ri3 (by decide), hσ_3, ri3 (by decide), hσ_2, ri3 (by decide)]) (e5 19 (by decide)) (e5 70 (by decide)), nb_1, fun _ => w.2.2⟩
    · skip
      refine h _ _ ?_
      · clear h; exact ⟨frG_mono z3.1 (by decide) (by decide), z3.2.1, ⟨z3.2.2.1.1, z3.2.2.1.2, by rw [z3.1.1 72 (by decide)]; exact Int32.le_refl _⟩, z3.2.2.2.1, nb_0, fun z => absurd rfl z⟩  -- q5
  have hh55 : ∀ (l1 : Int32) (l2 : Int32) (l3 : Int32) (l5 : Int32) (l6 : Int32) (τ : rS), (l1 = a1 ∧ l2 = a2 ∧ l3 = a3 ∧ anS σ τ a1 l5 ∧ a4 ≤ l6 ∧ l6 ≤ σ.1 72) → w_addNext_55 C Q  l1 l2 l3 l5 l6 τ := by
    intro z1 z2 z3 z5 z6 τi hinit
    unfold w_addNext_55
    refine ⟨fun n l1 l2 l3 l5 l6 τ => n = (τ.1 72 - l6).toNatClampNeg ∧ (l1 = a1 ∧ l2 = a2 ∧ l3 = a3 ∧ anS σ τ a1 l5 ∧ a4 ≤ l6 ∧ l6 ≤ σ.1 72), ⟨_, rfl, hinit⟩, ?_⟩
    clear hinit
    rintro n55 x55_1 x55_2 x55_3 x55_5 x55_6 σ55 ⟨hn55, i55⟩
    obtain ⟨z1, z2, z3, y1, y2, y3⟩ := i55
    have e72 : σ55.1 72 = σ.1 72 := y1.1.1 72 (by decide)
    have p0 : 0 ≤ x55_6 := Int32.le_trans h0 y2
    refine ⟨fun c6 => ?_, fun c6 => ?_⟩
    · skip
      refine hj110 _ _ _ _ ?_
      · clear h; exact ⟨z1, z2, y1⟩  -- k6
    · skip
      refine ⟨fun c7 => ?_, fun c7 => ?_⟩
      · skip
        refine hj110 _ _ _ _ ?_
        · clear h; exact ⟨z1, z2, y1⟩  -- k7
      · skip
        have u := u2 p0 c6 y1.2.1.2.2.2
        refine ⟨ib_20000.mpr ?_, ?_⟩
        · clear h; exact ⟨p0, u.2.2.2.2.2.2⟩  -- b8
        refine ⟨fun c8 => ?_, fun c8 => ?_⟩
        · skip
          intro x9 hx9
          refine ⟨_, cn_lt2 hn55 ?_ ?_, rfl, ?_⟩
          · clear h; rw [hx9]; exact u.1  -- d9
          · clear h; rw [hx9]; exact u.2.1  -- d10
          · clear h; rw [hx9]; exact ⟨z1, z2, z3, y1, Int32.le_trans y2 u.2.2.2.1, by rw [← e72]; exact u.2.2.2.2.1⟩  -- i11
        · skip
          refine ⟨ib_20000.mpr ?_, ?_⟩
          · clear h; exact ⟨p0, u.2.2.2.2.2.2⟩  -- b12
          refine ⟨fun c10 => ?_, fun c10 => ?_⟩
          · skip
            intro x11 hx11
            refine ⟨_, cn_lt2 hn55 ?_ ?_, rfl, ?_⟩
            · clear h; rw [hx11]; exact u.1  -- d13
            · clear h; rw [hx11]; exact u.2.1  -- d14
            · clear h; rw [hx11]; exact ⟨z1, z2, z3, y1, Int32.le_trans y2 u.2.2.2.1, by rw [← e72]; exact u.2.2.2.2.1⟩  -- i15
          · skip
            refine ⟨ib_20000.mpr ?_, ?_⟩
            · clear h; exact ⟨p0, u.2.2.2.2.2.2⟩  -- b16
            refine ⟨ib_20000.mpr ?_, ?_⟩
            · clear h; exact ⟨p0, u.2.2.2.2.2.2⟩  -- b17
            intro σ_12 hσ_12
            refine h _ _ ?_
            · clear h; have e12 : ∀ k, σ_12.1 k = σ55.1 k := fun k => by rw [hσ_12, ri1]
              have w := an_join (j := a3) y1 h0 h1 hw hg hs y2 (by rw [← e72]; exact u.2.2.2.2.2.1) (by rw [← z3]; exact c7) e12 (by rw [hσ_12, ri3 (by decide)]) (by rw [hσ_12, ri3 (by decide)]) (by rw [hσ_12, ri_row, z2])
              exact ⟨frG_tr (frG_mono y1.1 (by decide) (by decide)) (by rw [hσ_12]; exact frG_1 (by decide)), w.1, ⟨by rw [e12]; exact y1.2.2.1.1, by rw [e12]; exact y1.2.2.1.2, w.2.1⟩, rw_o y1.2.2.2.1 (by rw [hσ_12, ri3 (by decide)]) (by rw [hσ_12, ri3 (by decide)]) (e12 19) (e12 70), nb_1, fun _ => w.2.2⟩
  have hj36 : ∀ (l1 : Int32) (l2 : Int32) (l3 : Int32) (l4 : Int32) (s0 : Int32) (τ : rS), (l1 = a1 ∧ l2 = a2 ∧ l3 = a3 ∧ l4 = a4 ∧ frG [70, 71] [73, 74, 75, 84] σ τ ∧ exRR9 τ ∧ (σ.1 70 ≤ τ.1 70 ∧ σ.1 71 ≤ τ.1 71) ∧ rwKR9 σ τ ∧ (a1 = 0 → s0 = -1 ∨ (0 ≤ s0 ∧ s0 < τ.1 70)) ∧ (a1 = 1 → s0 = -1 ∨ (0 ≤ s0 ∧ s0 < τ.1 71))) → w_addNext_36 C Q  l1 l2 l3 l4 s0 τ := by
    rintro y36_1 y36_2 y36_3 y36_4 y36_s0 τ36 j36
    unfold w_addNext_36
    obtain ⟨z1, z2, z3, z4, y1, y2, y3, y4, y5, y6⟩ := j36
    refine ⟨fun c13 => ?_, fun c13 => ?_⟩
    · skip
      refine hh55 _ _ _ _ _ _ ?_
      · clear h; exact ⟨z1, z2, z3, ⟨y1, y2, y3, y4, fun z => Or.resolve_left (y5 z) c13, fun z => Or.resolve_left (y6 z) c13⟩, by rw [z4]; exact Int32.le_refl _, by rw [z4]; exact h1⟩  -- j19
    · skip
      refine ⟨fun c14 => ?_, fun c14 => ?_⟩
      · skip
        refine hh55 _ _ _ _ _ _ ?_
        · clear h; rw [z1] at c14
          exact ⟨z1, z2, z3, ⟨y1, y2, y3, y4, fun z => absurd c14 (by rw [z]; decide), fun z => absurd c14 (by rw [z]; decide)⟩, by rw [z4]; exact Int32.le_refl _, by rw [z4]; exact h1⟩
      · skip
        refine h _ _ ?_
        · clear h; exact ⟨frG_mono y1 (by decide) (by decide), y2, ⟨y3.1, y3.2, by rw [y1.1 72 (by decide)]; exact Int32.le_refl _⟩, y4, nb_0, fun z => absurd rfl z⟩  -- q21
  have self : rwKR9 σ σ := ⟨fun _ _ _ r => r, fun k _ k1 k2 => absurd k2 (Int32.not_lt.mpr k1)⟩
  refine ⟨fun c15 => ?_, fun c15 => ?_⟩
  · skip
    refine ⟨fun c16 => ?_, fun c16 => ?_⟩
    · skip
      refine ⟨fun c17 => ?_, fun c17 => ?_⟩
      · skip
        refine hj36 _ _ _ _ _ _ ?_
        · clear h; exact ⟨rfl, rfl, rfl, rfl, frG_refl, hR, ⟨Int32.le_refl _, Int32.le_refl _⟩, self, fun z => absurd z c15, fun z => absurd z c16⟩  -- k22
      · skip
        refine hj36 _ _ _ _ _ _ ?_
        · clear h; exact ⟨rfl, rfl, rfl, rfl, frG_refl, hR, ⟨Int32.le_refl _, Int32.le_refl _⟩, self, fun z => absurd z c15, fun z => absurd z c16⟩  -- k23
    · skip
      refine endingNumber_c hC  ?_ (fun r18 σ_19 q20 => ?_)
      · clear h; exact hR.2.1  -- p24
      refine hj36 _ _ _ _ _ _ ?_
      · clear h; have e := fun k hk => q20.1.1 k hk
        exact ⟨rfl, rfl, rfl, rfl, frG_mono q20.1 (by decide) (by decide), ⟨by rw [e 70 (by decide), e 85 (by decide)]; exact hR.1, ⟨q20.2.1.1, q20.2.1.2.2⟩, by rw [e 72 (by decide)]; exact hR.2.2⟩, ⟨by rw [e 70 (by decide)]; exact Int32.le_refl _, q20.2.1.2.1⟩, rw_o self (q20.1.2.2.1 73 (by decide)) (q20.1.2.2.1 30 (by decide)) (e 19 (by decide)) (e 70 (by decide)), fun z => absurd z c15, fun _ => q20.2.2⟩
  · skip
    refine stateNumber_c hC  ?_ (fun r21 σ_22 q23 => ?_)
    · clear h; exact ⟨hc c15, hR.1⟩  -- p26
    refine hj36 _ _ _ _ _ _ ?_
    · clear h; have e := fun k hk => q23.1.1 k hk
      exact ⟨rfl, rfl, rfl, rfl, frG_mono q23.1 (by decide) (by decide), ⟨⟨q23.2.1.1, by rw [e 85 (by decide)]; exact q23.2.1.2.2, by rw [e 85 (by decide)]; exact hR.1.2.2⟩, by rw [e 71 (by decide)]; exact hR.2.1, by rw [e 72 (by decide)]; exact hR.2.2⟩, ⟨q23.2.1.2.1, by rw [e 71 (by decide)]; exact Int32.le_refl _⟩, ⟨q23.2.2.2.1, q23.2.2.2.2⟩, fun _ => q23.2.2.1, fun z => absurd (c15.symm.trans z) (by decide)⟩

end
section
set_option maxHeartbeats 1600000
/-! the reference: a state is gone on from -/
/-- a state's nexts in order -/
def stOK (σ : rS) (j : Int32) : Prop := (0 ≤ rd σ 76 j ∧ rd σ 76 j < rd σ 76 (j + 1) ∧ rd σ 76 (j + 1) ≤ σ.1 72) ∧ nb (rd σ 81 j) ∧ (∀ i, (rd σ 76 j).toNatClampNeg ≤ i → i < (rd σ 76 (j + 1)).toNatClampNeg → 1 ≤ σ.2.2.1 79 i) ∧ (rd σ 81 j = 0 → (rd σ 80 j).toInt = wOf (σ.2.2.1 79) (rd σ 76 j).toNatClampNeg ((rd σ 76 (j + 1)).toNatClampNeg - (rd σ 76 j).toNatClampNeg) ∧ rd σ 80 j ≤ 8000000) ∧ (rd σ 81 j ≠ 0 → rd σ 76 (j + 1) - rd σ 76 j ≤ 8)
theorem wOf_congr {r r' : Nat → Int32} {a n : Nat} (h : ∀ i, a ≤ i → i < a + n → r' i = r i) : wOf r' a n = wOf r a n := wsum_congr (fun j hj => h (a + j) (by omega) (by omega))
theorem stOK_m {σ τ : rS} {j : Int32} (h : stOK σ j) (h76 : rd τ 76 j = rd σ 76 j) (h76' : rd τ 76 (j + 1) = rd σ 76 (j + 1)) (h80 : rd τ 80 j = rd σ 80 j) (h81 : rd τ 81 j = rd σ 81 j) (h72 : σ.1 72 ≤ τ.1 72) (h79 : ∀ i, i < (rd σ 76 (j + 1)).toNatClampNeg → τ.2.2.1 79 i = σ.2.2.1 79 i) : stOK τ j := by
  obtain ⟨h1, h2, h3, h4, h5⟩ := h
  have l := cn_lt h1.1 h1.2.1
  unfold stOK
  rw [h76, h76', h80, h81]
  refine ⟨⟨h1.1, h1.2.1, Int32.le_trans h1.2.2 h72⟩, h2, fun i a b => by rw [h79 i b]; exact h3 i a b, fun z => ⟨?_, (h4 z).2⟩, h5⟩
  rw [wOf_congr (fun i _ hi => h79 i (by omega))]
  exact (h4 z).1
/-- ranges and rows while states are found, behind state σ -/
def exKR9 (σ τ : rS) (B T : Int32) : Prop := rI τ B T ∧ exRR9 τ ∧ (σ.1 70 ≤ τ.1 70 ∧ σ.1 71 ≤ τ.1 71 ∧ σ.1 72 ≤ τ.1 72) ∧ (∀ j : Int32, 0 ≤ j → j < τ.1 70 → rowOK τ j)
/-- the nexts so far, those of state k from number f on -/
def exWR9 (τ : rS) (k f : Int32) : Prop := (∀ i, i < (τ.1 72).toNatClampNeg → nxE τ i) ∧ (∀ j : Int32, 0 ≤ j → j < k → stOK τ j ∧ rd τ 76 (j + 1) ≤ f) ∧ rd τ 76 k = f ∧ f ≤ τ.1 72 ∧ 0 ≤ f ∧ (∀ i, f.toNatClampNeg ≤ i → i < (τ.1 72).toNatClampNeg → 1 ≤ τ.2.2.1 79 i)
abbrev exFR9 : List Nat := [10, 11, 12, 13, 46, 47, 48, 49, 58, 61, 62, 63, 66, 67, 70, 71, 72]
abbrev exRr : List Nat := [50, 51, 52, 57, 59, 60, 64, 65, 68, 73, 74, 75, 76, 77, 78, 79, 80, 81, 82, 84]
theorem rI_ex {σ τ : rS} {B T : Int32} (h : rI σ B T) (f : frG exFR9 exRr σ τ) : rI τ B T := by
  obtain ⟨h1, h2⟩ := h
  have rr := f.2.2.1
  have ff := f.1
  refine ⟨?_, progOK_L h1 h2 (fun t _ _ => by rw [rr 5 (by decide)]) (fun t _ _ => by rw [rr 7 (by decide)]) (fun t _ _ => by rw [rr 39 (by decide)]) (ff 18 (by decide)) (ff 19 (by decide)) (ff 40 (by decide)) (fun k hk j _ => ?_) (fun k hk j _ => ?_)⟩
  · obtain ⟨g1, g3, g4, g5, g6⟩ := h1
    refine ⟨?_, ?_, ?_, ?_, by rw [rr 37 (by decide)]; exact g6⟩
    · show tyF _ _ _ _ _ _ _ _
      rw [ff 15 (by decide), ff 16 (by decide), ff 17 (by decide), ff 18 (by decide), ff 19 (by decide), ff 40 (by decide), ff 41 (by decide), ff 42 (by decide)]
      exact g1
    · show tyN _ _ _ _ _ _
      rw [rr 20 (by decide), rr 22 (by decide), rr 25 (by decide), rr 28 (by decide), rr 26 (by decide), rr 27 (by decide)]
      exact g3
    · show tyA _ _
      rw [rr 23 (by decide), rr 24 (by decide)]
      exact g4
    · show tyS _ _ _ _ _ _ _ _
      rw [rr 29 (by decide), rr 33 (by decide), rr 34 (by decide), rr 35 (by decide), rr 36 (by decide), rr 38 (by decide), rr 43 (by decide), rr 44 (by decide)]
      exact g5
  · rcases hk with rfl | rfl | rfl | rfl | rfl | rfl | rfl | rfl
    · rw [rr 30 (by decide)]
    · rw [rr 31 (by decide)]
    · rw [rr 32 (by decide)]
    · rw [rr 33 (by decide)]
    · rw [rr 34 (by decide)]
    · rw [rr 35 (by decide)]
    · rw [rr 36 (by decide)]
    · rw [rr 37 (by decide)]
  · rcases hk with rfl | rfl
    · rw [rr 26 (by decide)]
    · rw [rr 29 (by decide)]
/-- a part of a state that leaves states and nexts as they are -/
theorem exK_o {σ τ υ : rS} {B T : Int32} (h : exKR9 σ τ B T) (f : frG exFR9 exRr τ υ) (h70 : υ.1 70 = τ.1 70) (h71 : υ.1 71 = τ.1 71) (h72 : υ.1 72 = τ.1 72) (h73 : υ.2.2.1 73 = τ.2.2.1 73) : exKR9 σ υ B T := by
  obtain ⟨h1, h2, h3, h4⟩ := h
  refine ⟨rI_ex h1 f, ?_, by rw [h70, h71, h72]; exact h3, fun j j0 j1 => row_o (h4 j j0 (by rw [← h70]; exact j1)) h73 (f.2.2.1 30 (by decide)) (f.1 19 (by decide))⟩
  unfold exRR9
  rw [h70, h71, h72, f.1 85 (by decide)]; exact h2
theorem exK_an {σ τ υ : rS} {B T : Int32} (h : exKR9 σ τ B T) (f : frG anF anR τ υ) (hR : exRR9 υ) (hm : τ.1 70 ≤ υ.1 70 ∧ τ.1 71 ≤ υ.1 71 ∧ τ.1 72 ≤ υ.1 72) (hk : rwKR9 τ υ) : exKR9 σ υ B T := by
  obtain ⟨h1, h2, h3, h4⟩ := h
  refine ⟨rI_ex h1 (frG_mono f (by decide) (by decide)), hR, ⟨Int32.le_trans h3.1 hm.1, Int32.le_trans h3.2.1 hm.2.1, Int32.le_trans h3.2.2 hm.2.2⟩, fun j j0 j1 => ?_⟩
  by_cases e : j < τ.1 70
  · exact hk.1 j j0 e (h4 j j0 e)
  · exact hk.2 j j0 (Int32.not_lt.mp e) j1
theorem j_k {j k : Int32} (j0 : 0 ≤ j) (h : j < k) (hk : k < 1000) : j + 1 ≤ k ∧ 0 ≤ j + 1 ∧ j ≠ k ∧ j < 1000 := by grind
theorem exW_o {τ υ : rS} {k f : Int32} (h : exWR9 τ k f) (hk : k < 1000) (h70 : υ.1 70 = τ.1 70) (h71 : υ.1 71 = τ.1 71) (h72 : υ.1 72 = τ.1 72) (h76 : υ.2.2.1 76 = τ.2.2.1 76) (h77 : υ.2.2.1 77 = τ.2.2.1 77) (h78 : υ.2.2.1 78 = τ.2.2.1 78) (h79 : υ.2.2.1 79 = τ.2.2.1 79) (h80 : ∀ j : Int32, 0 ≤ j → j < k → rd υ 80 j = rd τ 80 j) (h81 : ∀ j : Int32, 0 ≤ j → j < k → rd υ 81 j = rd τ 81 j) : exWR9 υ k f := by
  obtain ⟨a1, a2, a3, a4, a5, a6⟩ := h
  unfold exWR9
  rw [h72, h79]
  refine ⟨fun i hi => nx_mono (a1 i hi) (by rw [h77]) (by rw [h78]) (by rw [h70]; exact Int32.le_refl _) (by rw [h71]; exact Int32.le_refl _), fun j j0 j1 => ⟨stOK_m (a2 j j0 j1).1 (by rw [rd, h76]) (by rw [rd, h76]) (h80 j j0 j1) (h81 j j0 j1) (by rw [h72]; exact Int32.le_refl _) (fun i _ => by rw [h79]), by rw [rd, h76]; exact (a2 j j0 j1).2⟩, by rw [rd, h76]; exact a3, a4, a5, a6⟩
theorem exW_an {τ υ : rS} {k f w j' : Int32} (h : exWR9 τ k f) (fr : frG anF anR τ υ) (hm : τ.1 70 ≤ υ.1 70 ∧ τ.1 71 ≤ υ.1 71 ∧ τ.1 72 ≤ υ.1 72) (q : anQ τ υ f w j') : exWR9 υ k f := by
  obtain ⟨a1, a2, a3, a4, a5, a6⟩ := h
  obtain ⟨q1, q2, q3, q4, q5, q6, q7⟩ := q
  have r76 := fr.2.2.1 76 (by decide)
  refine ⟨fun i hi => ?_, fun j j0 j1 => ?_, by rw [rd, r76]; exact a3, Int32.le_of_lt q6, a5, q4⟩
  · by_cases e : i < (τ.1 72).toNatClampNeg
    · exact q1 i e (a1 i e)
    · exact q2 i (by omega) hi
  · have z := a2 j j0 j1
    have zl := cn_l z.2 (Int32.le_trans z.1.1.1 (Int32.le_of_lt z.1.1.2.1))
    exact ⟨stOK_m z.1 (by rw [rd, r76]) (by rw [rd, r76]) (by rw [rd, fr.2.2.1 80 (by decide)]) (by rw [rd, fr.2.2.1 81 (by decide)]) hm.2.2 (fun i hi => q3 i (by omega)), by rw [rd, r76]; exact z.2⟩
theorem wsum_mono {r : Nat → Int32} {m n : Nat} (h : ∀ i, i < n → 0 ≤ (r i).toInt) (hm : m ≤ n) : wsum r m ≤ wsum r n := by
  induction n with
  | zero => have : m = 0 := by omega
            subst this; exact Int.le_refl _
  | succ n ih =>
    by_cases e : m = n + 1
    · subst e; exact Int.le_refl _
    · have := ih (fun i hi => h i (by omega)) (by omega)
      have := h n (by omega)
      show wsum r m ≤ wsum r n + (r n).toInt
      omega
/-- outcomes ready to be gone into -/
def ouV (h : Int32) (τ : rS) : Prop := plV (τ.1 67) ∧ 1 ≤ τ.1 63 ∧ τ.1 63 ≤ 64 ∧ (∀ i, i < (τ.1 63).toNatClampNeg → 0 ≤ τ.2.2.1 65 i) ∧ 0 < wsum (τ.2.2.1 65) (τ.1 63).toNatClampNeg ∧ wsum (τ.2.2.1 65) (τ.1 63).toNatClampNeg ≤ 8000000 ∧ (h = 4 → (τ.1 66).toInt = wsum (τ.2.2.1 65) (τ.1 63).toNatClampNeg) ∧ (h = 5 → τ.1 63 ≤ 8 ∧ ∀ i, i < (τ.1 63).toNatClampNeg → τ.2.2.1 65 i = 1)
theorem wsum_ones {r : Nat → Int32} {n : Nat} (h : ∀ i, i < n → r i = 1) : wsum r n = n := by
  induction n with
  | zero => rfl
  | succ n ih =>
    show wsum r n + (r n).toInt = ((n + 1 : Nat) : Int)
    rw [ih (fun i hi => h i (by omega)), h n (by omega), show (1 : Int32).toInt = 1 from rfl]
    omega
theorem ou_of {v : Int32} {τ : rS} (h : acQ v τ) (hv : ¬ v < 4) : ouV v τ := by
  rcases h with ⟨rfl, -⟩ | rfl | rfl | rfl | ⟨rfl, -, p, a1, a2, a3, a4, a5, a6⟩ | ⟨rfl, -, p, a1, a2, a3⟩
  · exact absurd (by decide) hv
  · exact absurd (by decide) hv
  · exact absurd (by decide) hv
  · exact absurd (by decide) hv
  · have a5' := Int32.lt_iff_toInt_lt.mp a5
    have a6' := ti a6
    rw [Int32.toInt_zero] at a5'
    rw [show (8000000 : Int32).toInt = 8000000 from rfl] at a6'
    exact ⟨p, a1, a2, fun i hi => (a3 i hi).1, by rw [← a4]; exact a5', by rw [← a4]; exact a6', fun _ => a4, fun z => absurd z (by decide)⟩
  · have n8 : (τ.1 63).toNatClampNeg ≤ 8 := cn_le (y := 8) rfl a2
    have n1 : 0 < (τ.1 63).toNatClampNeg := by have := cn_lt (Int32.le_refl 0) (Int32.lt_of_lt_of_le (by decide : (0 : Int32) < 1) a1); omega
    have e := wsum_ones a3
    exact ⟨p, a1, Int32.le_trans a2 (by decide), fun i hi => by rw [a3 i hi]; decide, by rw [e]; omega, by rw [e]; omega, fun z => absurd z (by decide), fun _ => ⟨a2, a3⟩⟩
theorem ou_o {h : Int32} {τ υ : rS} (q : ouV h τ) (h67 : υ.1 67 = τ.1 67) (h63 : υ.1 63 = τ.1 63) (h66 : υ.1 66 = τ.1 66) (h65 : υ.2.2.1 65 = τ.2.2.1 65) : ouV h υ := by
  unfold ouV
  rw [h67, h63, h66, h65]; exact q
/-- while the outcomes of state k are gone into: the sums of weights so far -/
def exU (τ : rS) (k f how i : Int32) : Prop := exWR9 τ k f ∧ rd τ 81 k = (if how = 5 then 1 else 0) ∧ (how < 4 → f < τ.1 72 ∧ rd τ 80 k = 1 ∧ wOf (τ.2.2.1 79) f.toNatClampNeg ((τ.1 72).toNatClampNeg - f.toNatClampNeg) = 1) ∧ (¬ how < 4 → wOf (τ.2.2.1 79) f.toNatClampNeg ((τ.1 72).toNatClampNeg - f.toNatClampNeg) = wsum (τ.2.2.1 65) i.toNatClampNeg ∧ (how = 4 → rd τ 80 k = τ.1 66) ∧ (how = 5 → τ.1 72 = f + i))
/-- what is in order before state k is gone on from -/
def exV (σ : rS) (B T k : Int32) : Prop := rI σ B T ∧ exRR9 σ ∧ (∀ j : Int32, 0 ≤ j → j < σ.1 70 → rowOK σ j) ∧ (∀ i, i < (σ.1 72).toNatClampNeg → nxE σ i) ∧ (0 ≤ k ∧ k ≤ σ.1 70) ∧ (∀ j : Int32, 0 ≤ j → j < k → stOK σ j) ∧ (k = 0 → σ.1 72 = 0) ∧ (1 ≤ k → rd σ 76 k = σ.1 72)
theorem k1001 {k : Int32} (h0 : 0 ≤ k) (h1 : k < 1000) : 0 ≤ k + 1 ∧ k + 1 < 1001 ∧ k < 1001 ∧ k < k + 1 ∧ k ≠ k + 1 ∧ ¬ k + 1 = 0 := by grind
theorem j_kn {j k : Int32} (j0 : 0 ≤ j) (h1 : k < 1000) (h : j < k) : j ≠ k + 1 ∧ j + 1 ≠ k + 1 ∧ 0 ≤ j + 1 ∧ j ≠ k ∧ j + 1 ≤ k ∧ 1 ≤ k := by grind
theorem fx8 {a f x : Int32} (h : a = f + x) : a - f = x := by grind
theorem fx1 {a f x : Int32} (h : a = f + x) : a + 1 = f + (x + 1) := by grind
theorem fx0 {f : Int32} : f = f + 0 := by grind
theorem wOf_0 {r : Nat → Int32} {a m n : Nat} (h : m = n) : wOf r a (m - n) = 0 := by
  rw [show m - n = 0 by omega]; rfl
theorem exU_o {τ υ : rS} {k f h i : Int32} (q : exU τ k f h i) (hk : k < 1000) (h66 : υ.1 66 = τ.1 66) (h70 : υ.1 70 = τ.1 70) (h71 : υ.1 71 = τ.1 71) (h72 : υ.1 72 = τ.1 72) (hr : ∀ q, q = 65 ∨ q = 76 ∨ q = 77 ∨ q = 78 ∨ q = 79 ∨ q = 80 ∨ q = 81 → υ.2.2.1 q = τ.2.2.1 q) : exU υ k f h i := by
  obtain ⟨q1, q2, q3, q4⟩ := q
  refine ⟨exW_o q1 hk h70 h71 h72 (hr 76 (by decide)) (hr 77 (by decide)) (hr 78 (by decide)) (hr 79 (by decide)) (fun j _ _ => by rw [rd, hr 80 (by decide)]) (fun j _ _ => by rw [rd, hr 81 (by decide)]), by rw [rd, hr 81 (by decide)]; exact q2, ?_, ?_⟩
  · rw [h72, rd, hr 80 (by decide), hr 79 (by decide)]; exact q3
  · rw [h72, rd, hr 80 (by decide), hr 79 (by decide), hr 65 (by decide), h66]; exact q4
theorem exU_lt {τ : rS} {k f h i i' : Int32} (q : exU τ k f h i) (hh : h < 4) : exU τ k f h i' := ⟨q.1, q.2.1, q.2.2.1, fun z => absurd hh z⟩
theorem lt_of {a b : Int32} (h : a ≤ b) (hn : ¬ a = b) : a < b := by grind
theorem st_new {τ υ : rS} {k f h : Int32} (U : exU τ k f h (τ.1 63)) (ou : h < 4 ∨ ouV h τ) (hh : h < 4 ∨ h = 4 ∨ h = 5) (r76a : rd υ 76 k = f) (r76b : rd υ 76 (k + 1) = τ.1 72) (h72 : υ.1 72 = τ.1 72) (h79 : υ.2.2.1 79 = τ.2.2.1 79) (h80 : rd υ 80 k = rd τ 80 k) (h81 : rd υ 81 k = rd τ 81 k) : stOK υ k := by
  obtain ⟨⟨a1, a2, a3, a4, a5, a6⟩, q2, q3, q4⟩ := U
  unfold stOK
  rw [r76a, r76b, h72, h79, h80, h81, q2]
  refine ⟨⟨a5, ?_, Int32.le_refl _⟩, ?_, a6, fun z => ?_, fun z => ?_⟩
  · by_cases e : h < 4
    · exact (q3 e).1
    · refine lt_of a4 (fun z => ?_)
      have w := (q4 e).1
      rw [wOf_0 (by rw [z])] at w
      have o := Or.resolve_left ou e
      have := o.2.2.2.2.1
      omega
  · split
    · exact nb_1
    · exact nb_0
  · have n5 : ¬ h = 5 := fun e => by rw [if_pos e] at z; exact absurd z (by decide)
    by_cases e : h < 4
    · obtain ⟨-, w2, w3⟩ := q3 e
      rw [w2, w3]
      exact ⟨rfl, by decide⟩
    · have h4 : h = 4 := by
        rcases hh with y | y | y
        · exact absurd y e
        · exact y
        · exact absurd y n5
      obtain ⟨w1, w2, -⟩ := q4 e
      have o := Or.resolve_left ou e
      rw [w2 h4, w1]
      have o7 := o.2.2.2.2.2.2.1 h4
      refine ⟨o7, Int32.le_iff_toInt_le.mpr ?_⟩
      rw [o7, show (8000000 : Int32).toInt = 8000000 from rfl]
      exact o.2.2.2.2.2.1
  · have h5 : h = 5 := Decidable.byContradiction (fun e => by rw [if_neg e] at z; exact z rfl)
    have e : ¬ h < 4 := by rw [h5]; decide
    obtain ⟨-, -, w3⟩ := q4 e
    have o := Or.resolve_left ou e
    rw [fx8 (w3 h5)]
    exact (o.2.2.2.2.2.2.2 h5).1
theorem exW_0 {σ υ : rS} {B T k : Int32} (h : exV σ B T k) (hk : k < 1000) (e70 : υ.1 70 = σ.1 70) (e71 : υ.1 71 = σ.1 71) (e72 : υ.1 72 = σ.1 72) (r76 : υ.2.2.1 76 = upd (σ.2.2.1 76) k.toNatClampNeg (σ.1 72)) (hr : ∀ q, q = 77 ∨ q = 78 ∨ q = 79 ∨ q = 80 ∨ q = 81 → υ.2.2.1 q = σ.2.2.1 q) : exWR9 υ k (σ.1 72) := by
  obtain ⟨hI, hR, hrow, hnx, hk2, hst, hz, hns⟩ := h
  refine ⟨fun i hi => ?_, fun j j0 j1 => ?_, by rw [rd, r76, upd_eq], by rw [e72]; exact Int32.le_refl _, hR.2.2.1, fun i a b => by rw [e72] at b; omega⟩
  · rw [e72] at hi
    exact nx_mono (hnx i hi) (by rw [hr 77 (by decide)]) (by rw [hr 78 (by decide)]) (by rw [e70]; exact Int32.le_refl _) (by rw [e71]; exact Int32.le_refl _)
  · have w := j_kn j0 hk j1
    have s := hst j j0 j1
    have ea : rd υ 76 j = rd σ 76 j := by rw [rd, r76, upd_ne (cn_d j0 hk2.1 w.2.2.2.1)]
    have eb : rd υ 76 (j + 1) = rd σ 76 (j + 1) := by
      by_cases e : j + 1 = k
      · rw [e, rd, r76, upd_eq]; exact (hns w.2.2.2.2.2).symm
      · rw [rd, r76, upd_ne (cn_d w.2.2.1 hk2.1 e)]
    exact ⟨stOK_m s ea eb (by rw [rd, hr 80 (by decide)]) (by rw [rd, hr 81 (by decide)]) (by rw [e72]; exact Int32.le_refl _) (fun i _ => by rw [hr 79 (by decide)]), by rw [eb]; exact s.1.2.2⟩
theorem ac_o {v : Int32} {τ υ : rS} (h : acQ v τ) (hf : ∀ q, q = 19 ∨ q = 58 ∨ q = 63 ∨ q = 66 ∨ q = 67 → υ.1 q = τ.1 q) (hr : ∀ q, q = 30 ∨ q = 59 ∨ q = 65 → υ.2.2.1 q = τ.2.2.1 q) : acQ v υ := by
  have c : csF τ → csF υ := fun z => csF_o z (hr 59 (by decide)) (hr 30 (by decide)) (hf 19 (by decide)) (hf 58 (by decide))
  rcases h with h | h | h | h | ⟨h, a, b, d⟩ | ⟨h, a, b, d⟩
  · exact Or.inl ⟨h.1, c h.2⟩
  · exact Or.inr (Or.inl h)
  · exact Or.inr (Or.inr (Or.inl h))
  · exact Or.inr (Or.inr (Or.inr (Or.inl h)))
  · refine Or.inr (Or.inr (Or.inr (Or.inr (Or.inl ⟨h, c a, by rw [hf 67 (by decide)]; exact b, ?_⟩))))
    unfold oW
    rw [hf 63 (by decide), hf 66 (by decide), hr 65 (by decide)]; exact d
  · refine Or.inr (Or.inr (Or.inr (Or.inr (Or.inr ⟨h, c a, by rw [hf 67 (by decide)]; exact b, ?_⟩))))
    rw [hf 63 (by decide), hr 65 (by decide)]; exact d
theorem ac_3 {v : Int32} {τ : rS} (h : acQ v τ) : (v < 4 ∨ v = 4 ∨ v = 5) ∧ (¬ 4 ≤ v → (v = 0 ∨ v = 1 ∨ v = 2 ∨ v = 3) ∧ (v = 0 → csF τ)) := by
  rcases h with ⟨rfl, h⟩ | rfl | rfl | rfl | ⟨rfl, -⟩ | ⟨rfl, -⟩
  · exact ⟨Or.inl (by decide), fun _ => ⟨by decide, fun _ => h⟩⟩
  · exact ⟨Or.inl (by decide), fun _ => ⟨by decide, fun z => absurd z (by decide)⟩⟩
  · exact ⟨Or.inl (by decide), fun _ => ⟨by decide, fun z => absurd z (by decide)⟩⟩
  · exact ⟨Or.inl (by decide), fun _ => ⟨by decide, fun z => absurd z (by decide)⟩⟩
  · exact ⟨by decide, fun z => absurd (by decide) z⟩
  · exact ⟨by decide, fun z => absurd (by decide) z⟩
theorem k_s {k s : Int32} (k0 : 0 ≤ k) (h : k < s) (hs : s ≤ 1000) : k + 1 ≤ s := by grind
theorem nle4 {v : Int32} : ¬ 4 ≤ v ↔ v < 4 := Int32.not_le
theorem pos1 {x : Int32} (h : ¬ x ≤ 0) : 1 ≤ x := by grind
theorem vbo {v : Int32} : vp_nar .boolean (if v = 5 then (1 : Int32) else 0) = (if v = 5 then 1 else 0) := by
  split <;> decide
theorem expand_c {C : rCx} (hC : cOK C) (B T : Int32) {σ : rS} {a1 : Int32} {Q : Int32 → rS → Prop} (hp : exV σ B T a1 ∧ a1 < σ.1 70) (h : ∀ (v : Int32) (σ' : rS), (frG exFR9 exRr σ σ' ∧ exKR9 σ σ' B T ∧ nb v ∧ (v ≠ 0 → exV σ' B T (a1 + 1))) → Q v σ') : cI C 10 m_expand [.ref (co C), .int a1] σ Q := by
  refine m_expand_run hC ?_
  unfold w_expand_0
  obtain ⟨⟨hI, hR, hrow, hnx, hk, hst, hz, hns⟩, hlt⟩ := hp
  have k1 : a1 < 1000 := Int32.lt_of_lt_of_le hlt (Int32.le_trans hR.1.2.1 hR.1.2.2)
  have hj176 : ∀ (l1 : Int32) (l4 : Int32) (τ : rS), (l1 = a1 ∧ frG exFR9 exRr σ τ ∧ exKR9 σ τ B T ∧ nb l4 ∧ (l4 ≠ 0 → ∃ h, (h < 4 ∨ ouV h τ) ∧ (h < 4 ∨ h = 4 ∨ h = 5) ∧ exU τ a1 (σ.1 72) h (τ.1 63))) → w_expand_176 C Q  l1 l4 τ := by
    rintro y176_1 y176_4 τ176 j176
    unfold w_expand_176
    obtain ⟨e1, jf, jK, jn, jU⟩ := j176
    have kk := k1001 hk.1 k1
    refine ⟨ib_1001.mpr ?_, ?_⟩
    · clear h; rw [e1]; exact ⟨kk.1, kk.2.1⟩  -- b1
    intro σ_1 hσ_1
    refine ⟨?_, h _ _ ?_⟩
    · clear h; exact jn  -- b2
    · clear h; have e11 : ∀ k, σ_1.1 k = τ176.1 k := fun k => by rw [hσ_1, ri1]
      have r11 : ∀ k, k ≠ 76 → σ_1.2.2.1 k = τ176.2.2.1 k := fun k hk => by rw [hσ_1, ri3 hk]
      have r76 : σ_1.2.2.1 76 = upd (τ176.2.2.1 76) (a1 + 1).toNatClampNeg (τ176.1 72) := by rw [hσ_1, ri_row, e1]
      have f1 : frG exFR9 exRr τ176 σ_1 := by rw [hσ_1]; exact frG_1 (by decide)
      have K1 : exKR9 σ σ_1 B T := exK_o jK f1 (e11 70) (e11 71) (e11 72) (r11 73 (by decide))
      refine ⟨frG_tr jf f1, K1, jn, fun z => ?_⟩
      obtain ⟨hw, ou, hh, U⟩ := jU z
      have U1 := U.1
      obtain ⟨w1, w2, w3, w4, w5, w6⟩ := U1
      have ra : ∀ j : Int32, 0 ≤ j → j ≠ a1 + 1 → rd σ_1 76 j = rd τ176 76 j := fun j j0 jn => by rw [rd, r76, upd_ne (cn_d j0 kk.1 jn)]
      have rb : rd σ_1 76 (a1 + 1) = τ176.1 72 := by rw [rd, r76, upd_eq]
      refine ⟨K1.1, K1.2.1, K1.2.2.2, fun i hi => ?_, ⟨kk.1, ?_⟩, fun j j0 j1 => ?_, fun y => absurd y kk.2.2.2.2.2, fun _ => by rw [rb, e11]⟩
      · rw [e11] at hi
        exact nx_mono (w1 i hi) (by rw [r11 77 (by decide)]) (by rw [r11 78 (by decide)]) (by rw [e11]; exact Int32.le_refl _) (by rw [e11]; exact Int32.le_refl _)
      · exact Int32.le_trans (k_s hk.1 hlt (Int32.le_trans hR.1.2.1 hR.1.2.2)) K1.2.2.1.1
      · rcases l1k hk.1 k1 j1 with y | y
        · rw [y]
          exact st_new U ou hh (by rw [ra a1 hk.1 kk.2.2.2.2.1]; exact w3) rb (e11 72) (r11 79 (by decide)) (by rw [rd, r11 80 (by decide)]) (by rw [rd, r11 81 (by decide)])
        · have x := j_kn j0 k1 y
          exact stOK_m (w2 j j0 y).1 (ra j j0 x.1) (ra (j + 1) x.2.2.1 x.2.1) (by rw [rd, r11 80 (by decide)]) (by rw [rd, r11 81 (by decide)]) (by rw [e11]; exact Int32.le_refl _) (fun i _ => by rw [r11 79 (by decide)])
  have hh106 : ∀ (l1 : Int32) (l2 : Int32) (l3 : Int32) (l4 : Int32) (l5 : Int32) (τ : rS), (l1 = a1 ∧ frG exFR9 exRr σ τ ∧ exKR9 σ τ B T ∧ l2 = σ.1 72 ∧ nb l4 ∧ 0 ≤ l5 ∧ l5 ≤ 64 ∧ (l3 < 4 ∨ l3 = 4 ∨ l3 = 5) ∧ (¬ l3 < 4 → ouV l3 τ ∧ l5 ≤ τ.1 63) ∧ (l4 ≠ 0 → exU τ a1 (σ.1 72) l3 l5)) → w_expand_106 C Q  l1 l2 l3 l4 l5 τ := by
    intro z1 z2 z3 z4 z5 τi hinit
    unfold w_expand_106
    refine ⟨fun n l1 l2 l3 l4 l5 τ => n = (64 - l5).toNatClampNeg ∧ (l1 = a1 ∧ frG exFR9 exRr σ τ ∧ exKR9 σ τ B T ∧ l2 = σ.1 72 ∧ nb l4 ∧ 0 ≤ l5 ∧ l5 ≤ 64 ∧ (l3 < 4 ∨ l3 = 4 ∨ l3 = 5) ∧ (¬ l3 < 4 → ouV l3 τ ∧ l5 ≤ τ.1 63) ∧ (l4 ≠ 0 → exU τ a1 (σ.1 72) l3 l5)), ⟨_, rfl, hinit⟩, ?_⟩
    clear hinit
    rintro n106 x106_1 x106_2 x106_3 x106_4 x106_5 σ106 ⟨hn106, i106⟩
    have hj164 : ∀ (l1 : Int32) (l2 : Int32) (l3 : Int32) (l5 : Int32) (s1 : Int32) (s2 : Int32) (s3 : Int32) (τ : rS), (l1 = a1 ∧ frG exFR9 exRr σ τ ∧ exKR9 σ τ B T ∧ l2 = σ.1 72 ∧ l3 = x106_3 ∧ l5 = x106_5 ∧ ¬ x106_3 < 4 ∧ ouV x106_3 τ ∧ ¬ τ.1 63 ≤ x106_5 ∧ exU τ a1 (σ.1 72) x106_3 x106_5 ∧ ((s1 = 0 ∧ csF τ) ∨ s1 = 1) ∧ s2 = rd τ 65 x106_5 ∧ ¬ s2 ≤ 0 ∧ (x106_3 = 5 → s3 = 0)) → w_expand_164 C Q (fun l1' l2' l3' l4' l5' τ => ∃ k < n106, (fun n l1 l2 l3 l4 l5 τ => n = (64 - l5).toNatClampNeg ∧ (l1 = a1 ∧ frG exFR9 exRr σ τ ∧ exKR9 σ τ B T ∧ l2 = σ.1 72 ∧ nb l4 ∧ 0 ≤ l5 ∧ l5 ≤ 64 ∧ (l3 < 4 ∨ l3 = 4 ∨ l3 = 5) ∧ (¬ l3 < 4 → ouV l3 τ ∧ l5 ≤ τ.1 63) ∧ (l4 ≠ 0 → exU τ a1 (σ.1 72) l3 l5))) k l1' l2' l3' l4' l5' τ) l1 l2 l3 l5 s1 s2 s3 τ := by
      rintro y164_1 y164_2 y164_3 y164_5 y164_s1 y164_s2 y164_s3 τ164 j164
      unfold w_expand_164
      obtain ⟨e1, g1, g2, g3, g4, g5, g6, g7, g8, g9, ga, gb, gc, gd⟩ := j164
      have x50 : 0 ≤ x106_5 := i106.2.2.2.2.2.1
      have u := up_n x50 g8 g7.2.2.1
      have u64 := up_n x50 (Int32.not_le.mpr u.2.2.2.2.2) (by decide : (64 : Int32) ≤ 64)
      have x51 : x106_5 < 1000000 := Int32.lt_trans u.2.2.2.2.2 (by decide)
      have es : wsum (τ164.2.2.1 65) (x106_5 + 1).toNatClampNeg = wsum (τ164.2.2.1 65) x106_5.toNatClampNeg + y164_s2.toInt := by rw [cn_succ x50 x51, gb]; rfl
      have ws : wsum (τ164.2.2.1 65) (x106_5 + 1).toNatClampNeg ≤ 8000000 := Int.le_trans (wsum_mono (fun i hi => t0 (g7.2.2.2.1 i hi)) (cn_l u.2.2.2.1 u.2.2.1)) g7.2.2.2.2.2.1
      refine addNext_c hC  ?_ (fun r2 σ_3 q4 => ?_)
      · clear h; refine ⟨g2.2.1, ?_, fun z => ?_, by rw [g3]; exact g9.1.2.2.2.2.1, by rw [g3]; exact g9.1.2.2.2.1, pos1 gc, by rw [g3]; exact g9.1.2.2.2.2.2, by rw [g3, (g9.2.2.2 g6).1, ← es]; exact ws⟩
        · rcases ga with y | y
          · exact Or.inl y.1
          · exact Or.inr (Or.inl y)
        · rcases ga with y | y
          · exact y.2
          · exact absurd (z.symm.trans y) (by decide)
      intro x5 hx5
      refine ⟨_, cn_lt2 hn106 ?_ ?_, rfl, ?_⟩
      · clear h; rw [hx5, g5]; exact u64.1  -- d5
      · clear h; rw [hx5, g5]; exact u64.2.1  -- d6
      · clear h; refine ⟨e1, frG_tr g1 (frG_mono q4.1 (by decide) (by decide)), exK_an g2 q4.1 q4.2.1 q4.2.2.1 q4.2.2.2.1, g3, q4.2.2.2.2.1, by rw [hx5, g5]; exact u64.2.2.1, by rw [hx5, g5]; exact u64.2.2.2.1, by rw [g4]; exact i106.2.2.2.2.2.2.2.1, fun z => ⟨by rw [g4]; exact ou_o g7 (q4.1.1 67 (by decide)) (q4.1.1 63 (by decide)) (q4.1.1 66 (by decide)) (q4.1.2.2.1 65 (by decide)), by rw [hx5, g5, q4.1.1 63 (by decide)]; exact u.2.2.2.1⟩, fun z => ?_⟩
        have A := q4.2.2.2.2.2 z
        rw [g3] at A
        rw [g4, hx5, g5]
        have U4 := g9.2.2.2 g6
        refine ⟨exW_an g9.1 q4.1 q4.2.2.1 A, by rw [rd, q4.1.2.2.1 81 (by decide)]; exact g9.2.1, fun y => absurd y g6, fun _ => ⟨?_, fun h4 => ?_, fun h5 => ?_⟩⟩
        · rw [A.2.2.2.2.1, U4.1, q4.1.2.2.1 65 (by decide), es]
        · rw [rd, q4.1.2.2.1 80 (by decide), q4.1.1 66 (by decide)]; exact U4.2.1 h4
        · rw [A.2.2.2.2.2.2 (gd h5)]; exact fx1 (U4.2.2 h5)
    obtain ⟨e1, o1, o2, o3, o4, o5, o6, o7, o8, o9⟩ := i106
    refine ⟨fun c6 => ?_, fun c6 => ?_⟩
    · skip
      refine hj176 _ _ _ ?_
      · clear h; exact ⟨e1, o1, o2, o4, fun z => ⟨x106_3, Or.inl c6, o7, exU_lt (o9 z) c6⟩⟩  -- k8
    · skip
      refine ⟨fun c7 => ?_, fun c7 => ?_⟩
      · skip
        refine hj176 _ _ _ ?_
        · clear h; have e : x106_5 = σ106.1 63 := Int32.le_antisymm (o8 c6).2 c7
          refine ⟨e1, o1, o2, o4, fun z => ⟨x106_3, Or.inr (o8 c6).1, o7, ?_⟩⟩
          have w := o9 z
          rw [e] at w
          exact w
      · skip
        refine ⟨fun c8 => ?_, fun c8 => ?_⟩
        · skip
          refine hj176 _ _ _ ?_
          · clear h; exact ⟨e1, o1, o2, o4, fun z => absurd c8 z⟩  -- k10
        · skip
          have ou := (o8 c6).1
          have u := up_n o5 c7 ou.2.2.1
          have u64 := up_n o5 (Int32.not_le.mpr u.2.2.2.2.2) (by decide : (64 : Int32) ≤ 64)
          have lt5 := cn_lt o5 u.2.2.2.2.1
          have U := o9 c8
          have U4 := U.2.2.2 c6
          refine ⟨ib_64.mpr ?_, ?_⟩
          · clear h; exact ⟨o5, u.2.2.2.2.2⟩  -- b11
          refine ⟨fun c9 => ?_, fun c9 => ?_⟩
          · skip
            intro x10 hx10
            refine ⟨_, cn_lt2 hn106 ?_ ?_, rfl, ?_⟩
            · clear h; rw [hx10]; exact u64.1  -- d12
            · clear h; rw [hx10]; exact u64.2.1  -- d13
            · clear h; rw [hx10]
              have w0 : σ106.2.2.1 65 x106_5.toNatClampNeg = 0 := le0 c9 (ou.2.2.2.1 _ lt5)
              refine ⟨e1, o1, o2, o3, o4, u64.2.2.1, u64.2.2.2.1, o7, fun z => ⟨ou, u.2.2.2.1⟩, fun z => ⟨U.1, U.2.1, fun y => absurd y c6, fun y => ⟨?_, U4.2.1, fun h5 => ?_⟩⟩⟩
              · rw [cn_succ o5 (Int32.lt_trans u.2.2.2.2.2 (by decide))]
                show _ = wsum (σ106.2.2.1 65) x106_5.toNatClampNeg + (σ106.2.2.1 65 x106_5.toNatClampNeg).toInt
                rw [w0, Int32.toInt_zero, Int.add_zero]
                exact U4.1
              · have := (ou.2.2.2.2.2.2.2 h5).2 _ lt5
                rw [w0] at this
                exact absurd this (by decide)
          · skip
            refine unpack_c hC  ?_ (fun σ_11 q12 => ?_)
            · clear h; rw [e1]; exact ⟨hk.1, k1, o2.2.2.2 a1 hk.1 (Int32.lt_of_lt_of_le hlt o2.2.2.1.1)⟩  -- p15
            have f11 : frG exFR9 exRr σ106 σ_11 := frG_mono q12.1 (by decide) (by decide)
            have K11 : exKR9 σ σ_11 B T := exK_o o2 f11 (q12.1.1 70 (by decide)) (q12.1.1 71 (by decide)) (q12.1.1 72 (by decide)) (q12.1.2.2.1 73 (by decide))
            refine get_c hC B T ?_ (fun r13 σ_14 q15 => ?_)
            · clear h; exact ⟨K11.1, q12.2, by rw [q12.1.1 67 (by decide)]; exact ou.1, o5, u.2.2.2.2.2⟩  -- p16
            have f15 : frG exFR9 exRr σ_11 σ_14 := frG_mono q15.1 (by decide) (by decide)
            have K14 : exKR9 σ σ_14 B T := exK_o K11 f15 (q15.1.1 70 (by decide)) (q15.1.1 71 (by decide)) (q15.1.1 72 (by decide)) (q15.1.2.2.1 73 (by decide))
            have ff : ∀ k, k = 63 ∨ k = 66 ∨ k = 67 ∨ k = 70 ∨ k = 71 ∨ k = 72 → σ_14.1 k = σ106.1 k := fun k hk => by
              rw [q15.1.1 k (by rcases hk with rfl | rfl | rfl | rfl | rfl | rfl <;> decide), q12.1.1 k (by rcases hk with rfl | rfl | rfl | rfl | rfl | rfl <;> decide)]
            have rr : ∀ k, k = 65 ∨ k = 76 ∨ k = 77 ∨ k = 78 ∨ k = 79 ∨ k = 80 ∨ k = 81 → σ_14.2.2.1 k = σ106.2.2.1 k := fun k hk => by
              rw [q15.1.2.2.1 k (by rcases hk with rfl | rfl | rfl | rfl | rfl | rfl | rfl <;> decide), q12.1.2.2.1 k (by rcases hk with rfl | rfl | rfl | rfl | rfl | rfl | rfl <;> decide)]
            have fin : ∀ s3 : Int32, (x106_3 = 5 → s3 = 0) → x106_1 = a1 ∧ frG exFR9 exRr σ σ_14 ∧ exKR9 σ σ_14 B T ∧ x106_2 = σ.1 72 ∧ x106_3 = x106_3 ∧ x106_5 = x106_5 ∧ ¬ x106_3 < 4 ∧ ouV x106_3 σ_14 ∧ ¬ σ_14.1 63 ≤ x106_5 ∧ exU σ_14 a1 (σ.1 72) x106_3 x106_5 ∧ ((r13 = 0 ∧ csF σ_14) ∨ r13 = 1) ∧ σ_14.2.2.1 65 x106_5.toNatClampNeg = rd σ_14 65 x106_5 ∧ ¬ σ_14.2.2.1 65 x106_5.toNatClampNeg ≤ 0 ∧ (x106_3 = 5 → s3 = 0) := fun s3 h3 => ⟨e1, frG_tr o1 (frG_tr f11 f15), K14, o3, rfl, rfl, c6, ou_o ou (ff 67 (by decide)) (ff 63 (by decide)) (ff 66 (by decide)) (rr 65 (by decide)), by rw [ff 63 (by decide)]; exact c7, exU_o U k1 (ff 66 (by decide)) (ff 70 (by decide)) (ff 71 (by decide)) (ff 72 (by decide)) rr, q15.2, rfl, by rw [rr 65 (by decide)]; exact c9, h3⟩
            refine ⟨ib_64.mpr ?_, ?_⟩
            · clear h; exact ⟨o5, u.2.2.2.2.2⟩  -- b17
            refine ⟨fun c16 => ?_, fun c16 => ?_⟩
            · skip
              refine hj164 _ _ _ _ _ _ _ _ ?_
              · clear h; exact fin _ (fun _ => rfl)  -- k18
            · skip
              refine hj164 _ _ _ _ _ _ _ _ ?_
              · clear h; exact fin _ (fun z => absurd (c16.symm.trans z) (by decide))  -- k19
  have hj84 : ∀ (l1 : Int32) (l2 : Int32) (l3 : Int32) (s1 : Int32) (s2 : Int32) (τ : rS), (l1 = a1 ∧ frG exFR9 exRr σ τ ∧ exKR9 σ τ B T ∧ l2 = σ.1 72 ∧ s1 = a1 ∧ acQ l3 τ ∧ exWR9 τ a1 (σ.1 72) ∧ τ.1 72 = σ.1 72 ∧ rd τ 81 a1 = (if l3 = 5 then 1 else 0) ∧ (l3 < 4 → s2 = 1) ∧ (l3 = 4 → s2 = τ.1 66)) → w_expand_84 C Q  l1 l2 l3 s1 s2 τ := by
    rintro y84_1 y84_2 y84_3 y84_s1 y84_s2 τ84 j84
    unfold w_expand_84
    obtain ⟨e1, g1, g2, g3, g4, g5, g6, g7, g8, g9, ga⟩ := j84
    refine ⟨ib_1000.mpr ?_, ?_⟩
    · clear h; rw [g4]; exact ⟨hk.1, k1⟩  -- b20
    intro σ_17 hσ_17
    have e17 : ∀ k, σ_17.1 k = τ84.1 k := fun k => by rw [hσ_17, ri1]
    have r17 : ∀ k, k ≠ 80 → σ_17.2.2.1 k = τ84.2.2.1 k := fun k hk => by rw [hσ_17, ri3 hk]
    have r80 : σ_17.2.2.1 80 = upd (τ84.2.2.1 80) a1.toNatClampNeg y84_s2 := by rw [hσ_17, ri_row, g4]
    have f17 : frG exFR9 exRr τ84 σ_17 := by rw [hσ_17]; exact frG_1 (by decide)
    have K17 : exKR9 σ σ_17 B T := exK_o g2 f17 (e17 70) (e17 71) (e17 72) (r17 73 (by decide))
    have W17 : exWR9 σ_17 a1 (σ.1 72) := exW_o g6 k1 (e17 70) (e17 71) (e17 72) (r17 76 (by decide)) (r17 77 (by decide)) (r17 78 (by decide)) (r17 79 (by decide)) (fun j j0 j1 => by rw [rd, r80, upd_ne (cn_d j0 hk.1 (j_k j0 j1 k1).2.2.1)]) (fun j _ _ => by rw [rd, r17 81 (by decide)])
    have v80 : rd σ_17 80 a1 = y84_s2 := by rw [rd, r80, upd_eq]
    have c72 : σ_17.1 72 = σ.1 72 := (e17 72).trans g7
    have v81 : rd σ_17 81 a1 = (if y84_3 = 5 then 1 else 0) := by rw [rd, r17 81 (by decide)]; exact g8
    have A17 : acQ y84_3 σ_17 := ac_o g5 (fun k _ => e17 k) (fun k hk => r17 k (by rcases hk with rfl | rfl | rfl <;> decide))
    have a3 := ac_3 A17
    refine ⟨fun c18 => ?_, fun c18 => ?_⟩
    · skip
      refine hh106 _ _ _ _ _ _ ?_
      · clear h; have n4 : ¬ y84_3 < 4 := Int32.not_lt.mpr c18
        refine ⟨e1, frG_tr g1 f17, K17, g3, nb_1, by decide, by decide, a3.1, fun z => ⟨ou_of A17 z, Int32.le_trans (by decide) (ou_of A17 z).2.1⟩, fun _ => ⟨W17, v81, fun y => absurd y n4, fun _ => ⟨by rw [wOf_0 (by rw [c72])]; rfl, fun h4 => by rw [v80, ga h4, e17], fun h5 => by rw [c72]; exact fx0⟩⟩⟩
    · skip
      refine addNext_c hC  ?_ (fun r19 σ_20 q21 => ?_)
      · clear h; refine ⟨K17.2.1, (a3.2 c18).1, (a3.2 c18).2, by rw [g3]; exact hR.2.2.1, by rw [g3, c72]; exact Int32.le_refl _, by decide, fun i a b => ?_, ?_⟩
        · rw [g3] at a
          rw [c72] at b
          omega
        · rw [g3, wOf_0 (by rw [c72])]; decide
      refine hh106 _ _ _ _ _ _ ?_
      · clear h; have lt4 : y84_3 < 4 := nle4.mp c18
        refine ⟨e1, frG_tr g1 (frG_tr f17 (frG_mono q21.1 (by decide) (by decide))), exK_an K17 q21.1 q21.2.1 q21.2.2.1 q21.2.2.2.1, g3, q21.2.2.2.2.1, by decide, by decide, a3.1, fun z => absurd lt4 z, fun z => ?_⟩
        have A := q21.2.2.2.2.2 z
        rw [g3] at A
        refine ⟨exW_an W17 q21.1 q21.2.2.1 A, by rw [rd, q21.1.2.2.1 81 (by decide)]; exact v81, fun _ => ⟨A.2.2.2.2.2.1, ?_, ?_⟩, fun y => absurd lt4 y⟩
        · rw [rd, q21.1.2.2.1 80 (by decide)]; exact v80.trans (g9 lt4)
        · rw [A.2.2.2.2.1, wOf_0 (by rw [c72])]; rfl
  have hj56 : ∀ (l1 : Int32) (l2 : Int32) (l3 : Int32) (s1 : Int32) (s2 : Int32) (τ : rS), (l1 = a1 ∧ frG exFR9 exRr σ τ ∧ exKR9 σ τ B T ∧ l2 = σ.1 72 ∧ s1 = a1 ∧ acQ l3 τ ∧ exWR9 τ a1 (σ.1 72) ∧ τ.1 72 = σ.1 72 ∧ rd τ 81 a1 = (if l3 = 5 then 1 else 0)) → w_expand_56 C Q  l1 l2 l3 s1 s2 τ := by
    rintro y56_1 y56_2 y56_3 y56_s1 y56_s2 τ56 j56
    unfold w_expand_56
    obtain ⟨e1, g1, g2, g3, g4, g5, g6, g7, g8⟩ := j56
    refine ⟨ib_1000.mpr ?_, ?_⟩
    · clear h; rw [g4]; exact ⟨hk.1, k1⟩  -- b24
    intro σ_22 hσ_22
    have e22 : ∀ k, σ_22.1 k = τ56.1 k := fun k => by rw [hσ_22, ri1]
    have r22 : ∀ k, k ≠ 82 → σ_22.2.2.1 k = τ56.2.2.1 k := fun k hk => by rw [hσ_22, ri3 hk]
    have f22 : frG exFR9 exRr τ56 σ_22 := by rw [hσ_22]; exact frG_1 (by decide)
    have fin : ∀ s2 : Int32, (y56_3 < 4 → s2 = 1) → (y56_3 = 4 → s2 = σ_22.1 66) → y56_1 = a1 ∧ frG exFR9 exRr σ σ_22 ∧ exKR9 σ σ_22 B T ∧ y56_2 = σ.1 72 ∧ y56_1 = a1 ∧ acQ y56_3 σ_22 ∧ exWR9 σ_22 a1 (σ.1 72) ∧ σ_22.1 72 = σ.1 72 ∧ rd σ_22 81 a1 = (if y56_3 = 5 then 1 else 0) ∧ (y56_3 < 4 → s2 = 1) ∧ (y56_3 = 4 → s2 = σ_22.1 66) := fun s2 h1 h2 => ⟨e1, frG_tr g1 f22, exK_o g2 f22 (e22 70) (e22 71) (e22 72) (r22 73 (by decide)), g3, e1, ac_o g5 (fun k _ => e22 k) (fun k hk => r22 k (by rcases hk with rfl | rfl | rfl <;> decide)), exW_o g6 k1 (e22 70) (e22 71) (e22 72) (r22 76 (by decide)) (r22 77 (by decide)) (r22 78 (by decide)) (r22 79 (by decide)) (fun j _ _ => by rw [rd, r22 80 (by decide)]) (fun j _ _ => by rw [rd, r22 81 (by decide)]), (e22 72).trans g7, by rw [rd, r22 81 (by decide)]; exact g8, h1, h2⟩
    refine ⟨fun c23 => ?_, fun c23 => ?_⟩
    · skip
      refine ⟨fun c24 => ?_, fun c24 => ?_⟩
      · skip
        refine hj84 _ _ _ _ _ _ ?_
        · clear h; exact fin _ (fun _ => rfl) (fun z => absurd z c23)  -- k25
      · skip
        refine hj84 _ _ _ _ _ _ ?_
        · clear h; exact fin _ (fun z => by rw [c24] at z; exact absurd z (by decide)) (fun z => absurd z c23)  -- k26
    · skip
      refine hj84 _ _ _ _ _ _ ?_
      · clear h; exact fin _ (fun z => by rw [c23] at z; exact absurd z (by decide)) (fun _ => rfl)  -- k27
  have hj37 : ∀ (l1 : Int32) (l2 : Int32) (l3 : Int32) (s1 : Int32) (s2 : Int32) (τ : rS), (l1 = a1 ∧ frG exFR9 exRr σ τ ∧ exKR9 σ τ B T ∧ l2 = σ.1 72 ∧ s1 = a1 ∧ acQ l3 τ ∧ exWR9 τ a1 (σ.1 72) ∧ τ.1 72 = σ.1 72 ∧ s2 = (if l3 = 5 then 1 else 0)) → w_expand_37 C Q  l1 l2 l3 s1 s2 τ := by
    rintro y37_1 y37_2 y37_3 y37_s1 y37_s2 τ37 j37
    unfold w_expand_37
    obtain ⟨e1, g1, g2, g3, g4, g5, g6, g7, g8⟩ := j37
    refine ⟨ib_1000.mpr ?_, ?_⟩
    · clear h; rw [g4]; exact ⟨hk.1, k1⟩  -- b28
    intro σ_25 hσ_25
    have e25 : ∀ k, σ_25.1 k = τ37.1 k := fun k => by rw [hσ_25, ri1]
    have r25 : ∀ k, k ≠ 81 → σ_25.2.2.1 k = τ37.2.2.1 k := fun k hk => by rw [hσ_25, ri3 hk]
    have r81 : σ_25.2.2.1 81 = upd (τ37.2.2.1 81) a1.toNatClampNeg (if y37_3 = 5 then 1 else 0) := by rw [hσ_25, ri_row, g4, g8, vbo]
    have f25 : frG exFR9 exRr τ37 σ_25 := by rw [hσ_25]; exact frG_1 (by decide)
    have fin : y37_1 = a1 ∧ frG exFR9 exRr σ σ_25 ∧ exKR9 σ σ_25 B T ∧ y37_2 = σ.1 72 ∧ y37_1 = a1 ∧ acQ y37_3 σ_25 ∧ exWR9 σ_25 a1 (σ.1 72) ∧ σ_25.1 72 = σ.1 72 ∧ rd σ_25 81 a1 = (if y37_3 = 5 then 1 else 0) := ⟨e1, frG_tr g1 f25, exK_o g2 f25 (e25 70) (e25 71) (e25 72) (r25 73 (by decide)), g3, e1, ac_o g5 (fun k _ => e25 k) (fun k hk => r25 k (by rcases hk with rfl | rfl | rfl <;> decide)), exW_o g6 k1 (e25 70) (e25 71) (e25 72) (r25 76 (by decide)) (r25 77 (by decide)) (r25 78 (by decide)) (r25 79 (by decide)) (fun j _ _ => by rw [rd, r25 80 (by decide)]) (fun j j0 j1 => by rw [rd, r81, upd_ne (cn_d j0 hk.1 (j_k j0 j1 k1).2.2.1)]), (e25 72).trans g7, by rw [rd, r81, upd_eq]⟩
    refine ⟨fun c26 => ?_, fun c26 => ?_⟩
    · skip
      refine hj56 _ _ _ _ _ _ ?_
      · clear h; exact fin  -- k29
    · skip
      refine hj56 _ _ _ _ _ _ ?_
      · clear h; exact fin  -- k30
  intro x27 hx27
  refine ⟨ib_1001.mpr ?_, ?_⟩
  · clear h; exact ⟨hk.1, (k1001 hk.1 k1).2.2.1⟩  -- b31
  intro σ_28 hσ_28
  have e28 : ∀ k, σ_28.1 k = σ.1 k := fun k => by rw [hσ_28, ri1]
  have r28 : ∀ k, k ≠ 76 → σ_28.2.2.1 k = σ.2.2.1 k := fun k hk => by rw [hσ_28, ri3 hk]
  have f28 : frG exFR9 exRr σ σ_28 := by rw [hσ_28]; exact frG_1 (by decide)
  have K0 : exKR9 σ σ B T := ⟨hI, hR, ⟨Int32.le_refl _, Int32.le_refl _, Int32.le_refl _⟩, hrow⟩
  have K28 : exKR9 σ σ_28 B T := exK_o K0 f28 (e28 70) (e28 71) (e28 72) (r28 73 (by decide))
  have W28 : exWR9 σ_28 a1 (σ.1 72) := exW_0 ⟨hI, hR, hrow, hnx, hk, hst, hz, hns⟩ k1 (e28 70) (e28 71) (e28 72) (by rw [hσ_28, ri_row, hx27]) (fun k hk => r28 k (by rcases hk with rfl | rfl | rfl | rfl | rfl <;> decide))
  refine unpack_c hC  ?_ (fun σ_29 q30 => ?_)
  · clear h; exact ⟨hk.1, k1, K28.2.2.2 a1 hk.1 (by rw [e28]; exact hlt)⟩  -- p32
  have f29 : frG exFR9 exRr σ_28 σ_29 := frG_mono q30.1 (by decide) (by decide)
  have K29 : exKR9 σ σ_29 B T := exK_o K28 f29 (q30.1.1 70 (by decide)) (q30.1.1 71 (by decide)) (q30.1.1 72 (by decide)) (q30.1.2.2.1 73 (by decide))
  refine act_c hC B T ?_ (fun r31 σ_32 q33 => ?_)
  · clear h; exact ⟨K29.1, q30.2⟩  -- p33
  have f32 : frG exFR9 exRr σ_29 σ_32 := frG_mono q33.1 (by decide) (by decide)
  have K32 : exKR9 σ σ_32 B T := exK_o K29 f32 (q33.1.1 70 (by decide)) (q33.1.1 71 (by decide)) (q33.1.1 72 (by decide)) (q33.1.2.2.1 73 (by decide))
  have ff : ∀ k, k = 70 ∨ k = 71 ∨ k = 72 → σ_32.1 k = σ_28.1 k := fun k hk => by
    rw [q33.1.1 k (by rcases hk with rfl | rfl | rfl <;> decide), q30.1.1 k (by rcases hk with rfl | rfl | rfl <;> decide)]
  have rr : ∀ k, k = 76 ∨ k = 77 ∨ k = 78 ∨ k = 79 ∨ k = 80 ∨ k = 81 → σ_32.2.2.1 k = σ_28.2.2.1 k := fun k hk => by
    rw [q33.1.2.2.1 k (by rcases hk with rfl | rfl | rfl | rfl | rfl | rfl <;> decide), q30.1.2.2.1 k (by rcases hk with rfl | rfl | rfl | rfl | rfl | rfl <;> decide)]
  have W32 : exWR9 σ_32 a1 (σ.1 72) := exW_o W28 k1 (ff 70 (by decide)) (ff 71 (by decide)) (ff 72 (by decide)) (rr 76 (by decide)) (rr 77 (by decide)) (rr 78 (by decide)) (rr 79 (by decide)) (fun j _ _ => by rw [rd, rr 80 (by decide)]) (fun j _ _ => by rw [rd, rr 81 (by decide)])
  have fin : ∀ s2 : Int32, s2 = (if r31 = 5 then 1 else 0) → a1 = a1 ∧ frG exFR9 exRr σ σ_32 ∧ exKR9 σ σ_32 B T ∧ x27 = σ.1 72 ∧ a1 = a1 ∧ acQ r31 σ_32 ∧ exWR9 σ_32 a1 (σ.1 72) ∧ σ_32.1 72 = σ.1 72 ∧ s2 = (if r31 = 5 then 1 else 0) := fun s2 h2 => ⟨rfl, frG_tr f28 (frG_tr f29 f32), K32, hx27, rfl, q33.2, W32, (ff 72 (by decide)).trans (e28 72), h2⟩
  refine ⟨fun c34 => ?_, fun c34 => ?_⟩
  · skip
    refine hj37 _ _ _ _ _ _ ?_
    · clear h; exact fin _ (by rw [if_neg c34])  -- k34
  · skip
    refine hj37 _ _ _ _ _ _ ?_
    · clear h; exact fin _ (by rw [if_pos c34])  -- k35

end
section
set_option maxHeartbeats 1600000
/-! the reference: bits of rows; what leads to what -/
theorem lgc0 {x y : Int64} : lg_cmp x y = 0 ↔ x = y := by
  unfold lg_cmp
  by_cases h : x = y
  · subst h
    rw [if_neg (fun z => absurd z (Int64.lt_irrefl)), if_pos rfl]
    exact ⟨fun _ => rfl, fun _ => rfl⟩
  · refine ⟨fun z => ?_, fun z => absurd z h⟩
    split at z
    · exact absurd z (by decide)
    · exact absurd z (by decide)
/-- the bit for state b in the row of state a -/
def bR (r : Nat → Int64) (a b : Nat) : Bool := (r (16 * a + b / 64)).toBitVec.getLsbD (b % 64)
theorem and63 {b : Int32} (h0 : 0 ≤ b) : (b &&& 63).toBitVec.toNat = b.toNatClampNeg % 64 := by
  rw [Int32.toBitVec_and, BitVec.toNat_and, show (63 : Int32).toBitVec.toNat = 2 ^ 6 - 1 from rfl, Nat.and_two_pow_sub_one_eq_mod]
  have e1 := bv_nn h0
  have e2 := cn_int h0
  omega
theorem ext63 {b : Int32} (h0 : 0 ≤ b) : ((b &&& 63).toInt64).toBitVec.toNat = b.toNatClampNeg % 64 := by
  have e := and63 h0
  rw [Int32.toBitVec_toInt64]
  have m : (b &&& 63).toBitVec.msb = false := by
    rw [BitVec.msb_eq_decide]
    have : b.toNatClampNeg % 64 < 64 := Nat.mod_lt _ (by decide)
    simp only [decide_eq_false_iff_not]
    omega
  rw [BitVec.signExtend_eq_setWidth_of_msb_false m, BitVec.toNat_setWidth, e]
  exact Nat.mod_eq_of_lt (Nat.lt_of_lt_of_le (Nat.mod_lt _ (by decide)) (by decide))
theorem sh63 {b : Int32} (h0 : 0 ≤ b) : ((b &&& 63).toInt64 &&& 63).toBitVec.toNat = b.toNatClampNeg % 64 := by
  rw [Int64.toBitVec_and, BitVec.toNat_and, ext63 h0, show (63 : Int64).toBitVec.toNat = 2 ^ 6 - 1 from rfl, Nat.and_two_pow_sub_one_eq_mod]
  omega
theorem shu63 {b : Int32} (h0 : 0 ≤ b) : ((b &&& 63).toInt64.toUInt64 &&& Int64.toUInt64 63).toBitVec.toNat = b.toNatClampNeg % 64 := by
  rw [UInt64.toBitVec_and, BitVec.toNat_and, Int64.toBitVec_toUInt64, ext63 h0, show (Int64.toUInt64 63).toBitVec.toNat = 2 ^ 6 - 1 from rfl, Nat.and_two_pow_sub_one_eq_mod]
  omega
theorem bit_g {x : Int64} {b : Int32} (h0 : 0 ≤ b) : lg_cmp ((x.toUInt64 >>> ((b &&& 63).toInt64.toUInt64 &&& Int64.toUInt64 63)).toInt64 &&& 1) 1 = 0 ↔ x.toBitVec.getLsbD (b.toNatClampNeg % 64) = true := by
  rw [lgc0]
  have e : (x.toUInt64 >>> ((b &&& 63).toInt64.toUInt64 &&& Int64.toUInt64 63)).toBitVec = x.toBitVec >>> (b.toNatClampNeg % 64) := by
    rw [UInt64.toBitVec_shiftRight, Int64.toBitVec_toUInt64, BitVec.ushiftRight_eq', BitVec.toNat_umod, shu63 h0]
    congr 1
    show b.toNatClampNeg % 64 % 64 = _
    omega
  rw [← Int64.toBitVec_inj, Int64.toBitVec_and, UInt64.toBitVec_toInt64, e]
  constructor
  · intro z
    have := congrArg (fun v => BitVec.getLsbD v 0) z
    simp only [BitVec.getLsbD_and, BitVec.getLsbD_ushiftRight] at this
    rw [Nat.add_zero] at this
    have o : (1 : Int64).toBitVec.getLsbD 0 = true := by decide
    rw [o, Bool.and_true] at this
    exact this
  · intro z
    refine BitVec.eq_of_getLsbD_eq (fun i hi => ?_)
    rw [BitVec.getLsbD_and, BitVec.getLsbD_ushiftRight]
    by_cases h : i = 0
    · subst h
      rw [Nat.add_zero, z]
      rfl
    · have o : (1 : Int64).toBitVec.getLsbD i = false := by
        rw [show (1 : Int64).toBitVec = 1#64 from rfl, BitVec.getLsbD_one]
        simp [h]
      rw [o, Bool.and_false]
theorem bit_s {x : Int64} {b : Int32} {j : Nat} (h0 : 0 ≤ b) (hj : j < 64) : (x ||| ((1 : Int64) <<< ((b &&& 63).toInt64 &&& 63))).toBitVec.getLsbD j = (x.toBitVec.getLsbD j || decide (j = b.toNatClampNeg % 64)) := by
  have hm : b.toNatClampNeg % 64 < 64 := Nat.mod_lt _ (by decide)
  have e : ((1 : Int64) <<< ((b &&& 63).toInt64 &&& 63)).toBitVec = 1#64 <<< (b.toNatClampNeg % 64) := by
    rw [Int64.toBitVec_shiftLeft, BitVec.shiftLeft_eq']
    congr 1
    have s := sh63 h0
    have ms : ((b &&& 63).toInt64 &&& 63).toBitVec.msb = false := by
      rw [BitVec.msb_eq_decide, s]
      simp only [decide_eq_false_iff_not]
      omega
    rw [BitVec.smod_eq, ms, show (BitVec.msb (64 : BitVec 64)) = false from by decide]
    show (((b &&& 63).toInt64 &&& 63).toBitVec.umod 64).toNat = _
    rw [show ((((b &&& 63).toInt64 &&& 63).toBitVec.umod 64).toNat) = ((b &&& 63).toInt64 &&& 63).toBitVec.toNat % 64 from rfl, s]
    omega
  rw [Int64.toBitVec_or, BitVec.getLsbD_or, e, BitVec.getLsbD_shiftLeft, BitVec.getLsbD_one]
  congr 1
  by_cases h : j = b.toNatClampNeg % 64
  · rw [decide_eq_true h]
    simp [h, hm]
  · rw [decide_eq_false h]
    by_cases l : j < b.toNatClampNeg % 64
    · simp [l]
    · have : j - b.toNatClampNeg % 64 ≠ 0 := by omega
      simp [this]
theorem bit_o {x y : Int64} {j : Nat} : (x ||| y).toBitVec.getLsbD j = (x.toBitVec.getLsbD j || y.toBitVec.getLsbD j) := by
  rw [Int64.toBitVec_or, BitVec.getLsbD_or]
theorem shr6 {b : Int32} (h0 : 0 ≤ b) (h1 : b < 1000) : (0 ≤ b >>> ((6 : Int32) &&& 31) ∧ b >>> ((6 : Int32) &&& 31) < 16) ∧ (b >>> ((6 : Int32) &&& 31)).toNatClampNeg = b.toNatClampNeg / 64 := by
  have e : (b >>> ((6 : Int32) &&& 31)).toInt = b.toInt / 64 := by
    have e : (b >>> ((6 : Int32) &&& 31)).toBitVec = b.toBitVec.sshiftRight 6 := by
      rw [Int32.toBitVec_shiftRight]
      rfl
    have t : (b >>> ((6 : Int32) &&& 31)).toInt = (b.toBitVec.sshiftRight 6).toInt := by rw [← e]; rfl
    rw [t, BitVec.toInt_sshiftRight, Int.shiftRight_eq_div_pow]
    rfl
  have b0 := t0 h0
  have b1 := Int32.lt_iff_toInt_lt.mp h1
  rw [show (1000 : Int32).toInt = 1000 from rfl] at b1
  have n0 : 0 ≤ b >>> ((6 : Int32) &&& 31) := Int32.le_iff_toInt_le.mpr (by rw [Int32.toInt_zero, e]; omega)
  have c := cn_int n0
  have d := cn_int h0
  exact ⟨⟨n0, Int32.lt_iff_toInt_lt.mpr (by rw [e, show (16 : Int32).toInt = 16 from rfl]; omega)⟩, by omega⟩
theorem x16 {a w : Int32} (a0 : 0 ≤ a) (a1 : a < 1000) (w0 : 0 ≤ w) (w1 : w < 16) : (0 ≤ 16 * a + w ∧ 16 * a + w < 16000) ∧ (16 * a + w).toNatClampNeg = 16 * a.toNatClampNeg + w.toNatClampNeg := by
  have r : 0 ≤ 16 * a + w ∧ 16 * a + w < 16000 ∧ 0 ≤ 16 * a := by grind
  have e : (16 * a + w).toInt = 16 * a.toInt + w.toInt := by
    have a2 := t0 a0
    have a3 := Int32.lt_iff_toInt_lt.mp a1
    have w2 := t0 w0
    have w3 := Int32.lt_iff_toInt_lt.mp w1
    rw [show (1000 : Int32).toInt = 1000 from rfl] at a3
    rw [show (16 : Int32).toInt = 16 from rfl] at w3
    have m : (16 * a).toInt = 16 * a.toInt := by
      rw [Int32.toInt_mul, show (16 : Int32).toInt = 16 from rfl]
      exact Int.bmod_eq_of_le (by omega) (by omega)
    rw [i_add r.2.2 w0 (by rw [m]; omega), m]
  have c := cn_int r.1
  have d := cn_int a0
  have f := cn_int w0
  exact ⟨⟨r.1, r.2.1⟩, by omega⟩
theorem leads_c {C : rCx} (hC : cOK C)  {σ : rS} {a1 : Int32} {a2 : Int32} {Q : Int32 → rS → Prop} (hp : 0 ≤ a1 ∧ a1 < 1000 ∧ 0 ≤ a2 ∧ a2 < 1000) (h : ∀ (v : Int32), (nb v ∧ (v ≠ 0 ↔ bR (σ.2.2.2 86) a1.toNatClampNeg a2.toNatClampNeg = true)) → Q v σ) : cI C 0 m_leads [.ref (co C), .int a1, .int a2] σ Q := by
  refine m_leads_run hC ?_
  unfold w_leads_0
  obtain ⟨h0, h1, h2, h3⟩ := hp
  have s := shr6 h2 h3
  have x := x16 h0 h1 s.1.1 s.1.2
  refine ⟨ib_16000.mpr ?_, ?_⟩
  · clear h; exact x.1  -- b1
  refine ⟨fun c1 => ?_, fun c1 => ?_⟩
  · skip
    refine h _ ?_
    · clear h; rw [x.2, s.2, bit_g h2] at c1
      exact ⟨nb_0, fun z => absurd rfl z, fun z => absurd z c1⟩
  · skip
    refine h _ ?_
    · clear h; rw [x.2, s.2, bit_g h2] at c1
      exact ⟨nb_1, fun _ => c1, fun _ => by decide⟩

end
section
set_option maxHeartbeats 1600000
/-! the reference: paths, and rows of bits that say them -/
/-- a path of k + 1 edges -/
def pth (E : Nat → Nat → Prop) : Nat → Nat → Nat → Prop
  | 0, a, b => E a b
  | k + 1, a, b => ∃ c, E a c ∧ pth E k c b
def Tr (E : Nat → Nat → Prop) (a b : Nat) : Prop := ∃ k, pth E k a b
theorem pth_tr {E : Nat → Nat → Prop} {i j a b c : Nat} (h : pth E i a b) (g : pth E j b c) : pth E (i + j + 1) a c := by
  induction i generalizing a with
  | zero => rw [show 0 + j + 1 = j + 1 by omega]; exact ⟨b, h, g⟩
  | succ i ih =>
    obtain ⟨d, h1, h2⟩ := h
    rw [show i + 1 + j + 1 = (i + j + 1) + 1 by omega]
    exact ⟨d, h1, ih h2⟩
theorem Tr_1 {E : Nat → Nat → Prop} {a b : Nat} (h : E a b) : Tr E a b := ⟨0, h⟩
theorem Tr_tr {E : Nat → Nat → Prop} {a b c : Nat} (h : Tr E a b) (g : Tr E b c) : Tr E a c := by
  obtain ⟨i, h⟩ := h
  obtain ⟨j, g⟩ := g
  exact ⟨_, pth_tr h g⟩
/-- a relation that holds the edges and is closed below n holds all paths below n -/
theorem Tr_cl {E R : Nat → Nat → Prop} {n : Nat} (hn : ∀ a b, E a b → a < n → b < n) (h1 : ∀ a b, a < n → b < n → E a b → R a b) (h2 : ∀ a b c, a < n → b < n → c < n → R a b → R b c → R a c) {a b : Nat} (ha : a < n) (hb : b < n) (h : Tr E a b) : R a b := by
  obtain ⟨k, h⟩ := h
  induction k generalizing a with
  | zero => exact h1 a b ha hb h
  | succ k ih =>
    obtain ⟨c, g1, g2⟩ := h
    have hc := hn a c g1 ha
    exact h2 a c b ha hc hb (h1 a c ha hc g1) (ih hc g2)
/-- one state more between -/
theorem war {E R0 R1 : Nat → Nat → Prop} {n m : Nat} (hm : m < n) (hE : ∀ a b, a < n → b < n → E a b → R0 a b) (hT : ∀ a b, a < n → b < n → R0 a b → Tr E a b) (hw : ∀ a j b, a < n → j < m → b < n → R0 a j → R0 j b → R0 a b) (h1 : ∀ a b, a < n → b < n → (R1 a b ↔ R0 a b ∨ (R0 a m ∧ R0 m b))) : (∀ a b, a < n → b < n → E a b → R1 a b) ∧ (∀ a b, a < n → b < n → R1 a b → Tr E a b) ∧ (∀ a j b, a < n → j < m + 1 → b < n → R1 a j → R1 j b → R1 a b) := by
  refine ⟨fun a b ha hb h => (h1 a b ha hb).mpr (Or.inl (hE a b ha hb h)), fun a b ha hb h => ?_, fun a j b ha hj hb x y => ?_⟩
  · rcases (h1 a b ha hb).mp h with z | z
    · exact hT a b ha hb z
    · exact Tr_tr (hT a m ha hm z.1) (hT m b hm hb z.2)
  · have hjn : j < n := by omega
    rw [h1 a j ha hjn] at x
    rw [h1 j b hjn hb] at y
    rw [h1 a b ha hb]
    by_cases e : j = m
    · subst e
      have xa : R0 a j := by rcases x with z | z; exact z; exact z.1
      have yb : R0 j b := by rcases y with z | z; exact z; exact z.2
      exact Or.inr ⟨xa, yb⟩
    · have hjm : j < m := by omega
      rcases x with x | x
      · rcases y with y | y
        · exact Or.inl (hw a j b ha hjm hb x y)
        · exact Or.inr ⟨hw a j m ha hjm hm x y.1, y.2⟩
      · rcases y with y | y
        · exact Or.inr ⟨x.1, hw m j b hm hjm hb x.2 y⟩
        · exact Or.inr ⟨x.1, y.2⟩
theorem row_or {r r1 : Nat → Int64} {k m : Nat} (h : ∀ w, w < 16 → r (16 * k + w) = r1 (16 * k + w) ||| r1 (16 * m + w)) (ho : ∀ x, (x < 16 * k ∨ 16 * k + 16 ≤ x) → r x = r1 x) {a b : Nat} (hb : b < 1024) : bR r a b = if a = k then (bR r1 k b || bR r1 m b) else bR r1 a b := by
  unfold bR
  have hw : b / 64 < 16 := by omega
  by_cases e : a = k
  · subst e
    rw [if_pos rfl, h _ hw, bit_o]
  · rw [if_neg e, ho _ (by omega)]
theorem bit_set {r : Nat → Int64} {k : Nat} {t : Int32} {x : Nat} (t0' : 0 ≤ t) (ht : t < 1000) (hx : x = 16 * k + t.toNatClampNeg / 64) {r' : Nat → Int64} (hr : ∀ y, r' y = if y = x then (r x ||| ((1 : Int64) <<< ((t &&& 63).toInt64 &&& 63))) else r y) {a b : Nat} (hb : b < 1024) : bR r' a b = true ↔ bR r a b = true ∨ (a = k ∧ b = t.toNatClampNeg) := by
  have tn : t.toNatClampNeg < 1000 := by have := cn_lt t0' ht; rwa [show (1000 : Int32).toNatClampNeg = 1000 from rfl] at this
  unfold bR
  subst hx
  by_cases e : 16 * a + b / 64 = 16 * k + t.toNatClampNeg / 64
  · have ea : a = k := by omega
    have eb : b / 64 = t.toNatClampNeg / 64 := by omega
    rw [hr, if_pos e, e, bit_s t0' (Nat.mod_lt _ (by decide)), Bool.or_eq_true, decide_eq_true_iff]
    constructor
    · rintro (z | z)
      · exact Or.inl z
      · exact Or.inr ⟨ea, by omega⟩
    · rintro (z | z)
      · exact Or.inl z
      · exact Or.inr (by rw [z.2])
  · rw [hr, if_neg e]
    constructor
    · exact fun z => Or.inl z
    · rintro (z | z)
      · exact z
      · exact absurd (by rw [z.1, z.2]) e
/-- states and nexts in order, as they stay behind explore -/
def exO (σ : rS) : Prop := (0 ≤ σ.1 70 ∧ σ.1 70 ≤ 1000) ∧ (0 ≤ σ.1 71 ∧ σ.1 71 ≤ 1000) ∧ (0 ≤ σ.1 72 ∧ σ.1 72 ≤ 20000) ∧ (∀ j : Int32, 0 ≤ j → j < σ.1 70 → stOK σ j) ∧ (∀ i, i < (σ.1 72).toNatClampNeg → nxE σ i)
/-- only the rows of bits differ -/
def frL (σ τ : rS) : Prop := τ.1 = σ.1 ∧ τ.2.1 = σ.2.1 ∧ τ.2.2.1 = σ.2.2.1 ∧ ∀ k, k ≠ 86 → τ.2.2.2 k = σ.2.2.2 k
theorem frL_refl {σ : rS} : frL σ σ := ⟨rfl, rfl, rfl, fun _ _ => rfl⟩
theorem frL_tr {σ τ υ : rS} (h : frL σ τ) (g : frL τ υ) : frL σ υ := ⟨g.1.trans h.1, g.2.1.trans h.2.1, g.2.2.1.trans h.2.2.1, fun k hk => (g.2.2.2 k hk).trans (h.2.2.2 k hk)⟩
theorem frL_rl {σ : rS} {i : Nat} {x : Int64} : frL σ (rlU σ 86 i x) := ⟨rfl, rfl, rfl, fun k hk => rl4 hk⟩
/-- next i of state a leads to state b -/
def edg (σ : rS) (p : Int32) (o : Nat) (l : Int32) (a : Nat) (i : Int32) (b : Nat) : Prop := rd σ 77 i = 0 ∧ (rd σ 78 i).toNatClampNeg = b ∧ (p = 0 ∨ σ.2.2.1 81 a = 0 ∨ i = σ.2.2.1 76 a + σ.2.2.1 83 a) ∧ (l ≠ 0 ∨ (σ.2.2.1 o a ≠ 0 ∧ σ.2.2.1 o b ≠ 0))
/-- a next of state a before number i leads to state b -/
def edI (σ : rS) (p : Int32) (o : Nat) (l : Int32) (a : Nat) (i : Int32) (b : Nat) : Prop := ∃ i', σ.2.2.1 76 a ≤ i' ∧ i' < i ∧ edg σ p o l a i' b
def edN (σ : rS) (p : Int32) (o : Nat) (l : Int32) (a b : Nat) : Prop := edI σ p o l a (σ.2.2.1 76 (a + 1)) b
theorem edI_0 {σ : rS} {p l : Int32} {o a b : Nat} : ¬ edI σ p o l a (σ.2.2.1 76 a) b := fun ⟨i, h1, h2, _⟩ => absurd h2 (Int32.not_lt.mpr h1)
theorem i_sp {i j : Int32} (h0 : 0 ≤ i) (h1 : i < 20000) (h : j < i + 1) : j = i ∨ j < i := by grind
theorem edI_s {σ : rS} {p l i : Int32} {o a b : Nat} (h0 : 0 ≤ i) (h1 : i < 20000) (h2 : σ.2.2.1 76 a ≤ i) : edI σ p o l a (i + 1) b ↔ edI σ p o l a i b ∨ edg σ p o l a i b := by
  constructor
  · rintro ⟨j, g1, g2, g3⟩
    rcases i_sp h0 h1 g2 with e | e
    · subst e; exact Or.inr g3
    · exact Or.inl ⟨j, g1, e, g3⟩
  · rintro (⟨j, g1, g2, g3⟩ | g)
    · exact ⟨j, g1, Int32.lt_trans g2 (by grind), g3⟩
    · exact ⟨i, h2, by grind, g⟩
theorem ex_st {σ : rS} {j : Int32} (h : exO σ) (j0 : 0 ≤ j) (j1 : j < σ.1 70) : (0 ≤ σ.2.2.1 76 j.toNatClampNeg ∧ σ.2.2.1 76 j.toNatClampNeg ≤ 20000) ∧ σ.2.2.1 76 j.toNatClampNeg ≤ σ.2.2.1 76 (j.toNatClampNeg + 1) ∧ σ.2.2.1 76 (j.toNatClampNeg + 1) ≤ σ.1 72 ∧ (j + 1).toNatClampNeg = j.toNatClampNeg + 1 ∧ j < 1000 ∧ 0 ≤ j + 1 ∧ j + 1 < 1001 := by
  have s := (h.2.2.2.1 j j0 j1).1
  have k1 := Int32.lt_of_lt_of_le j1 h.1.2
  have e := cn_succ j0 (Int32.lt_trans k1 (by decide))
  have kk := k1001 j0 k1
  rw [rd, rd, e] at s
  exact ⟨⟨s.1, Int32.le_trans (Int32.le_of_lt s.2.1) (Int32.le_trans s.2.2 h.2.2.1.2)⟩, Int32.le_of_lt s.2.1, s.2.2, e, k1, kk.1, kk.2.1⟩
theorem ex_nx {σ : rS} {i : Int32} (h : exO σ) (i0 : 0 ≤ i) (i1 : i < σ.1 72) (hk : rd σ 77 i = 0) : 0 ≤ rd σ 78 i ∧ rd σ 78 i < σ.1 70 := (h.2.2.2.2 _ (cn_lt i0 i1)).2.1 hk
theorem u16 {x : Int32} (h0 : 0 ≤ x) (h : ¬ 16 ≤ x) : 0 ≤ 16 - (x + 1) ∧ 16 - (x + 1) < 16 - x ∧ 0 ≤ x + 1 ∧ x + 1 ≤ 16 ∧ x < 16 := by grind
theorem m16 {n : Int32} (n0 : 0 ≤ n) (n1 : n ≤ 1000) : (16 * n).toNatClampNeg = 16 * n.toNatClampNeg ∧ 0 ≤ 16 * n ∧ 16 * n ≤ 16000 := by
  have a2 := t0 n0
  have a3 := ti n1
  rw [show (1000 : Int32).toInt = 1000 from rfl] at a3
  have m : (16 * n).toInt = 16 * n.toInt := by
    rw [Int32.toInt_mul, show (16 : Int32).toInt = 16 from rfl]
    exact Int.bmod_eq_of_le (by omega) (by omega)
  have z : 0 ≤ 16 * n := Int32.le_iff_toInt_le.mpr (by rw [m, Int32.toInt_zero]; omega)
  have c := cn_int z
  have d := cn_int n0
  exact ⟨by omega, z, Int32.le_iff_toInt_le.mpr (by rw [m, show (16000 : Int32).toInt = 16000 from rfl]; omega)⟩
theorem z16 {x n : Int32} (n0 : 0 ≤ n) (n1 : n ≤ 1000) (h0 : 0 ≤ x) (h : ¬ 16 * n ≤ x) : 0 ≤ 16 * n - (x + 1) ∧ 16 * n - (x + 1) < 16 * n - x ∧ 0 ≤ x + 1 ∧ x + 1 ≤ 16 * n ∧ x < 16000 ∧ x < 1000000 := by
  have m := (m16 n0 n1).2.2
  have u := u2 h0 h (Int32.le_trans m (by decide))
  have l := Int32.lt_of_lt_of_le u.2.2.2.2.2.1 m
  exact ⟨u.1, u.2.1, u.2.2.1, u.2.2.2.2.1, l, Int32.lt_trans l (by decide)⟩
theorem toI {a : Nat} {n : Int32} (n0 : 0 ≤ n) (h : a < n.toNatClampNeg) : ∃ j : Int32, 0 ≤ j ∧ j < n ∧ j.toNatClampNeg = a := by
  have c := cn_int n0
  have l := Int32.toInt_lt n
  have e : (Int32.ofNat a).toInt = a := Int32.toInt_ofNat_of_lt (by omega)
  refine ⟨Int32.ofNat a, Int32.le_iff_toInt_le.mpr (by rw [e, Int32.toInt_zero]; omega), Int32.lt_iff_toInt_lt.mpr (by rw [e]; omega), cn_nat e⟩
theorem ed_lt {σ : rS} {p l : Int32} {o a b : Nat} (h : exO σ) (E : edN σ p o l a b) (ha : a < (σ.1 70).toNatClampNeg) : b < (σ.1 70).toNatClampNeg := by
  obtain ⟨j, j0, j1, je⟩ := toI h.1.1 ha
  obtain ⟨i, g1, g2, g3, g4, -⟩ := E
  have st := ex_st h j0 j1
  rw [je] at st
  have nx := ex_nx h (Int32.le_trans st.1.1 g1) (Int32.lt_of_lt_of_le g2 st.2.2.1) g3
  rw [← g4]
  exact cn_lt nx.1 nx.2
theorem findReach_c {C : rCx} (hC : cOK C)  {σ : rS} {a1 : Int32} {a2 : Nat} {a3 : Int32} {Q : rS → Prop} (hp : exO σ ∧ (a2 = 87 ∨ a2 = 95)) (h : ∀ (σ' : rS), (frL σ σ' ∧ ∀ a b, a < (σ.1 70).toNatClampNeg → b < (σ.1 70).toNatClampNeg → (bR (σ'.2.2.2 86) a b = true ↔ Tr (edN σ a1 a2 a3) a b)) → Q σ') : cV C 1 m_findReach [.ref (co C), .int a1, .ref (cad C a2), .int a3] σ Q := by
  refine m_findReach_run hC ?_
  unfold w_findReach_0
  obtain ⟨hO, ho⟩ := hp
  have n1000 : (σ.1 70).toNatClampNeg ≤ 1000 := cn_le (y := 1000) rfl hO.1.2
  unfold w_findReach_3
  refine ⟨fun n l1 l2 l3 l4 τ => n = (16 * σ.1 70 - l4).toNatClampNeg ∧ (l1 = a1 ∧ l2 = a2 ∧ l3 = a3 ∧ frL σ τ ∧ 0 ≤ l4 ∧ l4 ≤ 16 * σ.1 70 ∧ ∀ w, w < l4.toNatClampNeg → τ.2.2.2 86 w = 0), ⟨_, rfl, ?_⟩, ?_⟩
  · clear h; exact ⟨rfl, rfl, rfl, frL_refl, by decide, (m16 hO.1.1 hO.1.2).2.1, fun w hw => absurd hw (Nat.not_lt_zero w)⟩  -- j1
  rintro n3 x3_1 x3_2 x3_3 x3_4 σ3 ⟨hn3, i3⟩
  refine ⟨fun c1 => ?_, fun c1 => ?_⟩
  · skip
    unfold w_findReach_32
    refine ⟨fun n l1 l2 l3 l4 τ => n = (σ.1 70 - l4).toNatClampNeg ∧ (l1 = a1 ∧ l2 = a2 ∧ l3 = a3 ∧ frL σ τ ∧ 0 ≤ l4 ∧ l4 ≤ σ.1 70 ∧ ∀ a b, a < (σ.1 70).toNatClampNeg → b < (σ.1 70).toNatClampNeg → (bR (τ.2.2.2 86) a b = true ↔ a < l4.toNatClampNeg ∧ edN σ a1 a2 a3 a b)), ⟨_, rfl, ?_⟩, ?_⟩
    · clear h; obtain ⟨z1, z2, z3, y1, y2, y3, y4⟩ := i3
      have e : x3_4 = 16 * σ.1 70 := Int32.le_antisymm y3 (by rw [← y1.1]; exact c1)
      have em := (m16 hO.1.1 hO.1.2).1
      refine ⟨z1, z2, z3, y1, by decide, hO.1.1, fun a b ha hb => ⟨fun z => ?_, fun z => absurd z.1 (Nat.not_lt_zero a)⟩⟩
      unfold bR at z
      rw [y4 _ (by rw [e, em]; omega), show (0 : Int64).toBitVec = 0#64 from rfl, BitVec.getLsbD_zero] at z
      exact absurd z (by decide)
    rintro n32 x32_1 x32_2 x32_3 x32_4 σ32 ⟨hn32, i32⟩
    refine ⟨fun c2 => ?_, fun c2 => ?_⟩
    · skip
      unfold w_findReach_154
      refine ⟨fun n l4 τ => n = (σ.1 70 - l4).toNatClampNeg ∧ (frL σ τ ∧ 0 ≤ l4 ∧ l4 ≤ σ.1 70 ∧ (∀ a b, a < (σ.1 70).toNatClampNeg → b < (σ.1 70).toNatClampNeg → edN σ a1 a2 a3 a b → bR (τ.2.2.2 86) a b = true) ∧ (∀ a b, a < (σ.1 70).toNatClampNeg → b < (σ.1 70).toNatClampNeg → bR (τ.2.2.2 86) a b = true → Tr (edN σ a1 a2 a3) a b) ∧ (∀ a j b, a < (σ.1 70).toNatClampNeg → j < l4.toNatClampNeg → b < (σ.1 70).toNatClampNeg → bR (τ.2.2.2 86) a j = true → bR (τ.2.2.2 86) j b = true → bR (τ.2.2.2 86) a b = true)), ⟨_, rfl, ?_⟩, ?_⟩
      · clear h; obtain ⟨z1, z2, z3, y1, y2, y3, y4⟩ := i32
        have e : x32_4 = σ.1 70 := Int32.le_antisymm y3 (by rw [← y1.1]; exact c2)
        rw [e] at y4
        exact ⟨y1, by decide, hO.1.1, fun a b ha hb E => (y4 a b ha hb).mpr ⟨ha, E⟩, fun a b ha hb z => Tr_1 ((y4 a b ha hb).mp z).2, fun a j b _ hj => absurd hj (Nat.not_lt_zero j)⟩
      rintro n154 x154_4 σ154 ⟨hn154, i154⟩
      refine ⟨fun c3 => ?_, fun c3 => ?_⟩
      · skip
        refine h _ ?_
        · clear h; obtain ⟨y1, y2, y3, y4, y5, y6⟩ := i154
          have e : x154_4 = σ.1 70 := Int32.le_antisymm y3 (by rw [← y1.1]; exact c3)
          rw [e] at y6
          exact ⟨y1, fun a b ha hb => ⟨y5 a b ha hb, fun z => Tr_cl (R := fun a b => bR (σ154.2.2.2 86) a b = true) (fun a b E ha => ed_lt hO E ha) y4 (fun a b c ha hb hc x y => y6 a b c ha hb hc x y) ha hb z⟩⟩
      · skip
        unfold w_findReach_166
        refine ⟨fun n l4 l5 τ => n = (σ.1 70 - l5).toNatClampNeg ∧ (frL σ τ ∧ l4 = x154_4 ∧ ¬ σ.1 70 ≤ x154_4 ∧ 0 ≤ l5 ∧ l5 ≤ σ.1 70 ∧ ∀ a b, a < (σ.1 70).toNatClampNeg → b < (σ.1 70).toNatClampNeg → (bR (τ.2.2.2 86) a b = true ↔ bR (σ154.2.2.2 86) a b = true ∨ (a < l5.toNatClampNeg ∧ bR (σ154.2.2.2 86) a x154_4.toNatClampNeg = true ∧ bR (σ154.2.2.2 86) x154_4.toNatClampNeg b = true))), ⟨_, rfl, ?_⟩, ?_⟩
        · clear h; obtain ⟨y1, y2, y3, y4, y5, y6⟩ := i154
          refine ⟨y1, rfl, by rw [← y1.1]; exact c3, by decide, hO.1.1, fun a b ha hb => ⟨fun z => Or.inl z, fun z => ?_⟩⟩
          rcases z with z | z
          · exact z
          · exact absurd z.1 (Nat.not_lt_zero a)
        rintro n166 x166_4 x166_5 σ166 ⟨hn166, i166⟩
        obtain ⟨w1, w2, w3, w4, w5, w6⟩ := i166
        obtain ⟨y1, y2, y3, y4, y5, y6⟩ := i154
        have u := uk y2 w3 hO.1.2
        have mn : x154_4.toNatClampNeg < (σ.1 70).toNatClampNeg := cn_lt y2 u.2.2.2.2.1
        refine ⟨fun c4 => ?_, fun c4 => ?_⟩
        · skip
          intro x5 hx5
          refine ⟨_, cn_lt2 hn154 ?_ ?_, rfl, ?_⟩
          · clear h; rw [hx5, w2]; exact u.1  -- d6
          · clear h; rw [hx5, w2]; exact u.2.1  -- d7
          · clear h; rw [hx5, w2]
            have e : x166_5 = σ.1 70 := Int32.le_antisymm w5 (by rw [← w1.1]; exact c4)
            rw [e] at w6
            have W := war (E := edN σ a1 a2 a3) (R0 := fun a b => bR (σ154.2.2.2 86) a b = true) (R1 := fun a b => bR (σ166.2.2.2 86) a b = true) mn y4 y5 y6 (fun a b ha hb => by
              rw [w6 a b ha hb]
              constructor
              · rintro (z | z)
                · exact Or.inl z
                · exact Or.inr z.2
              · rintro (z | z)
                · exact Or.inl z
                · exact Or.inr ⟨ha, z⟩)
            refine ⟨w1, u.2.2.1, u.2.2.2.1, W.1, W.2.1, ?_⟩
            rw [cn_succ y2 (Int32.lt_trans u.2.2.2.2.2 (by decide))]
            exact W.2.2
        · skip
          have u5 := uk w4 (by rw [← w1.1]; exact c4) hO.1.2
          have kn : x166_5.toNatClampNeg < (σ.1 70).toNatClampNeg := cn_lt w4 u5.2.2.2.2.1
          have k1 := cn_succ w4 (Int32.lt_trans u5.2.2.2.2.2 (by decide))
          have wk : ∀ b, b < (σ.1 70).toNatClampNeg → (bR (σ166.2.2.2 86) x166_5.toNatClampNeg b = true ↔ bR (σ154.2.2.2 86) x166_5.toNatClampNeg b = true) := fun b hb => by
            rw [w6 _ b kn hb]
            constructor
            · rintro (z | z)
              · exact z
              · exact absurd z.1 (Nat.lt_irrefl _)
            · exact fun z => Or.inl z
          have wm : ∀ b, b < (σ.1 70).toNatClampNeg → (bR (σ166.2.2.2 86) x154_4.toNatClampNeg b = true ↔ bR (σ154.2.2.2 86) x154_4.toNatClampNeg b = true) := fun b hb => by
            rw [w6 _ b mn hb]
            constructor
            · rintro (z | z)
              · exact z
              · exact z.2.2
            · exact fun z => Or.inl z
          refine leads_c hC  ?_ (fun r6 q8 => ?_)
          · clear h; rw [w2]; exact ⟨w4, u5.2.2.2.2.2, y2, u.2.2.2.2.2⟩  -- p9
          refine ⟨fun c9 => ?_, fun c9 => ?_⟩
          · skip
            intro x10 hx10
            refine ⟨_, cn_lt2 hn166 ?_ ?_, rfl, ?_⟩
            · clear h; rw [hx10]; exact u5.1  -- d10
            · clear h; rw [hx10]; exact u5.2.1  -- d11
            · clear h; rw [hx10]
              have nk : ¬ bR (σ154.2.2.2 86) x166_5.toNatClampNeg x154_4.toNatClampNeg = true := fun z => (q8.2.mpr (by rw [w2]; exact (wk _ mn).mpr z)) c9
              refine ⟨w1, w2, w3, u5.2.2.1, u5.2.2.2.1, fun a b ha hb => ?_⟩
              rw [w6 a b ha hb, k1]
              constructor
              · rintro (z | z)
                · exact Or.inl z
                · exact Or.inr ⟨by omega, z.2⟩
              · rintro (z | z)
                · exact Or.inl z
                · by_cases e : a = x166_5.toNatClampNeg
                  · rw [e] at z; exact absurd z.2.1 nk
                  · exact Or.inr ⟨by omega, z.2⟩
          · skip
            unfold w_findReach_189
            refine ⟨fun n l4 l5 l6 τ => n = (16 - l6).toNatClampNeg ∧ (frL σ τ ∧ l4 = x154_4 ∧ l5 = x166_5 ∧ ¬ σ.1 70 ≤ x166_5 ∧ bR (σ166.2.2.2 86) x166_5.toNatClampNeg x154_4.toNatClampNeg = true ∧ 0 ≤ l6 ∧ l6 ≤ 16 ∧ (∀ w, w < l6.toNatClampNeg → τ.2.2.2 86 (16 * x166_5.toNatClampNeg + w) = σ166.2.2.2 86 (16 * x166_5.toNatClampNeg + w) ||| σ166.2.2.2 86 (16 * x154_4.toNatClampNeg + w)) ∧ (∀ x, (x < 16 * x166_5.toNatClampNeg ∨ 16 * x166_5.toNatClampNeg + l6.toNatClampNeg ≤ x) → τ.2.2.2 86 x = σ166.2.2.2 86 x)), ⟨_, rfl, ?_⟩, ?_⟩
            · clear h; have q := q8.2.mp c9
              rw [w2] at q
              exact ⟨w1, w2, rfl, by rw [← w1.1]; exact c4, q, by decide, by decide, fun w hw => absurd hw (Nat.not_lt_zero w), fun x _ => rfl⟩
            rintro n189 x189_4 x189_5 x189_6 σ189 ⟨hn189, i189⟩
            obtain ⟨v1, v2, v3, v4, v5, v6, v7, v8, v9⟩ := i189
            refine ⟨fun c11 => ?_, fun c11 => ?_⟩
            · skip
              intro x12 hx12
              refine ⟨_, cn_lt2 hn166 ?_ ?_, rfl, ?_⟩
              · clear h; rw [hx12, v3]; exact u5.1  -- d14
              · clear h; rw [hx12, v3]; exact u5.2.1  -- d15
              · clear h; rw [hx12, v3]
                have e : x189_6 = 16 := Int32.le_antisymm v7 c11
                rw [e, show (16 : Int32).toNatClampNeg = 16 from rfl] at v8 v9
                have km := (wk _ mn).mp v5
                refine ⟨v1, v2, w3, u5.2.2.1, u5.2.2.2.1, fun a b ha hb => ?_⟩
                rw [row_or v8 v9 (by omega), k1]
                by_cases ea : a = x166_5.toNatClampNeg
                · rw [if_pos ea, Bool.or_eq_true, wk b hb, wm b hb, ea]
                  constructor
                  · rintro (z | z)
                    · exact Or.inl z
                    · exact Or.inr ⟨by omega, km, z⟩
                  · rintro (z | z)
                    · exact Or.inl z
                    · exact Or.inr z.2.2
                · rw [if_neg ea, w6 a b ha hb]
                  constructor
                  · rintro (z | z)
                    · exact Or.inl z
                    · exact Or.inr ⟨by omega, z.2⟩
                  · rintro (z | z)
                    · exact Or.inl z
                    · exact Or.inr ⟨by omega, z.2⟩
            · skip
              have t := u16 v6 c11
              have xk := x16 w4 u5.2.2.2.2.2 v6 t.2.2.2.2
              have xm := x16 y2 u.2.2.2.2.2 v6 t.2.2.2.2
              have l6 : x189_6.toNatClampNeg < 16 := by have := cn_lt v6 t.2.2.2.2; rwa [show (16 : Int32).toNatClampNeg = 16 from rfl] at this
              refine ⟨ib_16000.mpr ?_, ?_⟩
              · clear h; rw [v3]; exact xk.1  -- b17
              refine ⟨ib_16000.mpr ?_, ?_⟩
              · clear h; rw [v2]; exact xm.1  -- b18
              refine ⟨ib_16000.mpr ?_, ?_⟩
              · clear h; rw [v3]; exact xk.1  -- b19
              intro σ_13 hσ_13
              intro x14 hx14
              refine ⟨_, cn_lt2 hn189 ?_ ?_, rfl, ?_⟩
              · clear h; rw [hx14]; exact t.1  -- d20
              · clear h; rw [hx14]; exact t.2.1  -- d21
              · clear h; rw [hx14]
                rw [v2, v3, xk.2, xm.2] at hσ_13
                have r13 : ∀ x, σ_13.2.2.2 86 x = if x = 16 * x166_5.toNatClampNeg + x189_6.toNatClampNeg then (σ189.2.2.2 86 (16 * x166_5.toNatClampNeg + x189_6.toNatClampNeg) ||| σ189.2.2.2 86 (16 * x154_4.toNatClampNeg + x189_6.toNatClampNeg)) else σ189.2.2.2 86 x := fun x => by rw [hσ_13, rl5]
                refine ⟨frL_tr v1 (by rw [hσ_13]; exact frL_rl), v2, v3, v4, v5, t.2.2.1, t.2.2.2.1, fun w hw => ?_, fun x hx => ?_⟩
                · rw [cn_succ v6 (Int32.lt_trans t.2.2.2.2 (by decide))] at hw
                  rw [r13]
                  by_cases e : w = x189_6.toNatClampNeg
                  · rw [e, if_pos rfl, v9 _ (by omega), v9 _ (by omega)]
                  · rw [if_neg (by omega)]; exact v8 w (by omega)
                · rw [cn_succ v6 (Int32.lt_trans t.2.2.2.2 (by decide))] at hx
                  rw [r13, if_neg (by omega)]
                  exact v9 x (by omega)
    · skip
      obtain ⟨z1, z2, z3, y1, y2, y3, y4⟩ := i32
      have c2' : ¬ σ.1 70 ≤ x32_4 := by rw [← y1.1]; exact c2
      have u := uk y2 c2' hO.1.2
      have kn : x32_4.toNatClampNeg < (σ.1 70).toNatClampNeg := cn_lt y2 u.2.2.2.2.1
      have st := ex_st hO y2 u.2.2.2.2.1
      refine ⟨ib_1001.mpr ?_, ?_⟩
      · clear h; exact ⟨y2, (k1001 y2 u.2.2.2.2.2).2.2.1⟩  -- b23
      intro x15 hx15
      unfold w_findReach_50
      refine ⟨fun n l1 l2 l3 l4 l5 τ => n = (σ.2.2.1 76 (x32_4 + 1).toNatClampNeg - l5).toNatClampNeg ∧ (l1 = a1 ∧ l2 = a2 ∧ l3 = a3 ∧ frL σ τ ∧ l4 = x32_4 ∧ ¬ σ.1 70 ≤ x32_4 ∧ σ.2.2.1 76 x32_4.toNatClampNeg ≤ l5 ∧ l5 ≤ σ.2.2.1 76 (x32_4 + 1).toNatClampNeg ∧ ∀ a b, a < (σ.1 70).toNatClampNeg → b < (σ.1 70).toNatClampNeg → (bR (τ.2.2.2 86) a b = true ↔ (a < x32_4.toNatClampNeg ∧ edN σ a1 a2 a3 a b) ∨ (a = x32_4.toNatClampNeg ∧ edI σ a1 a2 a3 a l5 b))), ⟨_, rfl, ?_⟩, ?_⟩
      · clear h; rw [y1.2.2.1] at hx15
        refine ⟨z1, z2, z3, y1, rfl, c2', by rw [hx15]; exact Int32.le_refl _, by rw [hx15, st.2.2.2.1]; exact st.2.1, fun a b ha hb => ?_⟩
        rw [y4 a b ha hb]
        constructor
        · exact fun z => Or.inl z
        · rintro (z | z)
          · exact z
          · rw [z.1, hx15] at z; exact absurd z.2 edI_0
      rintro n50 x50_1 x50_2 x50_3 x50_4 x50_5 σ50 ⟨hn50, i50⟩
      have hj113 : ∀ (l1 : Int32) (l2 : Nat) (l3 : Int32) (l4 : Int32) (l5 : Int32) (l6 : Int32) (τ : rS), (l1 = a1 ∧ l2 = a2 ∧ l3 = a3 ∧ τ = σ50 ∧ l4 = x32_4 ∧ l5 = x50_5 ∧ ¬ σ.2.2.1 76 (x32_4 + 1).toNatClampNeg ≤ x50_5 ∧ l6 = rd σ 78 x50_5 ∧ 0 ≤ l6 ∧ l6 < σ.1 70 ∧ edg σ a1 a2 a3 x32_4.toNatClampNeg x50_5 l6.toNatClampNeg) → w_findReach_113 C Q (fun l1' l2' l3' l4' τ => ∃ k < n32, (fun n l1 l2 l3 l4 τ => n = (σ.1 70 - l4).toNatClampNeg ∧ (l1 = a1 ∧ l2 = a2 ∧ l3 = a3 ∧ frL σ τ ∧ 0 ≤ l4 ∧ l4 ≤ σ.1 70 ∧ ∀ a b, a < (σ.1 70).toNatClampNeg → b < (σ.1 70).toNatClampNeg → (bR (τ.2.2.2 86) a b = true ↔ a < l4.toNatClampNeg ∧ edN σ a1 a2 a3 a b))) k l1' l2' l3' l4' τ) (fun l1' l2' l3' l4' l5' τ => ∃ k < n50, (fun n l1 l2 l3 l4 l5 τ => n = (σ.2.2.1 76 (x32_4 + 1).toNatClampNeg - l5).toNatClampNeg ∧ (l1 = a1 ∧ l2 = a2 ∧ l3 = a3 ∧ frL σ τ ∧ l4 = x32_4 ∧ ¬ σ.1 70 ≤ x32_4 ∧ σ.2.2.1 76 x32_4.toNatClampNeg ≤ l5 ∧ l5 ≤ σ.2.2.1 76 (x32_4 + 1).toNatClampNeg ∧ ∀ a b, a < (σ.1 70).toNatClampNeg → b < (σ.1 70).toNatClampNeg → (bR (τ.2.2.2 86) a b = true ↔ (a < x32_4.toNatClampNeg ∧ edN σ a1 a2 a3 a b) ∨ (a = x32_4.toNatClampNeg ∧ edI σ a1 a2 a3 a l5 b)))) k l1' l2' l3' l4' l5' τ) l1 l2 l3 l4 l5 l6 τ := by
        rintro y113_1 y113_2 y113_3 y113_4 y113_5 y113_6 τ113 j113
        unfold w_findReach_113
        obtain ⟨b1, b2, b3, j1, j2, j3, j4, j5, j6, j7, j8⟩ := j113
        obtain ⟨a1', a2', a3', i1, i2, i3', i4, i5, i6⟩ := i50
        have i0 : 0 ≤ x50_5 := Int32.le_trans st.1.1 i4
        have n1 : σ.2.2.1 76 (x32_4 + 1).toNatClampNeg ≤ 20000 := by rw [st.2.2.2.1]; exact Int32.le_trans st.2.2.1 hO.2.2.1.2
        have q := u2 i0 j4 n1
        have t1000 : y113_6 < 1000 := Int32.lt_of_lt_of_le j7 hO.1.2
        have sh := shr6 j6 t1000
        have xk := x16 y2 u.2.2.2.2.2 sh.1.1 sh.1.2
        refine ⟨ib_16000.mpr ?_, ?_⟩
        · clear h; rw [j2]; exact xk.1  -- b25
        refine ⟨ib_16000.mpr ?_, ?_⟩
        · clear h; rw [j2]; exact xk.1  -- b26
        intro σ_16 hσ_16
        intro x17 hx17
        refine ⟨_, cn_lt2 hn50 ?_ ?_, rfl, ?_⟩
        · clear h; rw [hx17, j3]; exact q.1  -- d27
        · clear h; rw [hx17, j3]; exact q.2.1  -- d28
        · clear h; rw [hx17, j3]
          rw [j2, j1] at hσ_16
          have bs := fun (a b : Nat) (hb : b < 1024) => bit_set (r := σ50.2.2.2 86) (k := x32_4.toNatClampNeg) (t := y113_6) (x := (16 * x32_4 + y113_6 >>> ((6 : Int32) &&& 31)).toNatClampNeg) j6 t1000 (by rw [xk.2, sh.2]) (r' := σ_16.2.2.2 86) (fun y => by rw [hσ_16, rl5]) (a := a) (b := b) hb
          refine ⟨b1, b2, b3, frL_tr i1 (by rw [hσ_16]; exact frL_rl), j2, i3', Int32.le_trans i4 q.2.2.2.1, q.2.2.2.2.1, fun a b ha hb => ?_⟩
          rw [bs a b (by omega), i6 a b ha hb]
          constructor
          · rintro ((z | z) | z)
            · exact Or.inl z
            · refine Or.inr ⟨z.1, ?_⟩
              rw [edI_s i0 q.2.2.2.2.2.2 (by rw [z.1]; exact i4)]
              exact Or.inl z.2
            · refine Or.inr ⟨z.1, ?_⟩
              rw [edI_s i0 q.2.2.2.2.2.2 (by rw [z.1]; exact i4), z.1, z.2]
              exact Or.inr j8
          · rintro (z | z)
            · exact Or.inl (Or.inl z)
            · obtain ⟨ze, z⟩ := z
              rw [edI_s i0 q.2.2.2.2.2.2 (by rw [ze]; exact i4)] at z
              rcases z with z | z
              · exact Or.inl (Or.inr ⟨ze, z⟩)
              · exact Or.inr ⟨ze, by rw [← z.2.1, j5]⟩
      obtain ⟨a1', a2', a3', i1, i2, i3', i4, i5, i6⟩ := i50
      have i0 : 0 ≤ x50_5 := Int32.le_trans st.1.1 i4
      have n1 : σ.2.2.1 76 (x32_4 + 1).toNatClampNeg ≤ 20000 := by rw [st.2.2.2.1]; exact Int32.le_trans st.2.2.1 hO.2.2.1.2
      refine ⟨ib_1001.mpr ?_, ?_⟩
      · clear h; rw [i2]; exact ⟨st.2.2.2.2.2.1, st.2.2.2.2.2.2⟩  -- b30
      refine ⟨fun c18 => ?_, fun c18 => ?_⟩
      · skip
        intro x19 hx19
        refine ⟨_, cn_lt2 hn32 ?_ ?_, rfl, ?_⟩
        · clear h; rw [hx19, i2]; exact u.1  -- d31
        · clear h; rw [hx19, i2]; exact u.2.1  -- d32
        · clear h; rw [hx19, i2]
          have e : x50_5 = σ.2.2.1 76 (x32_4.toNatClampNeg + 1) := by
            rw [i2, i1.2.2.1] at c18
            rw [← st.2.2.2.1]
            exact Int32.le_antisymm i5 c18
          refine ⟨a1', a2', a3', i1, u.2.2.1, u.2.2.2.1, fun a b ha hb => ?_⟩
          rw [i6 a b ha hb, cn_succ y2 (Int32.lt_trans u.2.2.2.2.2 (by decide))]
          constructor
          · rintro (z | z)
            · exact ⟨by omega, z.2⟩
            · refine ⟨by omega, ?_⟩
              have z2 := z.2
              rw [e] at z2
              rw [z.1] at z2 ⊢
              exact z2
          · rintro ⟨z1, z2⟩
            by_cases ea : a = x32_4.toNatClampNeg
            · refine Or.inr ⟨ea, ?_⟩
              rw [e]
              rw [ea] at z2 ⊢
              exact z2
            · exact Or.inl ⟨by omega, z2⟩
      · skip
        have c18' : ¬ σ.2.2.1 76 (x32_4 + 1).toNatClampNeg ≤ x50_5 := by rw [i2, i1.2.2.1] at c18; exact c18
        have q := u2 i0 c18' n1
        have i72 : x50_5 < σ.1 72 := by have := st.2.2.1; rw [← st.2.2.2.1] at this; exact Int32.lt_of_lt_of_le q.2.2.2.2.2.1 this
        have sk : (∀ b, ¬ edg σ a1 a2 a3 x32_4.toNatClampNeg x50_5 b) → x50_1 = a1 ∧ x50_2 = a2 ∧ x50_3 = a3 ∧ frL σ σ50 ∧ x50_4 = x32_4 ∧ ¬ σ.1 70 ≤ x32_4 ∧ σ.2.2.1 76 x32_4.toNatClampNeg ≤ x50_5 + 1 ∧ x50_5 + 1 ≤ σ.2.2.1 76 (x32_4 + 1).toNatClampNeg ∧ ∀ a b, a < (σ.1 70).toNatClampNeg → b < (σ.1 70).toNatClampNeg → (bR (σ50.2.2.2 86) a b = true ↔ (a < x32_4.toNatClampNeg ∧ edN σ a1 a2 a3 a b) ∨ (a = x32_4.toNatClampNeg ∧ edI σ a1 a2 a3 a (x50_5 + 1) b)) := fun ne => by
          refine ⟨a1', a2', a3', i1, i2, i3', Int32.le_trans i4 q.2.2.2.1, q.2.2.2.2.1, fun a b ha hb => ?_⟩
          rw [i6 a b ha hb]
          constructor
          · rintro (z | z)
            · exact Or.inl z
            · refine Or.inr ⟨z.1, ?_⟩
              rw [edI_s i0 q.2.2.2.2.2.2 (by rw [z.1]; exact i4)]
              exact Or.inl z.2
          · rintro (z | z)
            · exact Or.inl z
            · obtain ⟨ze, z⟩ := z
              rw [edI_s i0 q.2.2.2.2.2.2 (by rw [ze]; exact i4)] at z
              rcases z with z | z
              · exact Or.inr ⟨ze, z⟩
              · rw [ze] at z; exact absurd z (ne b)
        refine ⟨ib_20000.mpr ?_, ?_⟩
        · clear h; exact ⟨i0, q.2.2.2.2.2.2⟩  -- b34
        intro x20 hx20
        refine ⟨ib_20000.mpr ?_, ?_⟩
        · clear h; exact ⟨i0, q.2.2.2.2.2.2⟩  -- b35
        refine ⟨fun c21 => ?_, fun c21 => ?_⟩
        · skip
          intro x22 hx22
          refine ⟨_, cn_lt2 hn50 ?_ ?_, rfl, ?_⟩
          · clear h; rw [hx22]; exact q.1  -- d36
          · clear h; rw [hx22]; exact q.2.1  -- d37
          · clear h; rw [hx22]; rw [i1.2.2.1] at c21; exact sk (fun b z => c21 z.1)  -- i38
        · skip
          rw [i1.2.2.1] at c21 hx20
          have nx := ex_nx hO i0 i72 c21
          refine isTaken_c hC  ?_ (fun r23 q25 => ?_)
          · clear h; rw [i2]; exact ⟨y2, u.2.2.2.2.2⟩  -- p39
          have tk : r23 ≠ 0 ↔ (a1 = 0 ∨ σ.2.2.1 81 x32_4.toNatClampNeg = 0 ∨ x50_5 = σ.2.2.1 76 x32_4.toNatClampNeg + σ.2.2.1 83 x32_4.toNatClampNeg) := by rw [q25.2, a1', i2, rd, rd, rd, i1.2.2.1]
          refine ⟨fun c26 => ?_, fun c26 => ?_⟩
          · skip
            intro x27 hx27
            refine ⟨_, cn_lt2 hn50 ?_ ?_, rfl, ?_⟩
            · clear h; rw [hx27]; exact q.1  -- d40
            · clear h; rw [hx27]; exact q.2.1  -- d41
            · clear h; rw [hx27]; exact sk (fun b z => tk.mpr z.2.2.1 c26)  -- i42
          · skip
            refine ⟨fun c28 => ?_, fun c28 => ?_⟩
            · skip
              refine hj113 _ _ _ _ _ _ _ ?_
              · clear h; rw [a3'] at c28
                have nx : 0 ≤ x20 ∧ x20 < σ.1 70 := by rw [hx20]; exact nx
                exact ⟨a1', a2', a3', rfl, i2, rfl, c18', hx20, nx.1, nx.2, c21, by rw [hx20], tk.mp c26, Or.inl c28⟩
            · skip
              refine ⟨1000, ?_, ?_, ?_⟩
              · clear h; rw [a2']; rcases ho with z | z <;> (rw [z]; rfl)  -- t44
              · clear h; rw [i2]; exact ib_1000.mpr ⟨y2, u.2.2.2.2.2⟩  -- b45
              refine ⟨fun c29 => ?_, fun c29 => ?_⟩
              · skip
                intro x30 hx30
                refine ⟨_, cn_lt2 hn50 ?_ ?_, rfl, ?_⟩
                · clear h; rw [hx30]; exact q.1  -- d46
                · clear h; rw [hx30]; exact q.2.1  -- d47
                · clear h; rw [hx30]
                  rw [i1.2.2.1, a2', i2] at c29
                  rw [a3'] at c28
                  refine sk (fun b z => ?_)
                  rcases z.2.2.2 with y | y
                  · exact y c28
                  · exact y.1 c29
              · skip
                refine ⟨1000, ?_, ?_, ?_⟩
                · clear h; rw [a2']; rcases ho with z | z <;> (rw [z]; rfl)  -- t49
                · clear h; rw [hx20]; exact ib_1000.mpr ⟨nx.1, Int32.lt_of_lt_of_le nx.2 hO.1.2⟩  -- b50
                refine ⟨fun c31 => ?_, fun c31 => ?_⟩
                · skip
                  intro x32 hx32
                  refine ⟨_, cn_lt2 hn50 ?_ ?_, rfl, ?_⟩
                  · clear h; rw [hx32]; exact q.1  -- d51
                  · clear h; rw [hx32]; exact q.2.1  -- d52
                  · clear h; rw [hx32]
                    rw [i1.2.2.1, a2', hx20] at c31
                    rw [a3'] at c28
                    refine sk (fun b z => ?_)
                    rcases z.2.2.2 with y | y
                    · exact y c28
                    · exact y.2 (by rw [← z.2.1]; exact c31)
                · skip
                  refine hj113 _ _ _ _ _ _ _ ?_
                  · clear h; rw [i1.2.2.1, a2', i2] at c29
                    rw [i1.2.2.1, a2'] at c31
                    have nx : 0 ≤ x20 ∧ x20 < σ.1 70 := by rw [hx20]; exact nx
                    exact ⟨a1', a2', a3', rfl, i2, rfl, c18', hx20, nx.1, nx.2, c21, by rw [hx20], tk.mp c26, Or.inr ⟨c29, c31⟩⟩
  · skip
    obtain ⟨z1, z2, z3, y1, y2, y3, y4⟩ := i3
    have t := z16 hO.1.1 hO.1.2 y2 (by rw [← y1.1]; exact c1)
    refine ⟨ib_16000.mpr ?_, ?_⟩
    · clear h; exact ⟨y2, t.2.2.2.2.1⟩  -- b55
    intro σ_33 hσ_33
    intro x34 hx34
    refine ⟨_, cn_lt2 hn3 ?_ ?_, rfl, ?_⟩
    · clear h; rw [hx34]; exact t.1  -- d56
    · clear h; rw [hx34]; exact t.2.1  -- d57
    · clear h; rw [hx34]
      refine ⟨z1, z2, z3, frL_tr y1 (by rw [hσ_33]; exact frL_rl), t.2.2.1, t.2.2.2.1, fun w hw => ?_⟩
      rw [cn_succ y2 t.2.2.2.2.2] at hw
      rw [hσ_33, rl5]
      by_cases e : w = x3_4.toNatClampNeg
      · rw [if_pos e]
      · rw [if_neg e]; exact y4 w (by omega)

end
