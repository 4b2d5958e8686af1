set_option maxHeartbeats 1600000
/-! the reference: endings and nexts are kept -/
theorem xe {k i : Int32} (k0 : 0 ≤ k) (k1 : k < 1000) (i0 : 0 ≤ i) (i1 : i < 34) : (0 ≤ 35 * k + 1 + i ∧ 35 * k + 1 + i < 35000) ∧ 0 ≤ 35 * k ∧ 35 * k < 35000 := by grind
theorem le_ne {x n : Int32} (h0 : 0 ≤ x) (h1 : x ≤ n) (hn : n ≤ 20000) (h : ¬ x = n) : x < n ∧ 0 ≤ x + 1 ∧ x ≤ x + 1 ∧ x + 1 ≤ n ∧ x + 1 - 1 = x ∧ x < x + 1 := by grind
theorem endingNumber_c {C : rCx} (hC : cOK C)  {σ : rS}  {Q : Int32 → rS → Prop} (hp : 0 ≤ σ.1 71 ∧ σ.1 71 ≤ 1000) (h : ∀ (v : Int32) (σ' : rS), (frG [71] [75] σ σ' ∧ (0 ≤ σ'.1 71 ∧ σ.1 71 ≤ σ'.1 71 ∧ σ'.1 71 ≤ 1000) ∧ (v = -1 ∨ (0 ≤ v ∧ v < σ'.1 71))) → Q v σ') : cI C 0 m_endingNumber [.ref (co C)] σ Q := by
  refine m_endingNumber_run hC ?_
  unfold w_endingNumber_0
  unfold w_endingNumber_2
  refine ⟨fun n l1 τ => n = (σ.1 71 - l1).toNatClampNeg ∧ (σ = τ ∧ 0 ≤ l1 ∧ l1 ≤ σ.1 71), ⟨_, rfl, ?_⟩, ?_⟩
  · clear h; exact ⟨rfl, by decide, hp.1⟩  -- j1
  rintro n2 x2_1 _ ⟨hn2, rfl, i2⟩
  have hj78 : ∀ (l1 : Int32) (l2 : Int32) (τ : rS), (σ = τ ∧ l1 = x2_1 ∧ ¬ σ.1 71 ≤ x2_1) → w_endingNumber_78 C Q (fun l1' τ => ∃ k < n2, (fun n l1 τ => n = (σ.1 71 - l1).toNatClampNeg ∧ (σ = τ ∧ 0 ≤ l1 ∧ l1 ≤ σ.1 71)) k l1' τ) l1 l2 τ := by
    rintro y78_1 y78_2 _ ⟨rfl, j78⟩
    unfold w_endingNumber_78
    have u := uk i2.1 j78.2 hp.2
    refine ⟨fun c1 => ?_, fun c1 => ?_⟩
    · skip
      intro x2 hx2
      refine ⟨_, cn_lt2 hn2 ?_ ?_, rfl, ?_⟩
      · clear h; rw [hx2, j78.1]; exact u.1  -- d2
      · clear h; rw [hx2, j78.1]; exact u.2.1  -- d3
      · clear h; rw [hx2, j78.1]; exact ⟨rfl, u.2.2.1, u.2.2.2.1⟩  -- i4
    · skip
      refine h _ _ ?_
      · clear h; rw [j78.1]; exact ⟨frG_refl, ⟨hp.1, Int32.le_refl _, hp.2⟩, Or.inr ⟨i2.1, u.2.2.2.2.1⟩⟩  -- q5
  have hj31 : ∀ (l1 : Int32) (s0 : Int32) (τ : rS), (σ = τ ∧ l1 = x2_1 ∧ ¬ σ.1 71 ≤ x2_1 ∧ nb s0) → w_endingNumber_31 C Q (fun l1' τ => ∃ k < n2, (fun n l1 τ => n = (σ.1 71 - l1).toNatClampNeg ∧ (σ = τ ∧ 0 ≤ l1 ∧ l1 ≤ σ.1 71)) k l1' τ) l1 s0 τ := by
    rintro y31_1 y31_s0 _ ⟨rfl, j31⟩
    unfold w_endingNumber_31
    unfold w_endingNumber_34
    refine ⟨fun n l1 l2 l3 τ => n = (34 - l3).toNatClampNeg ∧ (σ = τ ∧ l1 = x2_1 ∧ nb l2 ∧ 0 ≤ l3 ∧ l3 ≤ 34), ⟨_, rfl, ?_⟩, ?_⟩
    · clear h; exact ⟨rfl, j31.1, j31.2.2, by decide, by decide⟩  -- j6
    rintro n34 x34_1 x34_2 x34_3 _ ⟨hn34, rfl, i34⟩
    have hj71 : ∀ (l1 : Int32) (l3 : Int32) (s0 : Int32) (τ : rS), (σ = τ ∧ l1 = x2_1 ∧ l3 = x34_3 ∧ ¬ 34 ≤ x34_3 ∧ nb s0) → w_endingNumber_71 C Q (fun l1' τ => ∃ k < n2, (fun n l1 τ => n = (σ.1 71 - l1).toNatClampNeg ∧ (σ = τ ∧ 0 ≤ l1 ∧ l1 ≤ σ.1 71)) k l1' τ) (fun l1' l2' l3' τ => ∃ k < n34, (fun n l1 l2 l3 τ => n = (34 - l3).toNatClampNeg ∧ (σ = τ ∧ l1 = x2_1 ∧ nb l2 ∧ 0 ≤ l3 ∧ l3 ≤ 34)) k l1' l2' l3' τ) l1 l3 s0 τ := by
      rintro y71_1 y71_3 y71_s0 _ ⟨rfl, j71⟩
      unfold w_endingNumber_71
      intro x3 hx3
      have u := up34 i34.2.2.1 j71.2.2.1
      refine ⟨_, cn_lt2 hn34 ?_ ?_, rfl, ?_⟩
      · clear h; rw [hx3, j71.2.1]; exact u.1  -- d7
      · clear h; rw [hx3, j71.2.1]; exact u.2.1  -- d8
      · clear h; rw [hx3, j71.2.1]; exact ⟨rfl, j71.1, j71.2.2.2, u.2.2.1, u.2.2.2.1⟩  -- i9
    refine ⟨fun c4 => ?_, fun c4 => ?_⟩
    · skip
      refine hj78 _ _ _ ?_
      · clear h; exact ⟨rfl, i34.1, j31.2.1⟩  -- k10
    · skip
      refine ⟨fun c5 => ?_, fun c5 => ?_⟩
      · skip
        refine hj78 _ _ _ ?_
        · clear h; exact ⟨rfl, i34.1, j31.2.1⟩  -- k11
      · skip
        have u := up34 i34.2.2.1 c4
        have z := xe i2.1 (uk i2.1 j31.2.1 hp.2).2.2.2.2.2 i34.2.2.1 u.2.2.2.2
        refine ⟨ib_35000.mpr ?_, ?_⟩
        · clear h; rw [i34.1]; exact z.1  -- b12
        refine ⟨ib_34.mpr ?_, ?_⟩
        · clear h; exact ⟨i34.2.2.1, u.2.2.2.2⟩  -- b13
        refine ⟨fun c6 => ?_, fun c6 => ?_⟩
        · skip
          refine hj71 _ _ _ _ ?_
          · clear h; exact ⟨rfl, i34.1, rfl, c4, nb_0⟩  -- k14
        · skip
          refine hj71 _ _ _ _ ?_
          · clear h; exact ⟨rfl, i34.1, rfl, c4, nb_1⟩  -- k15
  refine ⟨fun c7 => ?_, fun c7 => ?_⟩
  · skip
    refine ⟨fun c8 => ?_, fun c8 => ?_⟩
    · skip
      refine ⟨ib_35000.mpr ?_, ?_⟩
      · clear h; have lt := le_ne hp.1 hp.2 (by decide) c8
        exact (xe hp.1 lt.1 (Int32.le_refl 0) (by decide)).2
      intro σ_9 hσ_9
      unfold w_endingNumber_120
      refine ⟨fun n l1 τ => n = (34 - l1).toNatClampNeg ∧ (frG [] [75] σ τ ∧ 0 ≤ l1 ∧ l1 ≤ 34), ⟨_, rfl, ?_⟩, ?_⟩
      · clear h; exact ⟨by rw [hσ_9]; exact frG_1 (by decide), by decide, by decide⟩  -- j17
      rintro n120 x120_1 σ120 ⟨hn120, i120⟩
      refine ⟨fun c10 => ?_, fun c10 => ?_⟩
      · skip
        intro σ_11 hσ_11
        refine h _ _ ?_
        · clear h; have lt := le_ne hp.1 hp.2 (by decide) c8
          have e71 : σ_11.1 71 = σ.1 71 + 1 := by rw [hσ_11, si1, if_pos rfl, i120.1.1 71 (by decide)]
          rw [e71, lt.2.2.2.2.1]
          exact ⟨frG_tr (frG_mono i120.1 (by decide) (by decide)) (by rw [hσ_11]; exact frG_0 (by decide)), ⟨lt.2.1, lt.2.2.1, lt.2.2.2.1⟩, Or.inr ⟨hp.1, lt.2.2.2.2.2⟩⟩
      · skip
        have u := up34 i120.2.1 c10
        refine ⟨ib_34.mpr ?_, ?_⟩
        · clear h; exact ⟨i120.2.1, u.2.2.2.2⟩  -- b19
        refine ⟨ib_35000.mpr ?_, ?_⟩
        · clear h; have lt := le_ne hp.1 hp.2 (by decide) c8
          rw [i120.1.1 71 (by decide)]; exact (xe hp.1 lt.1 i120.2.1 u.2.2.2.2).1
        intro σ_12 hσ_12
        intro x13 hx13
        refine ⟨_, cn_lt2 hn120 ?_ ?_, rfl, ?_⟩
        · clear h; rw [hx13]; exact u.1  -- d21
        · clear h; rw [hx13]; exact u.2.1  -- d22
        · clear h; rw [hx13]; exact ⟨frG_tr i120.1 (by rw [hσ_12]; exact frG_1 (by decide)), u.2.2.1, u.2.2.2.1⟩  -- i23
    · skip
      refine h _ _ ?_
      · clear h; exact ⟨frG_refl, ⟨hp.1, Int32.le_refl _, hp.2⟩, Or.inl rfl⟩  -- q24
  · skip
    refine ⟨ib_35000.mpr ?_, ?_⟩
    · clear h; exact (xe i2.1 (uk i2.1 c7 hp.2).2.2.2.2.2 (Int32.le_refl 0) (by decide)).2  -- b25
    refine ⟨fun c14 => ?_, fun c14 => ?_⟩
    · skip
      refine hj31 _ _ _ ?_
      · clear h; exact ⟨rfl, rfl, c7, nb_0⟩  -- k26
    · skip
      refine hj31 _ _ _ ?_
      · clear h; exact ⟨rfl, rfl, c7, nb_1⟩  -- k27

/-- ranges of the numbers of states, endings, nexts -/
def exRR9 (σ : rS) : Prop := (0 ≤ σ.1 70 ∧ σ.1 70 ≤ σ.1 85 ∧ σ.1 85 ≤ 1000) ∧ (0 ≤ σ.1 71 ∧ σ.1 71 ≤ 1000) ∧ (0 ≤ σ.1 72 ∧ σ.1 72 ≤ 20000)
/-- a next in order -/
def nxE (σ : rS) (i : Nat) : Prop := (σ.2.2.1 77 i = 0 ∨ σ.2.2.1 77 i = 1 ∨ σ.2.2.1 77 i = 2 ∨ σ.2.2.1 77 i = 3) ∧ (σ.2.2.1 77 i = 0 → 0 ≤ σ.2.2.1 78 i ∧ σ.2.2.1 78 i < σ.1 70) ∧ (σ.2.2.1 77 i = 1 → 0 ≤ σ.2.2.1 78 i ∧ σ.2.2.1 78 i < σ.1 71)
/-- the sum of n weights from a on -/
def wOf (r : Nat → Int32) (a n : Nat) : Int := wsum (fun j => r (a + j)) n
/-- rows of states stay in order, new ones are -/
def rwKR9 (σ σ' : rS) : Prop := (∀ k : Int32, 0 ≤ k → k < σ.1 70 → rowOK σ k → rowOK σ' k) ∧ (∀ k : Int32, 0 ≤ k → σ.1 70 ≤ k → k < σ'.1 70 → rowOK σ' k)
/-- what a next that was added or joined changes -/
def anQ (σ σ' : rS) (a w joins : Int32) : Prop := (∀ i, i < (σ.1 72).toNatClampNeg → nxE σ i → nxE σ' i) ∧ (∀ i, (σ.1 72).toNatClampNeg ≤ i → i < (σ'.1 72).toNatClampNeg → nxE σ' i) ∧ (∀ i, i < a.toNatClampNeg → σ'.2.2.1 79 i = σ.2.2.1 79 i) ∧ (∀ i, a.toNatClampNeg ≤ i → i < (σ'.1 72).toNatClampNeg → 1 ≤ σ'.2.2.1 79 i) ∧ wOf (σ'.2.2.1 79) a.toNatClampNeg ((σ'.1 72).toNatClampNeg - a.toNatClampNeg) = wOf (σ.2.2.1 79) a.toNatClampNeg ((σ.1 72).toNatClampNeg - a.toNatClampNeg) + w.toInt ∧ a < σ'.1 72 ∧ (joins = 0 → σ'.1 72 = σ.1 72 + 1)
abbrev anF : List Nat := [70, 71, 72]
abbrev anR : List Nat := [73, 74, 75, 77, 78, 79, 84]
/-- a next's number was found -/
def anS (σ τ : rS) (h s : Int32) : Prop := frG [70, 71] [73, 74, 75, 84] σ τ ∧ exRR9 τ ∧ (σ.1 70 ≤ τ.1 70 ∧ σ.1 71 ≤ τ.1 71) ∧ rwKR9 σ τ ∧ (h = 0 → 0 ≤ s ∧ s < τ.1 70) ∧ (h = 1 → 0 ≤ s ∧ s < τ.1 71)
theorem wsum_congr {f g : Nat → Int32} {n : Nat} (h : ∀ j, j < n → f j = g j) : wsum f n = wsum g n := by
  induction n with
  | zero => rfl
  | succ n ih =>
    show wsum f n + (f n).toInt = wsum g n + (g n).toInt
    rw [ih (fun j hj => h j (by omega)), h n (by omega)]
theorem wsum_upd {f : Nat → Int32} {n k : Nat} {x : Int32} (hk : k < n) : wsum (upd f k x) n = wsum f n + (x.toInt - (f k).toInt) := by
  induction n with
  | zero => omega
  | succ n ih =>
    show wsum (upd f k x) n + (upd f k x n).toInt = wsum f n + (f n).toInt + (x.toInt - (f k).toInt)
    by_cases e : k = n
    · subst e
      rw [upd_eq, wsum_congr (fun j hj => upd_ne (by omega) : ∀ j, j < k → upd f k x j = f j)]
      omega
    · rw [ih (by omega), upd_ne (fun z => e z.symm)]
      omega
theorem wsum_ge {f : Nat → Int32} {n k : Nat} (h : ∀ j, j < n → 0 ≤ (f j).toInt) (hk : k < n) : (f k).toInt ≤ wsum f n := by
  induction n with
  | zero => omega
  | succ n ih =>
    show (f k).toInt ≤ wsum f n + (f n).toInt
    have hn := h n (by omega)
    have h0 : 0 ≤ wsum f n := by
      clear ih hk hn
      induction n with
      | zero => exact Int.le_refl _
      | succ n ih =>
        have := ih (fun j hj => h j (by omega))
        have := h n (by omega)
        show 0 ≤ wsum f n + (f n).toInt
        omega
    by_cases e : k = n
    · subst e; omega
    · have := ih (fun j hj => h j (by omega)) (by omega)
      omega
theorem wOf_app {r : Nat → Int32} {a n : Nat} {x : Int32} : wOf (upd r (a + n) x) a (n + 1) = wOf r a n + x.toInt := by
  show wsum (fun j => upd r (a + n) x (a + j)) n + (upd r (a + n) x (a + n)).toInt = _
  rw [upd_eq, wsum_congr (fun j hj => upd_ne (by omega) : ∀ j, j < n → upd r (a + n) x (a + j) = r (a + j))]
  rfl
theorem wOf_upd {r : Nat → Int32} {a n k : Nat} {x : Int32} (hk : k < n) : wOf (upd r (a + k) x) a n = wOf r a n + (x.toInt - (r (a + k)).toInt) := by
  have e : (fun j => upd r (a + k) x (a + j)) = upd (fun j => r (a + j)) k x := by
    funext j
    unfold upd
    by_cases z : j = k
    · rw [if_pos (by omega), if_pos z]
    · rw [if_neg (by omega), if_neg z]
  show wsum (fun j => upd r (a + k) x (a + j)) n = _
  rw [e, wsum_upd hk]
  rfl
theorem nx_mono {σ υ : rS} {i : Nat} (h : nxE σ i) (h77 : υ.2.2.1 77 i = σ.2.2.1 77 i) (h78 : υ.2.2.1 78 i = σ.2.2.1 78 i) (h70 : σ.1 70 ≤ υ.1 70) (h71 : σ.1 71 ≤ υ.1 71) : nxE υ i := by
  unfold nxE
  rw [h77, h78]
  exact ⟨h.1, fun z => ⟨(h.2.1 z).1, Int32.lt_of_lt_of_le (h.2.1 z).2 h70⟩, fun z => ⟨(h.2.2 z).1, Int32.lt_of_lt_of_le (h.2.2 z).2 h71⟩⟩
theorem cn_l {x y : Int32} (h : x ≤ y) (h0 : 0 ≤ x) : x.toNatClampNeg ≤ y.toNatClampNeg := by
  have h1 := ti h
  have e1 := cn_int h0
  have e2 := cn_int (Int32.le_trans h0 h)
  omega
theorem rw_o {σ τ υ : rS} (h : rwKR9 σ τ) (h73 : υ.2.2.1 73 = τ.2.2.1 73) (h30 : υ.2.2.1 30 = τ.2.2.1 30) (h19 : υ.1 19 = τ.1 19) (h70 : υ.1 70 = τ.1 70) : rwKR9 σ υ := by
  refine ⟨fun k k0 k1 r => row_o (h.1 k k0 k1 r) h73 h30 h19, fun k k0 k1 k2 => row_o (h.2 k k0 k1 (by rw [← h70]; exact k2)) h73 h30 h19⟩
theorem an_app {σ τ υ : rS} {h s a w j : Int32} (q : anS σ τ h s) (hh : h = 0 ∨ h = 1 ∨ h = 2 ∨ h = 3) (h0 : 0 ≤ a) (h1 : a ≤ σ.1 72) (hw : 1 ≤ w) (hg : ∀ i, a.toNatClampNeg ≤ i → i < (σ.1 72).toNatClampNeg → 1 ≤ σ.2.2.1 79 i) (c : ¬ τ.1 72 = 20000) (e : ∀ k, k ≠ 72 → υ.1 k = τ.1 k) (e72 : υ.1 72 = τ.1 72 + 1) (r77 : υ.2.2.1 77 = upd (τ.2.2.1 77) (τ.1 72).toNatClampNeg h) (r78 : υ.2.2.1 78 = upd (τ.2.2.1 78) (τ.1 72).toNatClampNeg s) (r79 : υ.2.2.1 79 = upd (τ.2.2.1 79) (τ.1 72).toNatClampNeg w) : exRR9 υ ∧ σ.1 72 ≤ υ.1 72 ∧ anQ σ υ a w j := by
  obtain ⟨f, hR, hm, hk, n0, n1⟩ := q
  have d72 : τ.1 72 = σ.1 72 := f.1 72 (by decide)
  have lt := le_ne hR.2.2.1 hR.2.2.2 (by decide) c
  rw [d72] at lt
  rw [d72] at e72 r77 r78 r79
  have en : (υ.1 72).toNatClampNeg = (σ.1 72).toNatClampNeg + 1 := by rw [e72]; exact cn_succ (Int32.le_trans h0 h1) (Int32.lt_trans lt.1 (by decide))
  have t77 : τ.2.2.1 77 = σ.2.2.1 77 := f.2.2.1 77 (by decide)
  have t78 : τ.2.2.1 78 = σ.2.2.1 78 := f.2.2.1 78 (by decide)
  have t79 : τ.2.2.1 79 = σ.2.2.1 79 := f.2.2.1 79 (by decide)
  rw [t77] at r77
  rw [t78] at r78
  rw [t79] at r79
  have la := cn_l h1 h0
  have x70 := e 70 (by decide)
  have x71 := e 71 (by decide)
  refine ⟨⟨by rw [x70, e 85 (by decide)]; exact hR.1, by rw [x71]; exact hR.2.1, by rw [e72]; exact ⟨lt.2.1, lt.2.2.2.1⟩⟩, by rw [e72]; exact lt.2.2.1, fun i hi hx => ?_, fun i hi hi2 => ?_, fun i hi => ?_, fun i hi hi2 => ?_, ?_, ?_, fun _ => e72⟩
  · exact nx_mono hx (by rw [r77, upd_ne (by omega)]) (by rw [r78, upd_ne (by omega)]) (by rw [x70]; exact hm.1) (by rw [x71]; exact hm.2)
  · have ei : i = (σ.1 72).toNatClampNeg := by omega
    unfold nxE
    rw [r77, r78, ei, upd_eq, upd_eq, x70, x71]
    exact ⟨hh, n0, n1⟩
  · rw [r79, upd_ne (by omega)]
  · rw [r79]
    by_cases z : i = (σ.1 72).toNatClampNeg
    · rw [z, upd_eq]; exact hw
    · rw [upd_ne z]; exact hg i hi (by omega)
  · rw [en, r79, show (σ.1 72).toNatClampNeg + 1 - a.toNatClampNeg = ((σ.1 72).toNatClampNeg - a.toNatClampNeg) + 1 by omega]
    have z := wOf_app (r := σ.2.2.1 79) (a := a.toNatClampNeg) (n := (σ.1 72).toNatClampNeg - a.toNatClampNeg) (x := w)
    rw [show a.toNatClampNeg + ((σ.1 72).toNatClampNeg - a.toNatClampNeg) = (σ.1 72).toNatClampNeg by omega] at z
    exact z
  · rw [e72]; exact Int32.lt_of_le_of_lt h1 lt.2.2.2.2.2
theorem an_join {σ τ υ : rS} {h s a w j k : Int32} (q : anS σ τ h s) (h0 : 0 ≤ a) (h1 : a ≤ σ.1 72) (hw : 1 ≤ w) (hg : ∀ i, a.toNatClampNeg ≤ i → i < (σ.1 72).toNatClampNeg → 1 ≤ σ.2.2.1 79 i) (hs : wOf (σ.2.2.1 79) a.toNatClampNeg ((σ.1 72).toNatClampNeg - a.toNatClampNeg) + w.toInt ≤ 8000000) (k0 : a ≤ k) (k1 : k < σ.1 72) (hj : ¬ j = 0) (e : ∀ k, υ.1 k = τ.1 k) (r77 : υ.2.2.1 77 = τ.2.2.1 77) (r78 : υ.2.2.1 78 = τ.2.2.1 78) (r79 : υ.2.2.1 79 = upd (τ.2.2.1 79) k.toNatClampNeg (τ.2.2.1 79 k.toNatClampNeg + w)) : exRR9 υ ∧ σ.1 72 ≤ υ.1 72 ∧ anQ σ υ a w j := by
  obtain ⟨f, hR, hm, hk, n0, n1⟩ := q
  have d72 : υ.1 72 = σ.1 72 := (e 72).trans (f.1 72 (by decide))
  have t77 : τ.2.2.1 77 = σ.2.2.1 77 := f.2.2.1 77 (by decide)
  have t78 : τ.2.2.1 78 = σ.2.2.1 78 := f.2.2.1 78 (by decide)
  have t79 : τ.2.2.1 79 = σ.2.2.1 79 := f.2.2.1 79 (by decide)
  rw [t77] at r77
  rw [t78] at r78
  rw [t79] at r79
  have la := cn_l k0 h0
  have lk := cn_lt (Int32.le_trans h0 k0) k1
  have ge := wsum_ge (f := fun j => σ.2.2.1 79 (a.toNatClampNeg + j)) (n := (σ.1 72).toNatClampNeg - a.toNatClampNeg) (k := k.toNatClampNeg - a.toNatClampNeg) (fun j hj => t0 (Int32.le_trans (by decide) (hg _ (by omega) (by omega)))) (by omega)
  have ge' : (σ.2.2.1 79 k.toNatClampNeg).toInt ≤ wOf (σ.2.2.1 79) a.toNatClampNeg ((σ.1 72).toNatClampNeg - a.toNatClampNeg) := by
    have z : a.toNatClampNeg + (k.toNatClampNeg - a.toNatClampNeg) = k.toNatClampNeg := by omega
    simp only [z] at ge
    exact ge
  have w1 := hg k.toNatClampNeg la lk
  have p1 : 0 ≤ σ.2.2.1 79 k.toNatClampNeg := Int32.le_trans (by decide) w1
  have p2 : 0 ≤ w := Int32.le_trans (by decide) hw
  have ad := i_add p1 p2 (by omega)
  have w1' := ti w1
  have hw' := ti hw
  rw [show (1 : Int32).toInt = 1 from rfl] at w1' hw'
  refine ⟨⟨by rw [e 70, e 85]; exact hR.1, by rw [e 71]; exact hR.2.1, by rw [e 72]; exact hR.2.2⟩, by rw [d72]; exact Int32.le_refl _, fun i hi hx => ?_, fun i hi hi2 => ?_, fun i hi => ?_, fun i hi hi2 => ?_, ?_, ?_, fun z => absurd z hj⟩
  · exact nx_mono hx (by rw [r77]) (by rw [r78]) (by rw [e 70]; exact hm.1) (by rw [e 71]; exact hm.2)
  · rw [d72] at hi2; omega
  · rw [r79, upd_ne (by omega)]
  · rw [d72] at hi2
    rw [r79]
    by_cases z : i = k.toNatClampNeg
    · rw [z, upd_eq]
      refine Int32.le_iff_toInt_le.mpr ?_
      rw [ad, show (1 : Int32).toInt = 1 from rfl]
      omega
    · rw [upd_ne z]; exact hg i hi hi2
  · rw [d72, r79]
    have z := wOf_upd (r := σ.2.2.1 79) (a := a.toNatClampNeg) (n := (σ.1 72).toNatClampNeg - a.toNatClampNeg) (k := k.toNatClampNeg - a.toNatClampNeg) (x := σ.2.2.1 79 k.toNatClampNeg + w) (by omega)
    rw [show a.toNatClampNeg + (k.toNatClampNeg - a.toNatClampNeg) = k.toNatClampNeg by omega, ad] at z
    rw [z]; omega
  · rw [d72]; exact Int32.lt_of_le_of_lt k0 k1
theorem u2 {x n : Int32} (h0 : 0 ≤ x) (h : ¬ n ≤ x) (hn : n ≤ 20000) : 0 ≤ n - (x + 1) ∧ n - (x + 1) < n - x ∧ 0 ≤ x + 1 ∧ x ≤ x + 1 ∧ x + 1 ≤ n ∧ x < n ∧ x < 20000 := by grind
theorem addNext_c {C : rCx} (hC : cOK C)  {σ : rS} {a1 : Int32} {a2 : Int32} {a3 : Int32} {a4 : Int32} {Q : Int32 → rS → Prop} (hp : exRR9 σ ∧ (a1 = 0 ∨ a1 = 1 ∨ a1 = 2 ∨ a1 = 3) ∧ (a1 = 0 → csF σ) ∧ 0 ≤ a4 ∧ a4 ≤ σ.1 72 ∧ 1 ≤ a2 ∧ (∀ i, a4.toNatClampNeg ≤ i → i < (σ.1 72).toNatClampNeg → 1 ≤ σ.2.2.1 79 i) ∧ wOf (σ.2.2.1 79) a4.toNatClampNeg ((σ.1 72).toNatClampNeg - a4.toNatClampNeg) + a2.toInt ≤ 8000000) (h : ∀ (v : Int32) (σ' : rS), (frG anF anR σ σ' ∧ exRR9 σ' ∧ (σ.1 70 ≤ σ'.1 70 ∧ σ.1 71 ≤ σ'.1 71 ∧ σ.1 72 ≤ σ'.1 72) ∧ rwKR9 σ σ' ∧ nb v ∧ (v ≠ 0 → anQ σ σ' a4 a2 a3)) → Q v σ') : cI C 3 m_addNext [.ref (co C), .int a1, .int a2, .int a3, .int a4] σ Q := by
  refine m_addNext_run hC ?_
  unfold w_addNext_0
  obtain ⟨hR, hh, hc, h0, h1, hw, hg, hs⟩ := hp
  have hj110 : ∀ (l1 : Int32) (l2 : Int32) (l5 : Int32) (τ : rS), (l1 = a1 ∧ l2 = a2 ∧ anS σ τ a1 l5) → w_addNext_110 C Q  l1 l2 l5 τ := by
    rintro y110_1 y110_2 y110_5 τ110 j110
    unfold w_addNext_110
    obtain ⟨z1, z2, z3⟩ := j110
    have b72 : 0 ≤ τ110.1 72 ∧ τ110.1 72 < 20000 → True := fun _ => trivial
    refine ⟨fun c1 => ?_, fun c1 => ?_⟩
    · skip
      refine ⟨ib_20000.mpr ?_, ?_⟩
      · clear h; exact ⟨z3.2.1.2.2.1, (le_ne z3.2.1.2.2.1 z3.2.1.2.2.2 (by decide) c1).1⟩  -- b1
      intro σ_2 hσ_2
      refine ⟨ib_20000.mpr ?_, ?_⟩
      · clear h; rw [hσ_2, ri1]; exact ⟨z3.2.1.2.2.1, (le_ne z3.2.1.2.2.1 z3.2.1.2.2.2 (by decide) c1).1⟩  -- b2
      intro σ_3 hσ_3
      refine ⟨ib_20000.mpr ?_, ?_⟩
      · clear h; rw [hσ_3, ri1, hσ_2, ri1]; exact ⟨z3.2.1.2.2.1, (le_ne z3.2.1.2.2.1 z3.2.1.2.2.2 (by decide) c1).1⟩  -- b3
      intro σ_4 hσ_4
      intro σ_5 hσ_5
      refine h _ _ ?_
      · clear h; have e5 : ∀ k, k ≠ 72 → σ_5.1 k = τ110.1 k := fun k hk => by rw [hσ_5, si1, if_neg hk, hσ_4, ri1, hσ_3, ri1, hσ_2, ri1]
        have e72 : σ_5.1 72 = τ110.1 72 + 1 := by rw [hσ_5, si1, if_pos rfl, hσ_4, ri1, hσ_3, ri1, hσ_2, ri1]
        have r77 : σ_5.2.2.1 77 = upd (τ110.2.2.1 77) (τ110.1 72).toNatClampNeg a1 := by rw [hσ_5, si2, hσ_4, ri3 (by decide), hσ_3, ri3 (by decide), hσ_2, ri_row, z1]
        have r78 : σ_5.2.2.1 78 = upd (τ110.2.2.1 78) (τ110.1 72).toNatClampNeg y110_5 := by rw [hσ_5, si2, hσ_4, ri3 (by decide), hσ_3, ri_row, hσ_2, ri1, ri3 (by decide)]
        have r79 : σ_5.2.2.1 79 = upd (τ110.2.2.1 79) (τ110.1 72).toNatClampNeg a2 := by rw [hσ_5, si2, hσ_4, ri_row, hσ_3, ri1, ri3 (by decide), hσ_2, ri1, ri3 (by decide), z2]
        have w := an_app (j := a3) z3 hh h0 h1 hw hg c1 e5 e72 r77 r78 r79
        have fr : frG anF anR τ110 σ_5 := by rw [hσ_5, hσ_4, hσ_3, hσ_2]; exact frG_tr (frG_tr (frG_tr (frG_1 (by decide)) (frG_1 (by decide))) (frG_1 (by decide))) (frG_0 (by decide))
        exact ⟨frG_tr (frG_mono z3.1 (by decide) (by decide)) fr, w.1, ⟨by rw [e5 70 (by decide)]; exact z3.2.2.1.1, by rw [e5 71 (by decide)]; exact z3.2.2.1.2, w.2.1⟩, rw_o z3.2.2.2.1 (by rw [hσ_5, si2, hσ_4, ri3 (by decide), hσ_3, ri3 (by decide), hσ_2, ri3 (by decide)]) (by rw [hσ_5, si2, hσ_4, ri3 (by decide), hσ_3, ri3 (by decide), hσ_2, ri3 (by decide)]) (e5 19 (by decide)) (e5 70 (by decide)), nb_1, fun _ => w.2.2⟩
    · skip
      refine h _ _ ?_
      · clear h; exact ⟨frG_mono z3.1 (by decide) (by decide), z3.2.1, ⟨z3.2.2.1.1, z3.2.2.1.2, by rw [z3.1.1 72 (by decide)]; exact Int32.le_refl _⟩, z3.2.2.2.1, nb_0, fun z => absurd rfl z⟩  -- q5
  have hh55 : ∀ (l1 : Int32) (l2 : Int32) (l3 : Int32) (l5 : Int32) (l6 : Int32) (τ : rS), (l1 = a1 ∧ l2 = a2 ∧ l3 = a3 ∧ anS σ τ a1 l5 ∧ a4 ≤ l6 ∧ l6 ≤ σ.1 72) → w_addNext_55 C Q  l1 l2 l3 l5 l6 τ := by
    intro z1 z2 z3 z5 z6 τi hinit
    unfold w_addNext_55
    refine ⟨fun n l1 l2 l3 l5 l6 τ => n = (τ.1 72 - l6).toNatClampNeg ∧ (l1 = a1 ∧ l2 = a2 ∧ l3 = a3 ∧ anS σ τ a1 l5 ∧ a4 ≤ l6 ∧ l6 ≤ σ.1 72), ⟨_, rfl, hinit⟩, ?_⟩
    clear hinit
    rintro n55 x55_1 x55_2 x55_3 x55_5 x55_6 σ55 ⟨hn55, i55⟩
    obtain ⟨z1, z2, z3, y1, y2, y3⟩ := i55
    have e72 : σ55.1 72 = σ.1 72 := y1.1.1 72 (by decide)
    have p0 : 0 ≤ x55_6 := Int32.le_trans h0 y2
    refine ⟨fun c6 => ?_, fun c6 => ?_⟩
    · skip
      refine hj110 _ _ _ _ ?_
      · clear h; exact ⟨z1, z2, y1⟩  -- k6
    · skip
      refine ⟨fun c7 => ?_, fun c7 => ?_⟩
      · skip
        refine hj110 _ _ _ _ ?_
        · clear h; exact ⟨z1, z2, y1⟩  -- k7
      · skip
        have u := u2 p0 c6 y1.2.1.2.2.2
        refine ⟨ib_20000.mpr ?_, ?_⟩
        · clear h; exact ⟨p0, u.2.2.2.2.2.2⟩  -- b8
        refine ⟨fun c8 => ?_, fun c8 => ?_⟩
        · skip
          intro x9 hx9
          refine ⟨_, cn_lt2 hn55 ?_ ?_, rfl, ?_⟩
          · clear h; rw [hx9]; exact u.1  -- d9
          · clear h; rw [hx9]; exact u.2.1  -- d10
          · clear h; rw [hx9]; exact ⟨z1, z2, z3, y1, Int32.le_trans y2 u.2.2.2.1, by rw [← e72]; exact u.2.2.2.2.1⟩  -- i11
        · skip
          refine ⟨ib_20000.mpr ?_, ?_⟩
          · clear h; exact ⟨p0, u.2.2.2.2.2.2⟩  -- b12
          refine ⟨fun c10 => ?_, fun c10 => ?_⟩
          · skip
            intro x11 hx11
            refine ⟨_, cn_lt2 hn55 ?_ ?_, rfl, ?_⟩
            · clear h; rw [hx11]; exact u.1  -- d13
            · clear h; rw [hx11]; exact u.2.1  -- d14
            · clear h; rw [hx11]; exact ⟨z1, z2, z3, y1, Int32.le_trans y2 u.2.2.2.1, by rw [← e72]; exact u.2.2.2.2.1⟩  -- i15
          · skip
            refine ⟨ib_20000.mpr ?_, ?_⟩
            · clear h; exact ⟨p0, u.2.2.2.2.2.2⟩  -- b16
            refine ⟨ib_20000.mpr ?_, ?_⟩
            · clear h; exact ⟨p0, u.2.2.2.2.2.2⟩  -- b17
            intro σ_12 hσ_12
            refine h _ _ ?_
            · clear h; have e12 : ∀ k, σ_12.1 k = σ55.1 k := fun k => by rw [hσ_12, ri1]
              have w := an_join (j := a3) y1 h0 h1 hw hg hs y2 (by rw [← e72]; exact u.2.2.2.2.2.1) (by rw [← z3]; exact c7) e12 (by rw [hσ_12, ri3 (by decide)]) (by rw [hσ_12, ri3 (by decide)]) (by rw [hσ_12, ri_row, z2])
              exact ⟨frG_tr (frG_mono y1.1 (by decide) (by decide)) (by rw [hσ_12]; exact frG_1 (by decide)), w.1, ⟨by rw [e12]; exact y1.2.2.1.1, by rw [e12]; exact y1.2.2.1.2, w.2.1⟩, rw_o y1.2.2.2.1 (by rw [hσ_12, ri3 (by decide)]) (by rw [hσ_12, ri3 (by decide)]) (e12 19) (e12 70), nb_1, fun _ => w.2.2⟩
  have hj36 : ∀ (l1 : Int32) (l2 : Int32) (l3 : Int32) (l4 : Int32) (s0 : Int32) (τ : rS), (l1 = a1 ∧ l2 = a2 ∧ l3 = a3 ∧ l4 = a4 ∧ frG [70, 71] [73, 74, 75, 84] σ τ ∧ exRR9 τ ∧ (σ.1 70 ≤ τ.1 70 ∧ σ.1 71 ≤ τ.1 71) ∧ rwKR9 σ τ ∧ (a1 = 0 → s0 = -1 ∨ (0 ≤ s0 ∧ s0 < τ.1 70)) ∧ (a1 = 1 → s0 = -1 ∨ (0 ≤ s0 ∧ s0 < τ.1 71))) → w_addNext_36 C Q  l1 l2 l3 l4 s0 τ := by
    rintro y36_1 y36_2 y36_3 y36_4 y36_s0 τ36 j36
    unfold w_addNext_36
    obtain ⟨z1, z2, z3, z4, y1, y2, y3, y4, y5, y6⟩ := j36
    refine ⟨fun c13 => ?_, fun c13 => ?_⟩
    · skip
      refine hh55 _ _ _ _ _ _ ?_
      · clear h; exact ⟨z1, z2, z3, ⟨y1, y2, y3, y4, fun z => Or.resolve_left (y5 z) c13, fun z => Or.resolve_left (y6 z) c13⟩, by rw [z4]; exact Int32.le_refl _, by rw [z4]; exact h1⟩  -- j19
    · skip
      refine ⟨fun c14 => ?_, fun c14 => ?_⟩
      · skip
        refine hh55 _ _ _ _ _ _ ?_
        · clear h; rw [z1] at c14
          exact ⟨z1, z2, z3, ⟨y1, y2, y3, y4, fun z => absurd c14 (by rw [z]; decide), fun z => absurd c14 (by rw [z]; decide)⟩, by rw [z4]; exact Int32.le_refl _, by rw [z4]; exact h1⟩
      · skip
        refine h _ _ ?_
        · clear h; exact ⟨frG_mono y1 (by decide) (by decide), y2, ⟨y3.1, y3.2, by rw [y1.1 72 (by decide)]; exact Int32.le_refl _⟩, y4, nb_0, fun z => absurd rfl z⟩  -- q21
  have self : rwKR9 σ σ := ⟨fun _ _ _ r => r, fun k _ k1 k2 => absurd k2 (Int32.not_lt.mpr k1)⟩
  refine ⟨fun c15 => ?_, fun c15 => ?_⟩
  · skip
    refine ⟨fun c16 => ?_, fun c16 => ?_⟩
    · skip
      refine ⟨fun c17 => ?_, fun c17 => ?_⟩
      · skip
        refine hj36 _ _ _ _ _ _ ?_
        · clear h; exact ⟨rfl, rfl, rfl, rfl, frG_refl, hR, ⟨Int32.le_refl _, Int32.le_refl _⟩, self, fun z => absurd z c15, fun z => absurd z c16⟩  -- k22
      · skip
        refine hj36 _ _ _ _ _ _ ?_
        · clear h; exact ⟨rfl, rfl, rfl, rfl, frG_refl, hR, ⟨Int32.le_refl _, Int32.le_refl _⟩, self, fun z => absurd z c15, fun z => absurd z c16⟩  -- k23
    · skip
      refine endingNumber_c hC  ?_ (fun r18 σ_19 q20 => ?_)
      · clear h; exact hR.2.1  -- p24
      refine hj36 _ _ _ _ _ _ ?_
      · clear h; have e := fun k hk => q20.1.1 k hk
        exact ⟨rfl, rfl, rfl, rfl, frG_mono q20.1 (by decide) (by decide), ⟨by rw [e 70 (by decide), e 85 (by decide)]; exact hR.1, ⟨q20.2.1.1, q20.2.1.2.2⟩, by rw [e 72 (by decide)]; exact hR.2.2⟩, ⟨by rw [e 70 (by decide)]; exact Int32.le_refl _, q20.2.1.2.1⟩, rw_o self (q20.1.2.2.1 73 (by decide)) (q20.1.2.2.1 30 (by decide)) (e 19 (by decide)) (e 70 (by decide)), fun z => absurd z c15, fun _ => q20.2.2⟩
  · skip
    refine stateNumber_c hC  ?_ (fun r21 σ_22 q23 => ?_)
    · clear h; exact ⟨hc c15, hR.1⟩  -- p26
    refine hj36 _ _ _ _ _ _ ?_
    · clear h; have e := fun k hk => q23.1.1 k hk
      exact ⟨rfl, rfl, rfl, rfl, frG_mono q23.1 (by decide) (by decide), ⟨⟨q23.2.1.1, by rw [e 85 (by decide)]; exact q23.2.1.2.2, by rw [e 85 (by decide)]; exact hR.1.2.2⟩, by rw [e 71 (by decide)]; exact hR.2.1, by rw [e 72 (by decide)]; exact hR.2.2⟩, ⟨q23.2.1.2.1, by rw [e 71 (by decide)]; exact Int32.le_refl _⟩, ⟨q23.2.2.2.1, q23.2.2.2.2⟩, fun _ => q23.2.2.1, fun z => absurd (c15.symm.trans z) (by decide)⟩
