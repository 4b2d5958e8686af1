set_option maxHeartbeats 1600000
/-! the reference: states kept as rows -/
theorem ix9 {a k : Int32} (a0 : 0 ≤ a) (a1 : a < 12) (k0 : 0 ≤ k) (k1 : k < 8) : (0 ≤ 8 * a + k ∧ 8 * a + k < 96) ∧ (0 ≤ 36 + 9 * a + k ∧ 36 + 9 * a + k < 143) ∧ (0 ≤ 35 + 9 * a ∧ 35 + 9 * a < 143) := by grind
theorem ix9n {a k c : Int32} (a0 : 0 ≤ a) (a1 : a < 12) (k0 : 0 ≤ k) (k1 : k < 8) (c0 : 0 ≤ c) (c1 : c < 12) : 36 + 9 * a + k ≠ 35 + 9 * c := by grind
theorem ix9m {a c : Int32} (a0 : 0 ≤ a) (a1 : a < 12) (c0 : 0 ≤ c) (c1 : c < a) : 35 + 9 * c < 35 + 9 * a ∧ 0 ≤ 35 + 9 * c := by grind
theorem ix0 {a k : Int32} (a0 : 0 ≤ a) (a1 : a < 12) (k0 : 0 ≤ k) (k1 : k < 8) : 0 < 36 + 9 * a + k ∧ 0 < 35 + 9 * a := by grind
theorem cn_d {x y : Int32} (hx : 0 ≤ x) (hy : 0 ≤ y) (h : x ≠ y) : x.toNatClampNeg ≠ y.toNatClampNeg := fun e => h (cn_inj hx hy e)
/-- the first n calls of the state stand in the key -/
def kyN (σ : rS) (n : Int32) : Prop := rd σ 84 0 = σ.1 58 ∧ ∀ c : Int32, 0 ≤ c → c < n → rd σ 84 (35 + 9 * c) = rd σ 59 c
theorem ky_w {σ : rS} {n i x : Int32} (h : kyN σ n) (i0 : 0 < i) (hn : n ≤ 12) (hi : ∀ c : Int32, 0 ≤ c → c < n → i ≠ 35 + 9 * c) : kyN (riU σ 84 i.toNatClampNeg x) n := by
  refine ⟨?_, fun c c0 c1 => ?_⟩
  · rw [rd, ri4, if_neg (cn_ne (Int32.le_refl 0) i0), ri1]; exact h.1
  · have b := (ix9 c0 (Int32.lt_of_lt_of_le c1 hn) (Int32.le_refl 0) (by decide)).2.2.1
    rw [rd, ri4, if_neg (cn_d b (Int32.le_of_lt i0) (fun e => hi c c0 c1 e.symm)), rd, ri3 (by decide)]
    exact h.2 c c0 c1
theorem ky_s {σ : rS} {n : Int32} (h : kyN σ n) (n0 : 0 ≤ n) (n1 : n < 12) : kyN (riU σ 84 (35 + 9 * n).toNatClampNeg (σ.2.2.1 59 n.toNatClampNeg)) (n + 1) := by
  have b := ix9 n0 n1 (Int32.le_refl 0) (by decide)
  refine ⟨?_, fun c c0 c1 => ?_⟩
  · rw [rd, ri4, if_neg (cn_ne (Int32.le_refl 0) (ix0 n0 n1 (Int32.le_refl 0) (by decide)).2), ri1]; exact h.1
  · rcases s_lt1 n0 (Int32.lt_trans n1 (by decide)) c1 with e | e
    · rw [e, rd, ri4, if_pos rfl, rd, ri3 (by decide)]
    · have m := ix9m n0 n1 c0 e
      rw [rd, ri4, if_neg (cn_ne m.2 m.1), rd, ri3 (by decide)]
      exact h.2 c c0 e
theorem u143 {x : Int32} (h0 : 0 ≤ x) (h : ¬ 143 ≤ x) : 0 ≤ 143 - (x + 1) ∧ 143 - (x + 1) < 143 - x ∧ 0 ≤ x + 1 ∧ x + 1 ≤ 143 ∧ x < 143 := by grind
theorem u34 {x : Int32} (h0 : 0 ≤ x) (h : ¬ 34 ≤ x) : 0 < 1 + x ∧ 1 + x < 143 ∧ 0 ≤ 1 + x := by grind
theorem u12 {x n : Int32} (h0 : 0 ≤ x) (h : ¬ n ≤ x) (hn : n ≤ 12) : 0 ≤ n - (x + 1) ∧ n - (x + 1) < n - x ∧ 0 ≤ x + 1 ∧ x + 1 ≤ n ∧ x < 12 := by grind
theorem pack_c {C : rCx} (hC : cOK C)  {σ : rS}  {Q : Int32 → rS → Prop} (hp : 0 ≤ σ.1 58 ∧ σ.1 58 ≤ 12) (h : ∀ (v : Int32) (σ' : rS), (frG [] [84] σ σ' ∧ kyN σ' (σ.1 58)) → Q v σ') : cI C 0 m_pack [.ref (co C)] σ Q := by
  refine m_pack_run hC ?_
  unfold w_pack_0
  unfold w_pack_2
  refine ⟨fun n l1 τ => n = (143 - l1).toNatClampNeg ∧ (frG [] [84] σ τ ∧ 0 ≤ l1 ∧ l1 ≤ 143), ⟨_, rfl, ?_⟩, ?_⟩
  · clear h; exact ⟨frG_refl, by decide, by decide⟩  -- j1
  rintro n2 x2_1 σ2 ⟨hn2, i2⟩
  refine ⟨fun c1 => ?_, fun c1 => ?_⟩
  · skip
    refine ⟨ib_143.mpr ?_, ?_⟩
    · clear h; exact ⟨by decide, by decide⟩  -- b2
    intro σ_2 hσ_2
    unfold w_pack_34
    refine ⟨fun n l1 τ => n = (34 - l1).toNatClampNeg ∧ (frG [] [84] σ τ ∧ 0 ≤ l1 ∧ l1 ≤ 34 ∧ kyN τ 0), ⟨_, rfl, ?_⟩, ?_⟩
    · clear h; exact ⟨frG_tr i2.1 (by rw [hσ_2]; exact frG_1 (by decide)), by decide, by decide, by rw [rd, hσ_2, ri4, if_pos rfl, ri1], fun c c0 c1 => absurd c1 (Int32.not_lt.mpr c0)⟩  -- j3
    rintro n34 x34_1 σ34 ⟨hn34, i34⟩
    refine ⟨fun c3 => ?_, fun c3 => ?_⟩
    · skip
      unfold w_pack_62
      refine ⟨fun n l1 τ => n = (σ.1 58 - l1).toNatClampNeg ∧ (frG [] [84] σ τ ∧ 0 ≤ l1 ∧ l1 ≤ σ.1 58 ∧ kyN τ l1), ⟨_, rfl, ?_⟩, ?_⟩
      · clear h; exact ⟨i34.1, by decide, hp.1, i34.2.2.2⟩  -- j4
      rintro n62 x62_1 σ62 ⟨hn62, i62⟩
      refine ⟨fun c4 => ?_, fun c4 => ?_⟩
      · skip
        unfold w_pack_137
        refine ⟨fun n l1 l2 τ => n = (143 - l2).toNatClampNeg ∧ (frG [] [84] σ τ ∧ 0 ≤ l2 ∧ l2 ≤ 143 ∧ kyN τ (σ.1 58)), ⟨_, rfl, ?_⟩, ?_⟩
        · clear h; refine ⟨i62.1, by decide, by decide, ?_⟩
          have e : x62_1 = σ.1 58 := Int32.le_antisymm i62.2.2.1 (by rw [← i62.1.1 58 (by decide)]; exact c4)
          rw [← e]; exact i62.2.2.2
        rintro n137 x137_1 x137_2 σ137 ⟨hn137, i137⟩
        refine ⟨fun c5 => ?_, fun c5 => ?_⟩
        · skip
          refine h _ _ ?_
          · clear h; exact ⟨i137.1, i137.2.2.2⟩  -- q6
        · skip
          refine ⟨ib_143.mpr ?_, ?_⟩
          · clear h; exact ⟨i137.2.1, (u143 i137.2.1 c5).2.2.2.2⟩  -- b7
          intro x6 hx6
          intro x7 hx7
          refine ⟨_, cn_lt2 hn137 ?_ ?_, rfl, ?_⟩
          · clear h; rw [hx7]; exact (u143 i137.2.1 c5).1  -- d8
          · clear h; rw [hx7]; exact (u143 i137.2.1 c5).2.1  -- d9
          · clear h; rw [hx7]; exact ⟨i137.1, (u143 i137.2.1 c5).2.2.1, (u143 i137.2.1 c5).2.2.2.1, i137.2.2.2⟩  -- i10
      · skip
        have c4' : ¬ σ.1 58 ≤ x62_1 := by rw [← i62.1.1 58 (by decide)]; exact c4
        have w := u12 i62.2.1 c4' hp.2
        refine ⟨ib_12.mpr ?_, ?_⟩
        · clear h; exact ⟨i62.2.1, w.2.2.2.2⟩  -- b11
        refine ⟨ib_143.mpr ?_, ?_⟩
        · clear h; exact (ix9 i62.2.1 w.2.2.2.2 (Int32.le_refl 0) (by decide)).2.2  -- b12
        intro σ_8 hσ_8
        unfold w_pack_90
        refine ⟨fun n l1 l2 τ => n = (8 - l2).toNatClampNeg ∧ (frG [] [84] σ τ ∧ l1 = x62_1 ∧ ¬ σ.1 58 ≤ x62_1 ∧ 0 ≤ l2 ∧ l2 ≤ 8 ∧ kyN τ (x62_1 + 1)), ⟨_, rfl, ?_⟩, ?_⟩
        · clear h; exact ⟨frG_tr i62.1 (by rw [hσ_8]; exact frG_1 (by decide)), rfl, c4', by decide, by decide, by rw [hσ_8]; exact ky_s i62.2.2.2 i62.2.1 w.2.2.2.2⟩  -- j13
        rintro n90 x90_1 x90_2 σ90 ⟨hn90, i90⟩
        refine ⟨fun c9 => ?_, fun c9 => ?_⟩
        · skip
          intro x10 hx10
          refine ⟨_, cn_lt2 hn62 ?_ ?_, rfl, ?_⟩
          · clear h; rw [hx10, i90.2.1]; exact w.1  -- d14
          · clear h; rw [hx10, i90.2.1]; exact w.2.1  -- d15
          · clear h; rw [hx10, i90.2.1]; exact ⟨i90.1, w.2.2.1, w.2.2.2.1, i90.2.2.2.2.2⟩  -- i16
        · skip
          have u := up8 i90.2.2.2.1 c9
          have z := ix9 i62.2.1 w.2.2.2.2 i90.2.2.2.1 u.2.2.2.2.1
          refine ⟨ib_96.mpr ?_, ?_⟩
          · clear h; rw [i90.2.1]; exact z.1  -- b17
          refine ⟨ib_143.mpr ?_, ?_⟩
          · clear h; rw [i90.2.1]; exact z.2.1  -- b18
          intro σ_11 hσ_11
          intro x12 hx12
          refine ⟨_, cn_lt2 hn90 ?_ ?_, rfl, ?_⟩
          · clear h; rw [hx12]; exact u.1  -- d19
          · clear h; rw [hx12]; exact u.2.1  -- d20
          · clear h; rw [hx12]
            refine ⟨frG_tr i90.1 (by rw [hσ_11]; exact frG_1 (by decide)), i90.2.1, c4', u.2.2.1, u.2.2.2.1, ?_⟩
            rw [hσ_11, i90.2.1]
            exact ky_w i90.2.2.2.2.2 (ix0 i62.2.1 w.2.2.2.2 i90.2.2.2.1 u.2.2.2.2.1).1 (Int32.le_trans w.2.2.2.1 hp.2) (fun c c0 c1 => ix9n i62.2.1 w.2.2.2.2 i90.2.2.2.1 u.2.2.2.2.1 c0 (Int32.lt_of_lt_of_le c1 (Int32.le_trans w.2.2.2.1 hp.2)))
    · skip
      have u := up34 i34.2.1 c3
      have z := u34 i34.2.1 c3
      refine ⟨ib_34.mpr ?_, ?_⟩
      · clear h; exact ⟨i34.2.1, u.2.2.2.2⟩  -- b22
      refine ⟨ib_143.mpr ?_, ?_⟩
      · clear h; exact ⟨z.2.2, z.2.1⟩  -- b23
      intro σ_13 hσ_13
      intro x14 hx14
      refine ⟨_, cn_lt2 hn34 ?_ ?_, rfl, ?_⟩
      · clear h; rw [hx14]; exact u.1  -- d24
      · clear h; rw [hx14]; exact u.2.1  -- d25
      · clear h; rw [hx14]
        exact ⟨frG_tr i34.1 (by rw [hσ_13]; exact frG_1 (by decide)), u.2.2.1, u.2.2.2.1, by rw [hσ_13]; exact ky_w i34.2.2.2 z.1 (by decide) (fun c c0 c1 => absurd c1 (Int32.not_lt.mpr c0))⟩
  · skip
    have u := u143 i2.2.1 c1
    refine ⟨ib_143.mpr ?_, ?_⟩
    · clear h; exact ⟨i2.2.1, u.2.2.2.2⟩  -- b27
    intro σ_15 hσ_15
    intro x16 hx16
    refine ⟨_, cn_lt2 hn2 ?_ ?_, rfl, ?_⟩
    · clear h; rw [hx16]; exact u.1  -- d28
    · clear h; rw [hx16]; exact u.2.1  -- d29
    · clear h; rw [hx16]; exact ⟨frG_tr i2.1 (by rw [hσ_15]; exact frG_1 (by decide)), u.2.2.1, u.2.2.2.1⟩  -- i30

/-- a state's row in order -/
def rowOK (σ : rS) (k : Int32) : Prop := 1 ≤ rd σ 73 (143 * k) ∧ rd σ 73 (143 * k) ≤ 12 ∧ (∀ c : Int32, 0 ≤ c → c < rd σ 73 (143 * k) → 0 ≤ rd σ 73 (143 * k + 35 + 9 * c) ∧ rd σ 73 (143 * k + 35 + 9 * c) < σ.1 19) ∧ (∀ c : Int32, 0 ≤ c → c < rd σ 73 (143 * k) - 1 → rd σ 30 (rd σ 73 (143 * k + 35 + 9 * c)) = 5)
theorem xr {k i : Int32} (k0 : 0 ≤ k) (k1 : k < 1000) (i0 : 0 ≤ i) (i1 : i < 143) : (0 ≤ 143 * k + i ∧ 143 * k + i < 143000) ∧ 0 ≤ 143 * k ∧ 143 * k < 143000 := by grind
theorem xr1 {k i : Int32} (k0 : 0 ≤ k) (k1 : k < 1000) (i0 : 0 ≤ i) (i1 : i < 34) : 0 ≤ 143 * k + 1 + i ∧ 143 * k + 1 + i < 143000 := by grind
theorem xr9 {k a i : Int32} (k0 : 0 ≤ k) (k1 : k < 1000) (a0 : 0 ≤ a) (a1 : a < 12) (i0 : 0 ≤ i) (i1 : i < 8) : (0 ≤ 143 * k + 36 + 9 * a + i ∧ 143 * k + 36 + 9 * a + i < 143000) ∧ (0 ≤ 143 * k + 35 + 9 * a ∧ 143 * k + 35 + 9 * a < 143000) := by grind
/-- the first n calls are those of a state's row -/
def upN (σ : rS) (k n : Int32) : Prop := σ.1 58 = rd σ 73 (143 * k) ∧ ∀ c : Int32, 0 ≤ c → c < n → rd σ 59 c = rd σ 73 (143 * k + 35 + 9 * c)
theorem up_o {σ τ : rS} {k n : Int32} (h : upN σ k n) (h58 : τ.1 58 = σ.1 58) (h73 : τ.2.2.1 73 = σ.2.2.1 73) (h59 : τ.2.2.1 59 = σ.2.2.1 59) : upN τ k n := by
  unfold upN
  simp only [rd]
  rw [h58, h73, h59]; exact h
theorem up_s {σ : rS} {k n : Int32} (h : upN σ k n) (n0 : 0 ≤ n) (n1 : n < 12) : upN (riU σ 59 n.toNatClampNeg (σ.2.2.1 73 (143 * k + 35 + 9 * n).toNatClampNeg)) k (n + 1) := by
  refine ⟨by rw [ri1, rd, ri3 (by decide)]; exact h.1, fun c c0 c1 => ?_⟩
  rcases s_lt1 n0 (Int32.lt_trans n1 (by decide)) c1 with e | e
  · rw [e, rd, ri4, if_pos rfl, rd, ri3 (by decide)]
  · rw [rd, ri4, if_neg (cn_ne c0 e), rd, ri3 (by decide)]
    exact h.2 c c0 e
theorem c_pr {c x : Int32} (h1 : 1 ≤ x) (h2 : x ≤ 12) (h : c < x - 1) : c < x := by grind
theorem up_F {σ : rS} {k : Int32} (h : upN σ k (σ.1 58)) (r : rowOK σ k) : csF σ := by
  obtain ⟨r1, r2, r3, r4⟩ := r
  have e := h.1
  rw [← e] at r1 r2 r3 r4
  have m := c_m1 r1 r2
  have mm : σ.1 58 - 1 < σ.1 58 := by clear r3 r4 h e; grind
  refine ⟨⟨r1, r2⟩, fun c c0 c1 => ?_, ?_, ?_⟩
  · have c2 := c_pr r1 r2 c1
    rw [h.2 c c0 c2]
    exact ⟨(r3 c c0 c2).1, (r3 c c0 c2).2, r4 c c0 c1⟩
  · rw [h.2 _ m.1 mm]; exact (r3 _ m.1 mm).1
  · rw [h.2 _ m.1 mm]; exact (r3 _ m.1 mm).2
theorem row_o {σ τ : rS} {k : Int32} (h : rowOK σ k) (h73 : τ.2.2.1 73 = σ.2.2.1 73) (h30 : τ.2.2.1 30 = σ.2.2.1 30) (h19 : τ.1 19 = σ.1 19) : rowOK τ k := by
  unfold rowOK
  simp only [rd]
  rw [h73, h30, h19]; exact h
theorem unpack_c {C : rCx} (hC : cOK C)  {σ : rS} {a1 : Int32} {Q : rS → Prop} (hp : 0 ≤ a1 ∧ a1 < 1000 ∧ rowOK σ a1) (h : ∀ (σ' : rS), (frG [58] [57, 59, 60] σ σ' ∧ csF σ') → Q σ') : cV C 0 m_unpack [.ref (co C), .int a1] σ Q := by
  refine m_unpack_run hC ?_
  unfold w_unpack_0
  obtain ⟨h0, h1, hr⟩ := hp
  intro x1 hx1
  refine ⟨ib_143000.mpr ?_, ?_⟩
  · clear h; rw [hx1]; exact (xr h0 h1 (Int32.le_refl 0) (by decide)).2  -- b1
  intro σ_2 hσ_2
  unfold w_unpack_18
  refine ⟨fun n l2 l3 τ => n = (34 - l3).toNatClampNeg ∧ (frG [58] [57, 59, 60] σ τ ∧ l2 = 143 * a1 ∧ 0 ≤ l3 ∧ l3 ≤ 34 ∧ upN τ a1 0), ⟨_, rfl, ?_⟩, ?_⟩
  · clear h; exact ⟨by rw [hσ_2]; exact frG_0 (by decide), hx1, by decide, by decide, by rw [hσ_2, si1, if_pos rfl, rd, si2, hx1], fun c c0 c1 => absurd c1 (Int32.not_lt.mpr c0)⟩  -- j2
  rintro n18 x18_2 x18_3 σ18 ⟨hn18, i18⟩
  refine ⟨fun c3 => ?_, fun c3 => ?_⟩
  · skip
    unfold w_unpack_48
    refine ⟨fun n l2 l3 τ => n = (τ.1 58 - l3).toNatClampNeg ∧ (frG [58] [57, 59, 60] σ τ ∧ l2 = 143 * a1 ∧ 0 ≤ l3 ∧ l3 ≤ τ.1 58 ∧ upN τ a1 l3), ⟨_, rfl, ?_⟩, ?_⟩
    · clear h; have e : σ18.1 58 = rd σ 73 (143 * a1) := by rw [i18.2.2.2.2.1, rd, i18.1.2.2.1 73 (by decide)]
      exact ⟨i18.1, i18.2.1, by decide, by rw [e]; exact Int32.le_trans (by decide) hr.1, i18.2.2.2.2⟩
    rintro n48 x48_2 x48_3 σ48 ⟨hn48, i48⟩
    refine ⟨fun c4 => ?_, fun c4 => ?_⟩
    · skip
      refine h _ ?_
      · clear h; have e : x48_3 = σ48.1 58 := Int32.le_antisymm i48.2.2.2.1 c4
        have z := i48.2.2.2.2
        rw [e] at z
        exact ⟨i48.1, up_F z (row_o hr (i48.1.2.2.1 73 (by decide)) (i48.1.2.2.1 30 (by decide)) (i48.1.1 19 (by decide)))⟩
    · skip
      have e58 : σ48.1 58 ≤ 12 := by rw [i48.2.2.2.2.1, rd, i48.1.2.2.1 73 (by decide)]; exact hr.2.1
      have w := u12 i48.2.2.1 c4 e58
      refine ⟨ib_143000.mpr ?_, ?_⟩
      · clear h; rw [i48.2.1]; exact (xr9 h0 h1 i48.2.2.1 w.2.2.2.2 (Int32.le_refl 0) (by decide)).2  -- b5
      refine ⟨ib_12.mpr ?_, ?_⟩
      · clear h; exact ⟨i48.2.2.1, w.2.2.2.2⟩  -- b6
      intro σ_5 hσ_5
      unfold w_unpack_79
      refine ⟨fun n l2 l3 l4 τ => n = (8 - l4).toNatClampNeg ∧ (frG [58] [57, 59, 60] σ τ ∧ l2 = 143 * a1 ∧ l3 = x48_3 ∧ τ.1 58 = σ48.1 58 ∧ 0 ≤ l4 ∧ l4 ≤ 8 ∧ upN τ a1 (x48_3 + 1)), ⟨_, rfl, ?_⟩, ?_⟩
      · clear h; exact ⟨frG_tr i48.1 (by rw [hσ_5]; exact frG_1 (by decide)), i48.2.1, rfl, by rw [hσ_5, ri1], by decide, by decide, by rw [hσ_5, i48.2.1]; exact up_s i48.2.2.2.2 i48.2.2.1 w.2.2.2.2⟩  -- j7
      rintro n79 x79_2 x79_3 x79_4 σ79 ⟨hn79, i79⟩
      refine ⟨fun c6 => ?_, fun c6 => ?_⟩
      · skip
        intro x7 hx7
        refine ⟨_, cn_lt2 hn48 ?_ ?_, rfl, ?_⟩
        · clear h; rw [hx7, i79.2.2.1, i79.2.2.2.1]; exact w.1  -- d8
        · clear h; rw [hx7, i79.2.2.1, i79.2.2.2.1]; exact w.2.1  -- d9
        · clear h; rw [hx7, i79.2.2.1]; exact ⟨i79.1, i79.2.1, w.2.2.1, by rw [i79.2.2.2.1]; exact w.2.2.2.1, i79.2.2.2.2.2.2⟩  -- i10
      · skip
        have u := up8 i79.2.2.2.2.1 c6
        have z := xr9 h0 h1 i48.2.2.1 w.2.2.2.2 i79.2.2.2.2.1 u.2.2.2.2.1
        have z2 := ix9 i48.2.2.1 w.2.2.2.2 i79.2.2.2.2.1 u.2.2.2.2.1
        refine ⟨ib_143000.mpr ?_, ?_⟩
        · clear h; rw [i79.2.1, i79.2.2.1]; exact z.1  -- b11
        refine ⟨ib_96.mpr ?_, ?_⟩
        · clear h; rw [i79.2.2.1]; exact z2.1  -- b12
        intro σ_8 hσ_8
        intro x9 hx9
        refine ⟨_, cn_lt2 hn79 ?_ ?_, rfl, ?_⟩
        · clear h; rw [hx9]; exact u.1  -- d13
        · clear h; rw [hx9]; exact u.2.1  -- d14
        · clear h; rw [hx9]; exact ⟨frG_tr i79.1 (by rw [hσ_8]; exact frG_1 (by decide)), i79.2.1, i79.2.2.1, by rw [hσ_8, ri1]; exact i79.2.2.2.1, u.2.2.1, u.2.2.2.1, up_o i79.2.2.2.2.2.2 (by rw [hσ_8, ri1]) (by rw [hσ_8, ri3 (by decide)]) (by rw [hσ_8, ri3 (by decide)])⟩  -- i15
  · skip
    have u := up34 i18.2.2.1 c3
    refine ⟨ib_143000.mpr ?_, ?_⟩
    · clear h; rw [i18.2.1]; exact xr1 h0 h1 i18.2.2.1 u.2.2.2.2  -- b16
    refine ⟨ib_34.mpr ?_, ?_⟩
    · clear h; exact ⟨i18.2.2.1, u.2.2.2.2⟩  -- b17
    intro σ_10 hσ_10
    intro x11 hx11
    refine ⟨_, cn_lt2 hn18 ?_ ?_, rfl, ?_⟩
    · clear h; rw [hx11]; exact u.1  -- d18
    · clear h; rw [hx11]; exact u.2.1  -- d19
    · clear h; rw [hx11]; exact ⟨frG_tr i18.1 (by rw [hσ_10]; exact frG_1 (by decide)), i18.2.1, u.2.2.1, u.2.2.2.1, up_o i18.2.2.2.2 (by rw [hσ_10, ri1]) (by rw [hσ_10, ri3 (by decide)]) (by rw [hσ_10, ri3 (by decide)])⟩  -- i20

theorem isKey_c {C : rCx} (hC : cOK C)  {σ : rS} {a1 : Int32} {Q : Int32 → rS → Prop} (hp : 0 ≤ a1 ∧ a1 < 1000) (h : ∀ (v : Int32), (nb v) → Q v σ) : cI C 0 m_isKey [.ref (co C), .int a1] σ Q := by
  refine m_isKey_run hC ?_
  unfold w_isKey_0
  unfold w_isKey_4
  refine ⟨fun n l1 l2 l3 τ => n = (143 - l3).toNatClampNeg ∧ (σ = τ ∧ l1 = a1 ∧ nb l2 ∧ 0 ≤ l3 ∧ l3 ≤ 143), ⟨_, rfl, ?_⟩, ?_⟩
  · clear h; exact ⟨rfl, rfl, nb_1, by decide, by decide⟩  -- j1
  rintro n4 x4_1 x4_2 x4_3 _ ⟨hn4, rfl, i4⟩
  have hj41 : ∀ (l1 : Int32) (l3 : Int32) (s0 : Int32) (τ : rS), (σ = τ ∧ l1 = a1 ∧ l3 = x4_3 ∧ nb s0 ∧ ¬ 143 ≤ x4_3) → w_isKey_41 C Q (fun l1' l2' l3' τ => ∃ k < n4, (fun n l1 l2 l3 τ => n = (143 - l3).toNatClampNeg ∧ (σ = τ ∧ l1 = a1 ∧ nb l2 ∧ 0 ≤ l3 ∧ l3 ≤ 143)) k l1' l2' l3' τ) l1 l3 s0 τ := by
    rintro y41_1 y41_3 y41_s0 _ ⟨rfl, j41⟩
    unfold w_isKey_41
    intro x1 hx1
    have u := u143 i4.2.2.1 j41.2.2.2
    refine ⟨_, cn_lt2 hn4 ?_ ?_, rfl, ?_⟩
    · clear h; rw [hx1, j41.2.1]; exact u.1  -- d2
    · clear h; rw [hx1, j41.2.1]; exact u.2.1  -- d3
    · clear h; rw [hx1, j41.2.1]; exact ⟨rfl, j41.1, j41.2.2.1, u.2.2.1, u.2.2.2.1⟩  -- i4
  refine ⟨fun c2 => ?_, fun c2 => ?_⟩
  · skip
    refine ⟨?_, h _ ?_⟩
    · clear h; exact i4.2.1  -- b5
    · clear h; exact i4.2.1  -- q6
  · skip
    refine ⟨fun c3 => ?_, fun c3 => ?_⟩
    · skip
      refine ⟨?_, h _ ?_⟩
      · clear h; exact i4.2.1  -- b7
      · clear h; exact i4.2.1  -- q8
    · skip
      refine ⟨ib_143000.mpr ?_, ?_⟩
      · clear h; rw [i4.1]; exact (xr hp.1 hp.2 i4.2.2.1 (u143 i4.2.2.1 c2).2.2.2.2).1  -- b9
      refine ⟨ib_143.mpr ?_, ?_⟩
      · clear h; exact ⟨i4.2.2.1, (u143 i4.2.2.1 c2).2.2.2.2⟩  -- b10
      refine ⟨fun c4 => ?_, fun c4 => ?_⟩
      · skip
        refine hj41 _ _ _ _ ?_
        · clear h; exact ⟨rfl, i4.1, rfl, nb_0, c2⟩  -- k11
      · skip
        refine hj41 _ _ _ _ ?_
        · clear h; exact ⟨rfl, i4.1, rfl, nb_1, c2⟩  -- k12

theorem uk {x n : Int32} (h0 : 0 ≤ x) (h : ¬ n ≤ x) (hn : n ≤ 1000) : 0 ≤ n - (x + 1) ∧ n - (x + 1) < n - x ∧ 0 ≤ x + 1 ∧ x + 1 ≤ n ∧ x < n ∧ x < 1000 := by grind
theorem ky_o {σ τ : rS} {n : Int32} (h : kyN σ n) (h58 : τ.1 58 = σ.1 58) (h84 : τ.2.2.1 84 = σ.2.2.1 84) (h59 : τ.2.2.1 59 = σ.2.2.1 59) : kyN τ n := by
  unfold kyN
  simp only [rd]
  rw [h58, h84, h59]; exact h
theorem lt_85 {x m : Int32} (h0 : 0 ≤ x) (h1 : x ≤ m) (h2 : m ≤ 1000) (h : ¬ x = m) : x < 1000 ∧ x + 1 ≤ m ∧ 0 ≤ x + 1 ∧ x ≤ x + 1 ∧ x + 1 - 1 = x ∧ x < x + 1 := by grind
theorem xr_lt {k s j : Int32} (k0 : 0 ≤ k) (k1 : k < s) (s1 : s < 1000) (j0 : 0 ≤ j) (j1 : j < 143) : 143 * k + j < 143 * s ∧ 0 ≤ 143 * k + j := by grind
theorem ra {k c : Int32} : 143 * k + 35 + 9 * c = 143 * k + (35 + 9 * c) := by grind
theorem r0 {k : Int32} : 143 * k = 143 * k + 0 := by grind
theorem row_old {σ τ : rS} {k s : Int32} (h : rowOK σ k) (k0 : 0 ≤ k) (k1 : k < s) (s1 : s < 1000) (h30 : τ.2.2.1 30 = σ.2.2.1 30) (h19 : τ.1 19 = σ.1 19) (hr : ∀ j : Int32, 0 ≤ j → j < 143 * s → rd τ 73 j = rd σ 73 j) : rowOK τ k := by
  have e0 : rd τ 73 (143 * k) = rd σ 73 (143 * k) := by
    have z := xr_lt k0 k1 s1 (Int32.le_refl 0) (by decide)
    rw [← r0] at z
    exact hr _ z.2 z.1
  obtain ⟨a1, a2, a3, a4⟩ := h
  have ec : ∀ c : Int32, 0 ≤ c → c < rd σ 73 (143 * k) → rd τ 73 (143 * k + 35 + 9 * c) = rd σ 73 (143 * k + 35 + 9 * c) := fun c c0 c1 => by
    have b := (ix9 c0 (Int32.lt_of_lt_of_le c1 a2) (Int32.le_refl 0) (by decide)).2.2
    have z := xr_lt k0 k1 s1 b.1 b.2
    rw [ra]
    exact hr _ z.2 z.1
  unfold rowOK
  rw [e0, h19]
  refine ⟨a1, a2, fun c c0 c1 => by rw [ec c c0 c1]; exact a3 c c0 c1, fun c c0 c1 => ?_⟩
  rw [ec c c0 (c_pr a1 a2 c1), rd, h30]
  exact a4 c c0 c1
theorem row_new {σ τ : rS} {s : Int32} (hc : csF σ) (s0 : 0 ≤ s) (s1 : s < 1000) (hk : kyN τ (σ.1 58)) (hr : ∀ j : Int32, 0 ≤ j → j < 143 → rd τ 73 (143 * s + j) = rd τ 84 j) (h58 : τ.1 58 = σ.1 58) (h59 : τ.2.2.1 59 = σ.2.2.1 59) (h30 : τ.2.2.1 30 = σ.2.2.1 30) (h19 : τ.1 19 = σ.1 19) : rowOK τ s := by
  have e0 : rd τ 73 (143 * s) = σ.1 58 := by
    have z := hr 0 (Int32.le_refl 0) (by decide)
    rw [← r0] at z
    rw [z, hk.1, h58]
  have ec : ∀ c : Int32, 0 ≤ c → c < σ.1 58 → rd τ 73 (143 * s + 35 + 9 * c) = rd σ 59 c := fun c c0 c1 => by
    have b := (ix9 c0 (Int32.lt_of_lt_of_le c1 hc.1.2) (Int32.le_refl 0) (by decide)).2.2
    rw [ra, hr _ b.1 b.2, hk.2 c c0 c1, rd, h59]
  unfold rowOK
  rw [e0, h19]
  refine ⟨hc.1.1, hc.1.2, fun c c0 c1 => ?_, fun c c0 c1 => ?_⟩
  · rw [ec c c0 c1]
    rcases c_sp hc.1.1 hc.1.2 c1 with z | z
    · rw [z]; exact hc.2.2
    · exact ⟨(hc.2.1 c c0 z).1, (hc.2.1 c c0 z).2.1⟩
  · rw [ec c c0 (c_pr hc.1.1 hc.1.2 c1), rd, h30]
    exact (hc.2.1 c c0 c1).2.2
theorem xr_in {s l j : Int32} (s0 : 0 ≤ s) (s1 : s < 1000) (l0 : 0 ≤ l) (l1 : l < 143) (j0 : 0 ≤ j) (j1 : j < 143 * s) : j < 143 * s + l := by grind
theorem xr_jn {s l j : Int32} (s0 : 0 ≤ s) (s1 : s < 1000) (l1 : l < 143) (j0 : 0 ≤ j) (j1 : j < l) : 143 * s + j < 143 * s + l ∧ 0 ≤ 143 * s + j := by grind
theorem l1k {k s : Int32} (s0 : 0 ≤ s) (s1 : s < 1000) (h : k < s + 1) : k = s ∨ k < s := by grind
theorem l1s {j l : Int32} (l0 : 0 ≤ l) (l1 : l < 143) (h : j < l + 1) : j = l ∨ j < l := by grind

theorem stateNow_c {C : rCx} (hC : cOK C)  {σ : rS}  {Q : Int32 → rS → Prop} (hp : csF σ ∧ 0 ≤ σ.1 70 ∧ σ.1 70 ≤ 1000) (h : ∀ (v : Int32) (σ' : rS), (frG [] [84] σ σ' ∧ kyN σ' (σ.1 58) ∧ (v = -1 ∨ (0 ≤ v ∧ v < σ.1 70))) → Q v σ') : cI C 1 m_stateNow [.ref (co C)] σ Q := by
  refine m_stateNow_run hC ?_
  unfold w_stateNow_0
  obtain ⟨hc, h0, h1⟩ := hp
  refine pack_c hC  ?_ (fun r1 σ_2 q3 => ?_)
  · clear h; exact ⟨Int32.le_trans (by decide) hc.1.1, hc.1.2⟩  -- p1
  unfold w_stateNow_7
  refine ⟨fun n l1 l2 τ => n = (σ.1 70 - l2).toNatClampNeg ∧ (τ = σ_2 ∧ 0 ≤ l2 ∧ l2 ≤ σ.1 70), ⟨_, rfl, ?_⟩, ?_⟩
  · clear h; exact ⟨rfl, by decide, h0⟩  -- j2
  rintro n7 x7_1 x7_2 σ7 ⟨hn7, i7⟩
  refine ⟨fun c4 => ?_, fun c4 => ?_⟩
  · skip
    refine h _ _ ?_
    · clear h; rw [i7.1]; exact ⟨q3.1, q3.2, Or.inl rfl⟩  -- q3
  · skip
    have e70 : σ7.1 70 = σ.1 70 := by rw [i7.1]; exact q3.1.1 70 (by decide)
    have u := uk i7.2.1 (by rw [← e70]; exact c4) h1
    refine ⟨ib_1000.mpr ?_, ?_⟩
    · clear h; exact ⟨i7.2.1, u.2.2.2.2.2⟩  -- b4
    refine ⟨fun c5 => ?_, fun c5 => ?_⟩
    · skip
      intro x6 hx6
      refine ⟨_, cn_lt2 hn7 ?_ ?_, rfl, ?_⟩
      · clear h; rw [hx6]; exact u.1  -- d5
      · clear h; rw [hx6]; exact u.2.1  -- d6
      · clear h; rw [hx6]; exact ⟨i7.1, u.2.2.1, u.2.2.2.1⟩  -- i7
    · skip
      refine isKey_c hC  ?_ (fun r7 q9 => ?_)
      · clear h; exact ⟨i7.2.1, u.2.2.2.2.2⟩  -- p8
      refine ⟨fun c10 => ?_, fun c10 => ?_⟩
      · skip
        intro x11 hx11
        refine ⟨_, cn_lt2 hn7 ?_ ?_, rfl, ?_⟩
        · clear h; rw [hx11]; exact u.1  -- d9
        · clear h; rw [hx11]; exact u.2.1  -- d10
        · clear h; rw [hx11]; exact ⟨i7.1, u.2.2.1, u.2.2.2.1⟩  -- i11
      · skip
        refine h _ _ ?_
        · clear h; rw [i7.1]; exact ⟨q3.1, q3.2, Or.inr ⟨i7.2.1, u.2.2.2.2.1⟩⟩  -- q12

theorem stateNumber_c {C : rCx} (hC : cOK C)  {σ : rS}  {Q : Int32 → rS → Prop} (hp : csF σ ∧ 0 ≤ σ.1 70 ∧ σ.1 70 ≤ σ.1 85 ∧ σ.1 85 ≤ 1000) (h : ∀ (v : Int32) (σ' : rS), (frG [70] [73, 74, 84] σ σ' ∧ (0 ≤ σ'.1 70 ∧ σ.1 70 ≤ σ'.1 70 ∧ σ'.1 70 ≤ σ.1 85) ∧ (v = -1 ∨ (0 ≤ v ∧ v < σ'.1 70)) ∧ (∀ k : Int32, 0 ≤ k → k < σ.1 70 → rowOK σ k → rowOK σ' k) ∧ (∀ k : Int32, 0 ≤ k → σ.1 70 ≤ k → k < σ'.1 70 → rowOK σ' k)) → Q v σ') : cI C 2 m_stateNumber [.ref (co C)] σ Q := by
  refine m_stateNumber_run hC ?_
  unfold w_stateNumber_0
  obtain ⟨hc, h0, h1, h2⟩ := hp
  refine stateNow_c hC  ?_ (fun r1 σ_2 q3 => ?_)
  · clear h; exact ⟨hc, h0, Int32.le_trans h1 h2⟩  -- p1
  have e70 : σ_2.1 70 = σ.1 70 := q3.1.1 70 (by decide)
  have old : ∀ v : Int32, (v = -1 ∨ (0 ≤ v ∧ v < σ.1 70)) → frG [70] [73, 74, 84] σ σ_2 ∧ (0 ≤ σ_2.1 70 ∧ σ.1 70 ≤ σ_2.1 70 ∧ σ_2.1 70 ≤ σ.1 85) ∧ (v = -1 ∨ (0 ≤ v ∧ v < σ_2.1 70)) ∧ (∀ k : Int32, 0 ≤ k → k < σ.1 70 → rowOK σ k → rowOK σ_2 k) ∧ (∀ k : Int32, 0 ≤ k → σ.1 70 ≤ k → k < σ_2.1 70 → rowOK σ_2 k) := fun v hv => by
    rw [e70]
    exact ⟨frG_mono q3.1 (by decide) (by decide), ⟨h0, Int32.le_refl _, h1⟩, hv, fun k _ _ r => row_o r (q3.1.2.2.1 73 (by decide)) (q3.1.2.2.1 30 (by decide)) (q3.1.1 19 (by decide)), fun k _ k1 k2 => absurd k2 (Int32.not_lt.mpr k1)⟩
  refine ⟨fun c4 => ?_, fun c4 => ?_⟩
  · skip
    refine h _ _ ?_
    · clear h; exact old _ q3.2.2  -- q2
  · skip
    refine ⟨fun c5 => ?_, fun c5 => ?_⟩
    · skip
      refine pack_c hC  ?_ (fun r6 σ_7 q8 => ?_)
      · clear h; rw [q3.1.1 58 (by decide)]; exact ⟨Int32.le_trans (by decide) hc.1.1, hc.1.2⟩  -- p3
      have lt := lt_85 h0 h1 h2 (by rw [← e70, ← q3.1.1 85 (by decide)]; exact c5)
      refine ⟨ib_1000.mpr ?_, ?_⟩
      · clear h; rw [e70]; exact ⟨h0, lt.1⟩  -- b4
      intro σ_9 hσ_9
      unfold w_stateNumber_38
      refine ⟨fun n l2 τ => n = (143 - l2).toNatClampNeg ∧ (frG [] [73, 74, 84] σ τ ∧ 0 ≤ l2 ∧ l2 ≤ 143 ∧ kyN τ (σ.1 58) ∧ (∀ j : Int32, 0 ≤ j → j < 143 * σ.1 70 → rd τ 73 j = rd σ 73 j) ∧ (∀ j : Int32, 0 ≤ j → j < l2 → rd τ 73 (143 * σ.1 70 + j) = rd τ 84 j)), ⟨_, rfl, ?_⟩, ?_⟩
      · clear h; have f9 : frG [] [73, 74, 84] σ σ_9 := frG_tr (frG_mono q3.1 (by decide) (by decide)) (frG_tr (frG_mono q8.1 (by decide) (by decide)) (by rw [hσ_9]; exact frG_1 (by decide)))
        have k7 := q8.2
        rw [q3.1.1 58 (by decide)] at k7
        have r73 : σ_9.2.2.1 73 = σ.2.2.1 73 := by rw [hσ_9, ri3 (by decide), q8.1.2.2.1 73 (by decide), q3.1.2.2.1 73 (by decide)]
        exact ⟨f9, by decide, by decide, ky_o k7 (by rw [hσ_9, ri1]) (by rw [hσ_9, ri3 (by decide)]) (by rw [hσ_9, ri3 (by decide)]), fun j _ _ => by rw [rd, r73], fun j j0 j1 => absurd j1 (Int32.not_lt.mpr j0)⟩
      rintro n38 x38_2 σ38 ⟨hn38, i38⟩
      refine ⟨fun c10 => ?_, fun c10 => ?_⟩
      · skip
        intro σ_11 hσ_11
        refine h _ _ ?_
        · clear h; obtain ⟨y1, y2, y3, y4, y5, y6⟩ := i38
          have e : x38_2 = 143 := Int32.le_antisymm y3 c10
          have s11 : σ_11.2 = σ38.2 := by rw [hσ_11, si2]
          have e11 : ∀ k, k ≠ 70 → σ_11.1 k = σ.1 k := fun k hk => by rw [hσ_11, si1, if_neg hk]; exact y1.1 k (by simp)
          have e70' : σ_11.1 70 = σ.1 70 + 1 := by rw [hσ_11, si1, if_pos rfl, y1.1 70 (by decide)]
          have r30 : σ_11.2.2.1 30 = σ.2.2.1 30 := by rw [s11]; exact y1.2.2.1 30 (by decide)
          rw [e70', lt.2.2.2.2.1]
          refine ⟨frG_tr (frG_mono y1 (by decide) (by decide)) (by rw [hσ_11]; exact frG_0 (by decide)), ⟨lt.2.2.1, lt.2.2.2.1, lt.2.1⟩, Or.inr ⟨h0, lt.2.2.2.2.2⟩, fun k k0 k1 r => ?_, fun k k0 k1 k2 => ?_⟩
          · exact row_old r k0 k1 lt.1 r30 (e11 19 (by decide)) (fun j j0 j1 => by rw [rd, s11]; exact y5 j j0 j1)
          · have ek : k = σ.1 70 := by
              rcases l1k h0 lt.1 k2 with z | z
              · exact z
              · exact absurd z (Int32.not_lt.mpr k1)
            rw [ek]
            have e58 : σ38.1 58 = σ.1 58 := y1.1 58 (by decide)
            refine row_new hc h0 lt.1 (ky_o y4 ((e11 58 (by decide)).trans e58.symm) (by rw [s11]) (by rw [s11])) (fun j j0 j1 => ?_) (e11 58 (by decide)) (by rw [s11]; exact y1.2.2.1 59 (by decide)) r30 (e11 19 (by decide))
            rw [rd, rd, s11]
            exact y6 j j0 (by rw [e]; exact j1)
      · skip
        obtain ⟨y1, y2, y3, y4, y5, y6⟩ := i38
        have u := u143 y2 c10
        have e70' : σ38.1 70 = σ.1 70 := y1.1 70 (by decide)
        refine ⟨ib_143.mpr ?_, ?_⟩
        · clear h; exact ⟨y2, u.2.2.2.2⟩  -- b7
        refine ⟨ib_143000.mpr ?_, ?_⟩
        · clear h; rw [e70']; exact (xr h0 lt.1 y2 u.2.2.2.2).1  -- b8
        intro σ_12 hσ_12
        intro x13 hx13
        refine ⟨_, cn_lt2 hn38 ?_ ?_, rfl, ?_⟩
        · clear h; rw [hx13]; exact u.1  -- d9
        · clear h; rw [hx13]; exact u.2.1  -- d10
        · clear h; rw [hx13]
          rw [e70'] at hσ_12
          refine ⟨frG_tr y1 (by rw [hσ_12]; exact frG_1 (by decide)), u.2.2.1, u.2.2.2.1, ky_o y4 (by rw [hσ_12, ri1]) (by rw [hσ_12, ri3 (by decide)]) (by rw [hσ_12, ri3 (by decide)]), fun j j0 j1 => ?_, fun j j0 j1 => ?_⟩
          · rw [rd, hσ_12, ri4, if_neg (cn_ne j0 (xr_in h0 lt.1 y2 u.2.2.2.2 j0 j1))]
            exact y5 j j0 j1
          · rw [rd, rd, hσ_12, ri4, ri3 (by decide)]
            rcases l1s y2 u.2.2.2.2 j1 with z | z
            · rw [z, if_pos rfl]
            · have w := xr_jn h0 lt.1 u.2.2.2.2 j0 z
              rw [if_neg (cn_ne w.2 w.1)]
              exact y6 j j0 z
    · skip
      refine h _ _ ?_
      · clear h; exact old _ (Or.inl c4)  -- q12
