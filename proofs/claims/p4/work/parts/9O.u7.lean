set_option maxHeartbeats 1600000
/-! the reference: the worth of a state is found -/
def frZ (k : Nat) (σ τ : rS) : Prop := (∀ j, j ≠ 92 → τ.1 j = σ.1 j) ∧ τ.2.1 = σ.2.1 ∧ (∀ j, j ≠ 90 → j ≠ 91 → j ≠ 119 → τ.2.2.1 j = σ.2.2.1 j) ∧ τ.2.2.2 = σ.2.2.2 ∧ (∀ i, i ≠ k → τ.2.2.1 119 i = σ.2.2.1 119 i) ∧ nK σ τ
theorem frZ_tr {k : Nat} {σ τ υ : rS} (h : frZ k σ τ) (g : frZ k τ υ) : frZ k σ υ := ⟨fun j z => (g.1 j z).trans (h.1 j z), g.2.1.trans h.2.1, fun j z1 z2 z3 => (g.2.2.1 j z1 z2 z3).trans (h.2.2.1 j z1 z2 z3), g.2.2.2.1.trans h.2.2.2.1, fun i z => (g.2.2.2.2.1 i z).trans (h.2.2.2.2.1 i z), nK_tr h.2.2.2.2.2 g.2.2.2.2.2⟩
theorem frZ_S {k : Nat} {l : List Nat} {σ τ : rS} (h : frS l σ τ) (hl : ∀ k, k ∈ l → k ≤ 14 := by decide) : frZ k σ τ := ⟨h.1, h.2.1, fun j z1 z2 _ => h.2.2.1 j z1 z2, h.2.2.2.1, fun i _ => by rw [h.2.2.1 119 (by decide) (by decide)], nK_l h.2.2.2.2 hl⟩
theorem frZ_1 {k : Nat} {σ : rS} {x : Int32} : frZ k σ (riU σ 119 k x) := ⟨fun _ _ => rfl, rfl, fun _ _ _ z => ri3 z, rfl, fun i z => by rw [ri34, if_pos rfl, if_neg z], nK_r (ri3 (by decide)) (ri3 (by decide))⟩
theorem exO_Z {k : Nat} {σ τ : rS} (h : exO σ) (f : frZ k σ τ) : exO τ := exO_o h (fun k hk => f.1 k (by omega)) (fun k hk => f.2.2.1 k (by omega) (by omega) (by omega))
theorem nxW_Z {k : Nat} {σ τ : rS} {i : Int32} (f : frZ k σ τ) (h : nxW σ i) : nxW τ i := nxW_f (f.2.2.1 77 (by decide) (by decide) (by decide)) (f.2.2.1 78 (by decide) (by decide) (by decide)) (f.2.2.1 117 (by decide) (by decide) (by decide)) (f.2.2.1 118 (by decide) (by decide) (by decide)) h
theorem wD_b {σ : rS} {s k : Nat} (hw : ∀ k, k < s → σ.2.2.1 96 k ≠ 0 → wkO σ 117 118 k) (hk : k < s) : 0 < wD σ k ∧ wD σ k ≤ 65536 ^ 16 := by
  unfold wD
  split
  · exact ⟨by decide, Nat.one_le_pow _ _ (by decide)⟩
  · rename_i e
    have w := hw k hk e
    exact ⟨w.2.2.1, Nat.le_of_lt (sl_lt (M := 16) rfl w.2.1)⟩
theorem MW_b {σ : rS} {s T : Nat} (hw : ∀ k, k < s → σ.2.2.1 96 k ≠ 0 → wkO σ 117 118 k) (T0 : 0 < T) (T1 : T ≤ 8000000) : 0 < prS (wD σ) s * T ∧ prS (wD σ) s * T < 65536 ^ (16 * s + 2) := by
  have a := prS_pos (D := wD σ) (n := s) (fun i hi => (wD_b hw hi).1)
  have b := prS_le (D := wD σ) (b := 16) (n := s) (fun i hi => (wD_b hw hi).2)
  refine ⟨Nat.mul_pos a T0, ?_⟩
  rw [Nat.pow_add]
  have c := Nat.mul_le_mul_right T b
  have d : 65536 ^ (16 * s) * T < 65536 ^ (16 * s) * 65536 ^ 2 := Nat.mul_lt_mul_of_pos_left (by omega) (Nat.pow_pos (by decide))
  omega
theorem pl_i {lo x hi : Int32} (h0 : 0 ≤ lo) (h1 : lo < x) (h2 : x < hi) (h3 : hi ≤ 20000) : 0 ≤ x - lo ∧ x - lo < hi - lo ∧ 0 ≤ x ∧ lo ≤ x := by grind
theorem pl_j {lo hi : Int32} (h0 : 0 ≤ lo) (h1 : lo < hi) (h3 : hi ≤ 20000) : lo < lo + 1 ∧ lo + 1 ≤ hi ∧ (0 : Int32) < hi - lo := by grind
theorem pl_k {x hi : Int32} (h0 : 0 ≤ x) (h1 : x < hi) (h3 : hi ≤ 20000) : x < x + 1 ∧ x + 1 ≤ hi := by grind
theorem mk_1 {b : Int} (b0 : 0 ≤ b) (b1 : b ≤ 2147483648) : mkRat b 1 ≤ (wB : Rat) := by
  have z := mk_leN (w := b) (T := 1) (N := wB) (by decide) (by
    have w : (4294967296 : Nat) ≤ wB := by
      unfold wB
      rw [show 4294967296 = 1 * 65536 ^ 2 from rfl]
      exact Nat.mul_le_mul_right _ (Nat.one_le_pow _ _ (by decide))
    omega)
  exact z
theorem findWorth_c {C : rCx} (hC : cOK C) (s : Nat) {σ : rS} {a1 : Int32} {Q : rS → Prop} (hp : pOK σ ∧ s = (σ.1 70).toNatClampNeg ∧ 0 ≤ a1 ∧ a1 < σ.1 70 ∧ (∀ k, k < s → σ.2.2.1 96 k ≠ 0 → wkO σ 117 118 k) ∧ (∀ i : Int32, σ.2.2.1 76 a1.toNatClampNeg ≤ i → i < σ.2.2.1 76 (a1.toNatClampNeg + 1) → σ.2.2.1 77 i.toNatClampNeg = 0 → σ.2.2.1 96 (σ.2.2.1 78 i.toNatClampNeg).toNatClampNeg ≠ 0)) (h : ∀ (σ' : rS), (frZ a1.toNatClampNeg σ σ' ∧ numO σ' 4 ∧ numO σ' 5 ∧ 0 < nV σ' 5 ∧ (σ'.1 92 = 1 ∨ σ'.1 92 = -1) ∧ (σ.2.2.1 81 a1.toNatClampNeg ≠ 0 → 0 ≤ σ'.2.2.1 119 a1.toNatClampNeg ∧ σ'.2.2.1 119 a1.toNatClampNeg < σ.2.2.1 76 (a1.toNatClampNeg + 1) - σ.2.2.1 76 a1.toNatClampNeg)) → Q σ') : cV C 6 m_findWorth [.ref (co C), .int a1] σ Q := by
  refine m_findWorth_run hC ?_
  unfold w_findWorth_0
  obtain ⟨hO, hs, h0, h1, hw, hd⟩ := hp
  have k1 := Int32.lt_of_lt_of_le h1 hO.1.1.2
  have st := ex_st hO.1 h0 h1
  have hi2 := Int32.le_trans st.2.2.1 hO.1.2.2.1.2
  have tb := tT_b hO h0 h1
  have s1000 : s ≤ 1000 := by rw [hs]; exact cn_le (y := 1000) rfl hO.1.1.2
  have M := MW_b (σ := σ) (s := s) (T := (tTI σ a1.toNatClampNeg).toNat) hw (by omega) (by omega)
  have lohi : σ.2.2.1 76 a1.toNatClampNeg < σ.2.2.1 76 (a1.toNatClampNeg + 1) := by
    have q := (hO.1.2.2.2.1 a1 h0 h1).1.2.1
    rw [rd, rd, st.2.2.2.1] at q
    exact q
  have inx : ∀ i : Int32, σ.2.2.1 76 a1.toNatClampNeg ≤ i → i < σ.2.2.1 76 (a1.toNatClampNeg + 1) → 0 ≤ i ∧ i < σ.1 72 ∧ i < 20000 := fun i i1 i2 => ⟨Int32.le_trans st.1.1 i1, Int32.lt_of_lt_of_le i2 st.2.2.1, Int32.lt_of_lt_of_le i2 hi2⟩
  have tgt : ∀ i : Int32, σ.2.2.1 76 a1.toNatClampNeg ≤ i → i < σ.2.2.1 76 (a1.toNatClampNeg + 1) → σ.2.2.1 77 i.toNatClampNeg = 0 → (σ.2.2.1 78 i.toNatClampNeg).toNatClampNeg < s := fun i i1 i2 z => by
    have q := (hO.1.2.2.2.2 _ (cn_lt (inx i i1 i2).1 (inx i i1 i2).2.1)).2.1 z
    rw [hs]
    exact cn_lt q.1 q.2
  have nw : ∀ i : Int32, σ.2.2.1 76 a1.toNatClampNeg ≤ i → i < σ.2.2.1 76 (a1.toNatClampNeg + 1) → nxW σ i := fun i i1 i2 z => hw _ (tgt i i1 i2 z) (hd i i1 i2 z)
  have hj177 : ∀ (l2 : Int64) (s1 : Int32) (s2 : Int64) (τ : rS), (s1 = 6 ∧ l2.toInt.natAbs ≤ 2147483648 ∧ s2.toInt = (l2.toInt.natAbs : Int) ∧ σ.2.2.1 81 a1.toNatClampNeg = 0 ∧ frS [0, 1, 2, 3, 4, 5, 6, 7, 8, 9, 10] σ τ ∧ ∃ S, siG (prS (wD σ) s * (tTI σ a1.toNatClampNeg).toNat) τ 20000 S) → w_findWorth_177 C Q  l2 s1 s2 τ := by
    rintro y177_2 y177_s1 y177_s2 τ177 j177
    unfold w_findWorth_177
    obtain ⟨z1, z2, z3, z4, F, S, J⟩ := j177
    rw [z1]
    refine set_c hC  ?_ (fun σ_1 q2 => ?_)
    · clear h; exact ⟨by decide, by decide, l64_0 z3 (by omega)⟩  -- p1
    simp only [kn] at q2
    refine set_c hC  ?_ (fun σ_3 q4 => ?_)
    · clear h; exact ⟨by decide, by decide, by decide⟩  -- p2
    simp only [kn] at q4
    have g6 := nV_fr q4.1 (k := 6) (by decide) q2.2.1
    have e67 : fQ σ_3 6 7 = mkRat (y177_2.toInt.natAbs : Int) 1 := by
      unfold fQ
      rw [g6.2.1, q2.2.2.1, q4.2.2.1, z3]
      rfl
    have F3 : frS [0, 1, 2, 3, 4, 5, 6, 7, 8, 9, 10] σ σ_3 := frS_tr F (frS_tr (frS_mono (frS_of q2.1) (sub_of rfl)) (frS_mono (frS_of q4.1) (sub_of rfl)))
    have J3 := siG_N q4.1 (by decide) (by decide) (siG_N q2.1 (by decide) (by decide) J)
    have p7 : 0 < nV σ_3 7 := by rw [q4.2.2.1]; decide
    have l6 : nL σ_3 6 ≤ 400 := by have := g6.2.2; have := q2.2.2.2; omega
    have l7 : nL σ_3 7 ≤ 400 := by have := q4.2.2.2; omega
    have qb : fQ σ_3 6 7 ≤ (wB : Rat) := by rw [e67]; exact mk_1 (by omega) (by omega)
    have qd : (fQ σ_3 6 7).den ∣ prS (wD σ) s * (tTI σ a1.toNatClampNeg).toNat := by
      rw [e67]
      exact Nat.dvd_trans (den_mk (by decide)) (Nat.one_dvd _)
    refine ⟨fun c5 => ?_, fun c5 => ?_⟩
    · skip
      refine add_c hC  ?_ (fun σ_6 q7 => ?_)
      · clear h; exact (siG_add (x := 1) (Or.inl rfl) M.1 M.2 (by omega) (by decide) J3 g6.1 q4.2.1 p7 l6 l7 qb qd).1  -- p3
      refine h _ ?_
      · clear h; have L := siG_L M.1 M.2 (by decide) ((siG_add (x := 1) (Or.inl rfl) M.1 M.2 (by omega) (by decide) J3 g6.1 q4.2.1 p7 l6 l7 qb qd).2 _ q7.2)
        exact ⟨frZ_S (frS_tr F3 (frS_mono q7.1 (sub_of rfl))), L.1, L.2.1, L.2.2.1, L.2.2.2.2.2, fun z => absurd z4 z⟩
    · skip
      refine add_c hC  ?_ (fun σ_8 q9 => ?_)
      · clear h; exact (siG_add (x := -1) (Or.inr rfl) M.1 M.2 (by omega) (by decide) J3 g6.1 q4.2.1 p7 l6 l7 qb qd).1  -- p5
      refine h _ ?_
      · clear h; have L := siG_L M.1 M.2 (by decide) ((siG_add (x := -1) (Or.inr rfl) M.1 M.2 (by omega) (by decide) J3 g6.1 q4.2.1 p7 l6 l7 qb qd).2 _ q9.2)
        exact ⟨frZ_S (frS_tr F3 (frS_mono q9.1 (sub_of rfl))), L.1, L.2.1, L.2.2.1, L.2.2.2.2.2, fun z => absurd z4 z⟩
  refine ⟨ib_1000.mpr ?_, ?_⟩
  · clear h; exact ⟨h0, k1⟩  -- b7
  refine ⟨fun c10 => ?_, fun c10 => ?_⟩
  · skip
    refine clearSum_c hC  (fun σ_11 q12 => ?_)
    refine ⟨ib_1001.mpr ?_, ?_⟩
    · clear h; exact ⟨h0, Int32.lt_trans k1 (by decide)⟩  -- b8
    intro x13 hx13
    unfold w_findWorth_92
    refine ⟨fun n l1 l2 τ => n = (σ.2.2.1 76 (a1.toNatClampNeg + 1) - l2).toNatClampNeg ∧ (l1 = a1 ∧ frS [0, 1, 2, 3, 4, 5, 6, 7, 8, 9, 10] σ τ ∧ σ.2.2.1 76 a1.toNatClampNeg ≤ l2 ∧ l2 ≤ σ.2.2.1 76 (a1.toNatClampNeg + 1) ∧ ∃ S, siG (prS (wD σ) s * (tTI σ a1.toNatClampNeg).toNat) τ l2.toNatClampNeg S), ⟨_, rfl, ?_⟩, ?_⟩
    · clear h; rw [hx13, q12.1.2.2.1 76 (by decide) (by decide)]
      exact ⟨rfl, frS_mono q12.1 (sub_of rfl), Int32.le_refl _, st.2.1, 0, siG_mono (siG_0 q12.2) (Nat.zero_le _)⟩
    rintro n92 x92_1 x92_2 σ92 ⟨hn92, i92⟩
    obtain ⟨e1, F, w1, w2, S, J⟩ := i92
    have f76 := F.2.2.1 76 (by decide) (by decide)
    have f79 := F.2.2.1 79 (by decide) (by decide)
    have f80 := F.2.2.1 80 (by decide) (by decide)
    have f82 := F.2.2.1 82 (by decide) (by decide)
    have i20 : x92_2.toNatClampNeg ≤ 20000 := cn_le (y := 20000) rfl (Int32.le_trans w2 hi2)
    rw [e1, f76, st.2.2.2.1]
    refine ⟨ib_1001.mpr ?_, ?_⟩
    · clear h; exact ⟨st.2.2.2.2.2.1, st.2.2.2.2.2.2⟩  -- b10
    refine ⟨fun c14 => ?_, fun c14 => ?_⟩
    · skip
      refine ⟨ib_1000.mpr ?_, ?_⟩
      · clear h; exact ⟨h0, k1⟩  -- b11
      intro x15 hx15
      refine ⟨fun c16 => ?_, fun c16 => ?_⟩
      · skip
        refine h _ ?_
        · clear h; have L := siG_L M.1 M.2 (by omega) J
          exact ⟨frZ_S F, L.1, L.2.1, L.2.2.1, L.2.2.2.2.2, fun z => absurd c10 z⟩
      · skip
        refine ⟨fun c17 => ?_, fun c17 => ?_⟩
        · skip
          refine hj177 _ _ _ _ ?_
          · clear h; exact ⟨rfl, by rw [hx15]; exact i32_abs, (l64_pos (lg_ge.mp c17)).1, c10, F, S, siG_mono J i20⟩  -- k13
        · skip
          refine hj177 _ _ _ _ ?_
          · clear h; have hb : x15.toInt.natAbs ≤ 2147483648 := by rw [hx15]; exact i32_abs
            exact ⟨rfl, hb, (l64_neg (fun z => c17 (lg_ge.mpr z)) hb).1, c10, F, S, siG_mono J i20⟩
    · skip
      have zl := Int32.not_le.mp c14
      have ii := inx x92_2 w1 zl
      have z := u2 ii.1 c14 hi2
      have is := cn_succ ii.1 (Int32.lt_trans z.2.2.2.2.2.2 (by decide))
      refine loadNext_c hC  ?_ (fun r18 σ_19 q20 => ?_)
      · clear h; exact ⟨exO_Z hO.1 (frZ_S (k := 0) F), ii.1, by rw [F.1 72 (by decide)]; exact ii.2.1, nxW_Z (frZ_S (k := 0) F) (nw _ w1 zl)⟩  -- p15
      refine isZero_c hC  ?_ (fun r21 q23 => ?_)
      · clear h; exact ⟨by decide, by decide⟩  -- p16
      refine ⟨fun c24 => ?_, fun c24 => ?_⟩
      · skip
        intro x25 hx25
        refine ⟨_, cn_lt2 hn92 ?_ ?_, rfl, ?_⟩
        · clear h; rw [hx25]; exact z.1  -- d17
        · clear h; rw [hx25]; exact z.2.1  -- d18
        · clear h; rw [hx25, is]
          exact ⟨rfl, frS_tr F (frS_mono (frS_of q20.1) (sub_of rfl)), Int32.le_trans w1 z.2.2.2.1, z.2.2.2.2.1, S, siG_mono (siG_N q20.1 (by decide) (by decide) J) (by omega)⟩
      · skip
        refine ⟨ib_20000.mpr ?_, ?_⟩
        · clear h; exact ⟨ii.1, ii.2.2⟩  -- b20
        refine ⟨ib_1000.mpr ?_, ?_⟩
        · clear h; exact ⟨h0, k1⟩  -- b21
        have v79 : (σ_19.2.2.1 79 x92_2.toNatClampNeg).toInt64.toInt = twI σ a1.toNatClampNeg x92_2.toNatClampNeg := by
          rw [Int32.toInt_toInt64, q20.1.2.2.1 79 (by decide) (by decide), f79]
          unfold twI
          rw [if_pos c10]
        have v80 : (σ_19.2.2.1 80 a1.toNatClampNeg).toInt64.toInt = tTI σ a1.toNatClampNeg := by
          rw [Int32.toInt_toInt64, q20.1.2.2.1 80 (by decide) (by decide), f80]
          unfold tTI
          rw [if_pos c10]
        have tw := tw_b hO h0 h1 w1 zl
        have fb := fQ_b q20.2.1 q20.2.2.2.1 q20.2.2.2.2.1
        have m7 := nV_lt q20.2.2.1 q20.2.2.2.2.2.1
        have T0 : 0 < (tTI σ a1.toNatClampNeg).toNat := by omega
        refine scale_c hC  ?_ (fun σ_26 q27 => ?_)
        · clear h; exact ⟨q20.2.1, q20.2.2.1, q20.2.2.2.1, l64_0 v79 tw.1, l64_1 v80 tb.1, by have := q20.2.2.2.2.1; omega, by have := q20.2.2.2.2.2.1; omega⟩  -- p22
        rw [v79, v80] at q27
        have q67 := (hR_q q27.2).1
        have d7 : nV σ_19 7 ∣ prS (wD σ) s := by
          by_cases e : σ92.2.2.1 77 x92_2.toNatClampNeg = 0
          · rw [q20.2.2.2.2.2.2.2.2 e, F.2.2.1 78 (by decide) (by decide), (sl_f (m := 16) (F.2.2.1 117 (by decide) (by decide))).1]
            rw [F.2.2.1 77 (by decide) (by decide)] at e
            have n96 := hd _ w1 zl e
            have dd := prS_dvd (D := wD σ) (tgt _ w1 zl e)
            unfold wD at dd
            rw [if_neg n96] at dd
            exact dd
          · rw [q20.2.2.2.2.2.2.2.1 e]; exact Nat.one_dvd _
        have le1 := Rat.mul_le_mul_of_nonneg_left (mk_le1 (w := twI σ a1.toNatClampNeg x92_2.toNatClampNeg) T0 (by omega)) fb.1
        rw [Rat.mul_one] at le1
        have dq : (fQ σ_19 6 7 * mkRat (twI σ a1.toNatClampNeg x92_2.toNatClampNeg) (tTI σ a1.toNatClampNeg).toNat).den ∣ nV σ_19 7 * (tTI σ a1.toNatClampNeg).toNat := Nat.dvd_trans den_mul (Nat.mul_dvd_mul fb.2.2 (den_mk (by omega)))
        have m19 : nV σ_19 7 * (tTI σ a1.toNatClampNeg).toNat < 65536 ^ 18 := by
          rw [show 65536 ^ 18 = 65536 ^ 16 * 65536 ^ 2 from Nat.pow_add 65536 16 2]
          exact Nat.mul_lt_mul'' m7 (by omega)
        have pl := pl_of (a := 18) (b := 16) q27.2 (Nat.mul_pos q20.2.2.2.1 T0) dq m19 (Rat.le_trans le1 fb.2.1)
        have A := siG_add (x := r18) q20.2.2.2.2.2.2.1 M.1 M.2 (by omega) (by omega) (siG_N q27.1 (by decide) (by decide) (siG_N q20.1 (by decide) (by decide) J)) q27.2.1 q27.2.2.1 (hR_q q27.2).2 (by have := pl.2; omega) (by have := pl.1; omega) (by rw [q67]; exact Rat.le_trans le1 (Rat.le_trans fb.2.1 p16_wB)) (by rw [q67]; exact Nat.dvd_trans dq (Nat.mul_dvd_mul d7 (Nat.dvd_refl _)))
        refine add_c hC  ?_ (fun σ_28 q29 => ?_)
        · clear h; exact A.1  -- p23
        intro x30 hx30
        refine ⟨_, cn_lt2 hn92 ?_ ?_, rfl, ?_⟩
        · clear h; rw [hx30]; exact z.1  -- d24
        · clear h; rw [hx30]; exact z.2.1  -- d25
        · clear h; rw [hx30, is]
          exact ⟨rfl, frS_tr F (frS_tr (frS_mono (frS_of q20.1) (sub_of rfl)) (frS_tr (frS_mono (frS_of q27.1) (sub_of rfl)) (frS_mono q29.1 (sub_of rfl)))), Int32.le_trans w1 z.2.2.2.1, z.2.2.2.2.1, _, A.2 _ q29.2⟩
  · skip
    refine ⟨ib_1000.mpr ?_, ?_⟩
    · clear h; exact ⟨h0, k1⟩  -- b27
    intro σ_31 hσ_31
    refine ⟨ib_1001.mpr ?_, ?_⟩
    · clear h; exact ⟨h0, Int32.lt_trans k1 (by decide)⟩  -- b28
    refine takeNext_c hC  ?_ (fun σ_32 q33 => ?_)
    · clear h; have Z : frZ a1.toNatClampNeg σ σ_31 := by rw [hσ_31]; exact frZ_1
      rw [Z.2.2.1 76 (by decide) (by decide) (by decide)]
      have ii := inx _ (Int32.le_refl _) lohi
      exact ⟨exO_Z hO.1 Z, ii.1, by rw [Z.1 72 (by decide)]; exact ii.2.1, nxW_Z Z (nw _ (Int32.le_refl _) lohi)⟩
    have Z : frZ a1.toNatClampNeg σ σ_31 := by rw [hσ_31]; exact frZ_1
    have Z2 := frZ_tr Z (frZ_S (k := a1.toNatClampNeg) q33.1)
    have z119 : σ_32.2.2.1 119 a1.toNatClampNeg = 0 := by rw [q33.1.2.2.1 119 (by decide) (by decide), hσ_31, ri34, if_pos rfl, if_pos rfl]
    refine ⟨ib_1001.mpr ?_, ?_⟩
    · clear h; exact ⟨h0, Int32.lt_trans k1 (by decide)⟩  -- b30
    intro x34 hx34
    unfold w_findWorth_35
    refine ⟨fun n l1 l2 τ => n = (σ.2.2.1 76 (a1.toNatClampNeg + 1) - l2).toNatClampNeg ∧ (l1 = a1 ∧ frZ a1.toNatClampNeg σ τ ∧ σ.2.2.1 76 a1.toNatClampNeg < l2 ∧ l2 ≤ σ.2.2.1 76 (a1.toNatClampNeg + 1) ∧ numO τ 4 ∧ numO τ 5 ∧ 0 < nV τ 5 ∧ nL τ 4 ≤ 400 ∧ nL τ 5 ≤ 400 ∧ (τ.1 92 = 1 ∨ τ.1 92 = -1) ∧ 0 ≤ τ.2.2.1 119 a1.toNatClampNeg ∧ τ.2.2.1 119 a1.toNatClampNeg < σ.2.2.1 76 (a1.toNatClampNeg + 1) - σ.2.2.1 76 a1.toNatClampNeg), ⟨_, rfl, ?_⟩, ?_⟩
    · clear h; rw [hx34, Z2.2.2.1 76 (by decide) (by decide) (by decide)]
      have pj := pl_j st.1.1 lohi hi2
      exact ⟨rfl, Z2, pj.1, pj.2.1, q33.2.1, q33.2.2.1, q33.2.2.2.1, q33.2.2.2.2.1, q33.2.2.2.2.2.1, q33.2.2.2.2.2.2, by rw [z119]; decide, by rw [z119]; exact pj.2.2⟩
    rintro n35 x35_1 x35_2 σ35 ⟨hn35, i35⟩
    obtain ⟨e1, Z3, w1, w2, o4, o5, p5, l4, l5, sg, n0, n1⟩ := i35
    rw [e1, Z3.2.2.1 76 (by decide) (by decide) (by decide), st.2.2.2.1]
    refine ⟨ib_1001.mpr ?_, ?_⟩
    · clear h; exact ⟨st.2.2.2.2.2.1, st.2.2.2.2.2.2⟩  -- b32
    refine ⟨fun c35 => ?_, fun c35 => ?_⟩
    · skip
      refine h _ ?_
      · clear h; exact ⟨Z3, o4, o5, p5, sg, fun _ => ⟨n0, n1⟩⟩  -- q33
    · skip
      have zl := Int32.not_le.mp c35
      have pi := pl_i st.1.1 w1 zl hi2
      have ii := inx x35_2 pi.2.2.2 zl
      have z := u2 ii.1 c35 hi2
      have pk := pl_k ii.1 zl hi2
      refine isGreater_c hC  ?_ (fun r36 σ_37 q38 => ?_)
      · clear h; exact ⟨exO_Z hO.1 Z3, ii.1, by rw [Z3.1 72 (by decide)]; exact ii.2.1, nxW_Z Z3 (nw _ pi.2.2.2 zl), o4, o5, l4, l5⟩  -- p34
      have Z4 := frZ_tr Z3 (frZ_S (k := a1.toNatClampNeg) (frS_of q38.1))
      have g4 := nV_fr q38.1 (k := 4) (by decide) o4
      have g5 := nV_fr q38.1 (k := 5) (by decide) o5
      refine ⟨fun c39 => ?_, fun c39 => ?_⟩
      · skip
        intro x40 hx40
        refine ⟨_, cn_lt2 hn35 ?_ ?_, rfl, ?_⟩
        · clear h; rw [hx40]; exact z.1  -- d35
        · clear h; rw [hx40]; exact z.2.1  -- d36
        · clear h; rw [hx40]
          exact ⟨rfl, Z4, Int32.lt_trans w1 pk.1, pk.2, g4.1, g5.1, by rw [g5.2.1]; exact p5, by rw [g4.2.2]; exact l4, by rw [g5.2.2]; exact l5, by rw [q38.1.1]; exact sg, by rw [q38.1.2.2.1 119 (by decide) (by decide)]; exact n0, by rw [q38.1.2.2.1 119 (by decide) (by decide)]; exact n1⟩
      · skip
        refine ⟨ib_1001.mpr ?_, ?_⟩
        · clear h; exact ⟨h0, Int32.lt_trans k1 (by decide)⟩  -- b38
        refine ⟨ib_1000.mpr ?_, ?_⟩
        · clear h; exact ⟨h0, k1⟩  -- b39
        intro σ_41 hσ_41
        refine takeNext_c hC  ?_ (fun σ_42 q43 => ?_)
        · clear h; have Z5 : frZ a1.toNatClampNeg σ σ_41 := frZ_tr Z4 (by rw [hσ_41]; exact frZ_1)
          exact ⟨exO_Z hO.1 Z5, ii.1, by rw [Z5.1 72 (by decide)]; exact ii.2.1, nxW_Z Z5 (nw _ pi.2.2.2 zl)⟩
        intro x44 hx44
        refine ⟨_, cn_lt2 hn35 ?_ ?_, rfl, ?_⟩
        · clear h; rw [hx44]; exact z.1  -- d41
        · clear h; rw [hx44]; exact z.2.1  -- d42
        · clear h; have Z5 : frZ a1.toNatClampNeg σ σ_41 := frZ_tr Z4 (by rw [hσ_41]; exact frZ_1)
          have v119 : σ_42.2.2.1 119 a1.toNatClampNeg = x35_2 - σ.2.2.1 76 a1.toNatClampNeg := by rw [q43.1.2.2.1 119 (by decide) (by decide), hσ_41, ri34, if_pos rfl, if_pos rfl, Z4.2.2.1 76 (by decide) (by decide) (by decide)]
          rw [hx44]
          exact ⟨rfl, frZ_tr Z5 (frZ_S q43.1), Int32.lt_trans w1 pk.1, pk.2, q43.2.1, q43.2.2.1, q43.2.2.2.1, q43.2.2.2.2.1, q43.2.2.2.2.2.1, q43.2.2.2.2.2.2, by rw [v119]; exact pi.1, by rw [v119]; exact pi.2.1⟩
