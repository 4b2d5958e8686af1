set_option maxHeartbeats 1600000
/-! the reference: all weights that are meant -/
def byI (σ : rS) (how v b : Int32) (i : Nat) : Int := if mtV σ how v i = 0 then 0 else if b = 0 then 1 else (σ.2.2.1 75 (35 * σ.2.2.1 78 i).toNatClampNeg).toInt
def trm (σ : rS) (how v b : Int32) (k i : Nat) : Rat := (if vsV σ k = 0 then 0 else fV σ k) * mkRat (twI σ k i * byI σ how v b i) (tTI σ k).toNat
def swK (σ : rS) (how v b : Int32) (k n : Nat) : Rat := smQ (fun d => trm σ how v b k (loN σ k + d)) n
def swS (σ : rS) (how v b : Int32) (n : Nat) : Rat := smQ (fun k => swK σ how v b k (leN σ k)) n
abbrev alP (σ : rS) (how v : Int32) : Prop := σ.1 70 = 0 ∧ ((how = 0 ∧ σ.2.2.1 75 0 = v) ∨ (how = 2 ∧ v = 0) ∨ ¬ how < 6)
def alQ (σ : rS) (how v b : Int32) : Rat := if alP σ how v then (if b = 0 then 1 else 0) else 0
def opQ (σ : rS) (how : Int32) : Rat := if how = 5 ∧ ¬ σ.1 70 ≤ 0 ∧ σ.2.2.1 95 0 = 0 then 1 else 0
def swQ (σ : rS) (how v b : Int32) : Rat := swS σ how v b (σ.1 70).toNatClampNeg + alQ σ how v b + opQ σ how
theorem trm_v {σ : rS} {how v b : Int32} {k i : Nat} (h : vsV σ k = 0) : trm σ how v b k i = 0 := by
  unfold trm
  rw [if_pos h, Rat.zero_mul]
theorem trm_t {σ : rS} {how v b : Int32} {k i : Nat} (h : twI σ k i = 0) : trm σ how v b k i = 0 := by
  unfold trm
  rw [h, Int.zero_mul, Rat.zero_mkRat, Rat.mul_zero]
theorem trm_m {σ : rS} {how v b : Int32} {k i : Nat} (h : mtV σ how v i = 0) : trm σ how v b k i = 0 := by
  unfold trm byI
  rw [if_pos h, Int.mul_zero, Rat.zero_mkRat, Rat.mul_zero]
theorem trm_e {σ : rS} {how v b : Int32} {k i : Nat} {y : Int} (h1 : vsV σ k ≠ 0) (h2 : byI σ how v b i = y) : fV σ k * mkRat (twI σ k i * y) (tTI σ k).toNat = trm σ how v b k i := by
  unfold trm
  rw [if_neg h1, h2]
theorem swK_s {σ : rS} {how v b : Int32} {k n i : Nat} (h : loN σ k + n = i) : swK σ how v b k (n + 1) = swK σ how v b k n + trm σ how v b k i := by
  unfold swK
  rw [smQ_s, h]
theorem swS_s {σ : rS} {how v b : Int32} {n : Nat} : swS σ how v b (n + 1) = swS σ how v b n + swK σ how v b n (leN σ n) := by
  unfold swS
  rw [smQ_s]
theorem swK_v {σ : rS} {how v b : Int32} {k n : Nat} (h : vsV σ k = 0) : swK σ how v b k n = 0 := smQ_0 (fun i _ => trm_v h)
theorem tw_n {σ : rS} {s : Nat} {i : Int32} (h0 : 0 ≤ i) (h1 : 0 ≤ σ.2.2.1 76 s + σ.2.2.1 83 s) (h2 : σ.2.2.1 81 s ≠ 0) (h : i ≠ σ.2.2.1 76 s + σ.2.2.1 83 s) : twI σ s i.toNatClampNeg = 0 := by
  unfold twI
  rw [if_neg h2, if_neg (cn_d h0 h1 h)]
theorem mt7 {σ : rS} {v : Int32} {i : Nat} (h : mtV σ 7 v i ≠ 0) : σ.2.2.1 77 i = 1 := by
  unfold mtV at h
  rw [if_neg (by decide), if_neg (by decide), if_neg (by decide), if_neg (by decide), if_neg (by decide), if_neg (by decide)] at h
  by_cases e : σ.2.2.1 77 i = 1
  · exact e
  · rw [if_neg e] at h; exact absurd rfl h
theorem i32_abs {x : Int32} : x.toInt64.toInt.natAbs ≤ 2147483648 := by
  rw [Int32.toInt_toInt64]
  have a := Int32.le_toInt x
  have b := Int32.toInt_lt x
  omega
theorem one_64 : (1 : Int64).toInt.natAbs ≤ 2147483648 := by decide
/-- rows that a sum reads -/
theorem swQ_S {l : List Nat} {σ τ : rS} (f : frS l σ τ) : swQ τ = swQ σ := by
  have r := fun k (h : k ≠ 90 ∧ k ≠ 91) => f.2.2.1 k h.1 h.2
  have e70 := f.1 70 (by decide)
  funext how v b
  unfold swQ swS swK trm byI alQ opQ alP
  unfold mtV vsV fV twI tTI leN loN slV
  rw [e70, r 75 (by decide), r 76 (by decide), r 77 (by decide), r 78 (by decide), r 79 (by decide), r 80 (by decide), r 81 (by decide), r 83 (by decide), r 95 (by decide), r 102 (by decide)]
theorem siS_g {σ σ2 τ : rS} {n c : Nat} {S : Rat} {l : List Nat} (f : frS l σ σ2) (J : siS σ τ n c S) : siS σ2 τ n c S := by
  have e : gV σ2 = gV σ := by
    funext k
    unfold gV
    rw [(sl_f (m := 16) (f.2.2.1 102 (by decide) (by decide))).1, tT_f (f.2.2.1 80 (by decide) (by decide)) (f.2.2.1 81 (by decide) (by decide))]
  unfold siS
  rw [e]
  exact J
theorem tm_S {l : List Nat} {σ τ : rS} (f : frS l σ τ) : fV τ = fV σ ∧ twI τ = twI σ ∧ tTI τ = tTI σ ∧ vsV τ = vsV σ ∧ mtV τ = mtV σ := by
  have r := fun k (h : k ≠ 90 ∧ k ≠ 91) => f.2.2.1 k h.1 h.2
  refine ⟨?_, ?_, ?_, ?_, ?_⟩
  · funext k; unfold fV slV; rw [r 102 (by decide)]
  · funext k i; unfold twI; rw [r 76 (by decide), r 79 (by decide), r 81 (by decide), r 83 (by decide)]
  · funext k; unfold tTI; rw [r 80 (by decide), r 81 (by decide)]
  · funext k; unfold vsV; rw [r 95 (by decide), r 102 (by decide)]
  · funext how v i; unfold mtV; rw [r 75 (by decide), r 77 (by decide), r 78 (by decide), r 95 (by decide)]
theorem pOK_S {l : List Nat} {σ τ : rS} (h : pOK σ) (f : frS l σ τ) : pOK τ := pOK_o h (fun k hk => f.1 k (by omega)) (fun k hk => f.2.2.1 k (by omega) (by omega))
theorem siS_gr {σ σ2 τ : rS} {n c : Nat} {S : Rat} {l : List Nat} (f : frS l σ σ2) (J : siS σ2 τ n c S) : siS σ τ n c S := by
  have e : gV σ2 = gV σ := by
    funext k
    unfold gV
    rw [(sl_f (m := 16) (f.2.2.1 102 (by decide) (by decide))).1, tT_f (f.2.2.1 80 (by decide) (by decide)) (f.2.2.1 81 (by decide) (by decide))]
  unfold siS at J
  rw [e] at J
  exact J
theorem one_wB : (1 : Rat) ≤ (wB : Rat) := (Rat.natCast_le_natCast (a := 1) (b := wB)).mpr (Nat.mul_pos (Nat.pow_pos (by decide)) (Nat.pow_pos (by decide)))
theorem zr_wB : (0 : Rat) ≤ (wB : Rat) := (Rat.natCast_le_natCast (a := 0) (b := wB)).mpr (Nat.zero_le _)
theorem sumWeights_c {C : rCx} (hC : cOK C) (s : Nat) {σ : rS} {a1 : Int32} {a2 : Int32} {a3 : Int32} {Q : rS → Prop} (hp : pOK σ ∧ s = (σ.1 70).toNatClampNeg ∧ (∀ k, k < s → vOK σ k) ∧ (a3 ≠ 0 → a1 = 7)) (h : ∀ (σ' : rS), (frS [0, 1, 2, 3, 4, 5, 6, 7, 8, 9, 10] σ σ' ∧ siS σ σ' s 20002 (swQ σ a1 a2 a3)) → Q σ') : cV C 6 m_sumWeights [.ref (co C), .int a1, .int a2, .int a3] σ Q := by
  refine m_sumWeights_run hC ?_
  unfold w_sumWeights_0
  obtain ⟨hO, hs, hv, h37⟩ := hp
  have n1000 := hO.1.1.2
  have hj190 : ∀ (l1 : Int32) (τ : rS), (l1 = a1 ∧ frS [0, 1, 2, 3, 4, 5, 6, 7, 8, 9, 10] σ τ ∧ siS σ τ s 20001 (swS σ a1 a2 a3 s + alQ σ a1 a2 a3)) → w_sumWeights_190 C Q  l1 τ := by
    rintro y190_1 τ190 j190
    unfold w_sumWeights_190
    obtain ⟨y1, F, J⟩ := j190
    have e70 := F.1 70 (by decide)
    have e95 := F.2.2.1 95 (by decide) (by decide)
    rw [y1, e70, e95]
    refine ⟨fun c1 => ?_, fun c1 => ?_⟩
    · skip
      refine h _ ?_
      · clear h; have e : opQ σ a1 = 0 := if_neg (fun z => c1 z.1)
        unfold swQ
        rw [← hs, e, Rat.add_zero]
        exact ⟨F, siS_mono J (by decide)⟩
    · skip
      refine ⟨fun c2 => ?_, fun c2 => ?_⟩
      · skip
        refine h _ ?_
        · clear h; have e : opQ σ a1 = 0 := if_neg (fun z => z.2.1 c2)
          unfold swQ
          rw [← hs, e, Rat.add_zero]
          exact ⟨F, siS_mono J (by decide)⟩
      · skip
        refine ⟨ib_1000.mpr ?_, ?_⟩
        · clear h; exact ⟨by decide, by decide⟩  -- b3
        refine ⟨fun c3 => ?_, fun c3 => ?_⟩
        · skip
          refine h _ ?_
          · clear h; have e : opQ σ a1 = 0 := if_neg (fun z => c3 z.2.2)
            unfold swQ
            rw [← hs, e, Rat.add_zero]
            exact ⟨F, siS_mono J (by decide)⟩
        · skip
          refine set_c hC  ?_ (fun σ_4 q5 => ?_)
          · clear h; exact ⟨by decide, by decide, by decide⟩  -- p5
          simp only [kn] at q5
          refine set_c hC  ?_ (fun σ_6 q7 => ?_)
          · clear h; exact ⟨by decide, by decide, by decide⟩  -- p6
          simp only [kn] at q7
          have g6 := nV_fr q7.1 (k := 6) (by decide) q5.2.1
          have R : hR σ_6 6 7 1 := ⟨g6.1, q7.2.1, by rw [g6.2.1, q5.2.2.1]; rfl, by rw [q7.2.2.1]; rfl⟩
          have F6 : frS [0, 1, 2, 3, 4, 5, 6, 7, 8, 9, 10] σ σ_6 := frS_tr F (frS_tr (frS_mono (frS_of q5.1) (sub_of rfl)) (frS_mono (frS_of q7.1) (sub_of rfl)))
          have A := siS_add (M := 1) (x := 1) (Or.inl rfl) hO hs hv (by decide) (siS_N q7.1 (by decide) (by decide) (siS_N q5.1 (by decide) (by decide) J)) R one_wB (Nat.dvd_refl 1) (Nat.one_dvd _) (by decide) (by decide)
          refine add_c hC  ?_ (fun σ_8 q9 => ?_)
          · clear h; exact A.1  -- p7
          refine h _ ?_
          · clear h; have e : opQ σ a1 = 1 := if_pos ⟨c1, c2, c3⟩
            have B := A.2 _ q9.2
            unfold swQ
            rw [← hs, e]
            rw [sgq_1] at B
            exact ⟨frS_tr F6 (frS_mono q9.1 (sub_of rfl)), B⟩
  have hj175 : ∀ (l1 : Int32) (s1 : Int32) (s2 : Int64) (τ : rS), (l1 = a1 ∧ s1 = 6 ∧ alP σ a1 a2 ∧ ((a3 = 0 ∧ s2 = 1) ∨ (a3 ≠ 0 ∧ s2 = 0)) ∧ frS [0, 1, 2, 3, 4, 5, 6, 7, 8, 9, 10] σ τ ∧ siS σ τ s 20000 (swS σ a1 a2 a3 s)) → w_sumWeights_175 C Q  l1 s1 s2 τ := by
    rintro y175_1 y175_s1 y175_s2 τ175 j175
    unfold w_sumWeights_175
    obtain ⟨y1, z1, z2, z3, F, J⟩ := j175
    rw [z1]
    refine set_c hC  ?_ (fun σ_10 q11 => ?_)
    · clear h; refine ⟨by decide, by decide, ?_⟩
      rcases z3 with z | z
      · rw [z.2]; decide
      · rw [z.2]; decide
    simp only [kn] at q11
    refine set_c hC  ?_ (fun σ_12 q13 => ?_)
    · clear h; exact ⟨by decide, by decide, by decide⟩  -- p10
    simp only [kn] at q13
    have g6 := nV_fr q13.1 (k := 6) (by decide) q11.2.1
    have R : hR σ_12 6 7 (if a3 = 0 then 1 else 0) := by
      rcases z3 with z | z
      · rw [if_pos z.1]; exact ⟨g6.1, q13.2.1, by rw [g6.2.1, q11.2.2.1, z.2]; rfl, by rw [q13.2.2.1]; rfl⟩
      · rw [if_neg z.1]; exact ⟨g6.1, q13.2.1, by rw [g6.2.1, q11.2.2.1, z.2]; rfl, by rw [q13.2.2.1]; rfl⟩
    have F12 : frS [0, 1, 2, 3, 4, 5, 6, 7, 8, 9, 10] σ σ_12 := frS_tr F (frS_tr (frS_mono (frS_of q11.1) (sub_of rfl)) (frS_mono (frS_of q13.1) (sub_of rfl)))
    have A := siS_add (M := 1) (x := 1) (Or.inl rfl) hO hs hv (by decide) (siS_N q13.1 (by decide) (by decide) (siS_N q11.1 (by decide) (by decide) J)) R (by split; exact one_wB; exact zr_wB) (by split; exact Nat.dvd_refl 1; exact Nat.dvd_refl 1) (Nat.one_dvd _) (by decide) (by decide)
    refine add_c hC  ?_ (fun σ_14 q15 => ?_)
    · clear h; exact A.1  -- p11
    refine hj190 _ _ ?_
    · clear h; have B := A.2 _ q15.2
      have e : alQ σ a1 a2 a3 = if a3 = 0 then 1 else 0 := if_pos z2
      rw [sgq_1, ← e] at B
      exact ⟨y1, frS_tr F12 (frS_mono q15.1 (sub_of rfl)), B⟩
  have hj156 : ∀ (l1 : Int32) (l3 : Int32) (s0 : Int32) (τ : rS), (l1 = a1 ∧ l3 = a3 ∧ ((s0 = 0 ∧ ¬ alP σ a1 a2) ∨ (s0 ≠ 0 ∧ alP σ a1 a2)) ∧ frS [0, 1, 2, 3, 4, 5, 6, 7, 8, 9, 10] σ τ ∧ siS σ τ s 20000 (swS σ a1 a2 a3 s)) → w_sumWeights_156 C Q  l1 l3 s0 τ := by
    rintro y156_1 y156_3 y156_s0 τ156 j156
    unfold w_sumWeights_156
    obtain ⟨y1, y3, z, F, J⟩ := j156
    refine ⟨fun c16 => ?_, fun c16 => ?_⟩
    · skip
      refine hj190 _ _ ?_
      · clear h; have na : ¬ alP σ a1 a2 := by
          rcases z with z | z
          · exact z.2
          · exact absurd c16 z.1
        have e : alQ σ a1 a2 a3 = 0 := if_neg na
        rw [e, Rat.add_zero]
        exact ⟨y1, F, siS_mono J (by decide)⟩
    · skip
      refine ⟨fun c17 => ?_, fun c17 => ?_⟩
      · skip
        refine hj175 _ _ _ _ ?_
        · clear h; have al : alP σ a1 a2 := by
            rcases z with z | z
            · exact absurd z.1 c16
            · exact z.2
          exact ⟨y1, rfl, al, Or.inl ⟨by rw [← y3]; exact c17, rfl⟩, F, J⟩
      · skip
        refine hj175 _ _ _ _ ?_
        · clear h; have al : alP σ a1 a2 := by
            rcases z with z | z
            · exact absurd z.1 c16
            · exact z.2
          exact ⟨y1, rfl, al, Or.inr ⟨by rw [← y3]; exact c17, rfl⟩, F, J⟩
  have hj145 : ∀ (l1 : Int32) (l3 : Int32) (τ : rS), (l1 = a1 ∧ l3 = a3 ∧ σ.1 70 = 0 ∧ ¬ (a1 = 0 ∧ σ.2.2.1 75 0 = a2) ∧ ¬ (a1 = 2 ∧ a2 = 0) ∧ frS [0, 1, 2, 3, 4, 5, 6, 7, 8, 9, 10] σ τ ∧ siS σ τ s 20000 (swS σ a1 a2 a3 s)) → w_sumWeights_145 C Q  l1 l3 τ := by
    rintro y145_1 y145_3 τ145 j145
    unfold w_sumWeights_145
    obtain ⟨y1, y3, z70, n1, n2, F, J⟩ := j145
    refine ⟨fun c18 => ?_, fun c18 => ?_⟩
    · skip
      refine hj156 _ _ _ _ ?_
      · clear h; refine ⟨y1, y3, Or.inl ⟨rfl, ?_⟩, F, J⟩
        rintro ⟨-, q | q | q⟩
        · exact n1 q
        · exact n2 q
        · exact q (by rw [← y1]; exact c18)
    · skip
      refine hj156 _ _ _ _ ?_
      · clear h; exact ⟨y1, y3, Or.inr ⟨by decide, z70, Or.inr (Or.inr (by rw [← y1]; exact c18))⟩, F, J⟩  -- k17
  have hj136 : ∀ (l1 : Int32) (l2 : Int32) (l3 : Int32) (τ : rS), (l1 = a1 ∧ l2 = a2 ∧ l3 = a3 ∧ σ.1 70 = 0 ∧ ¬ (a1 = 0 ∧ σ.2.2.1 75 0 = a2) ∧ frS [0, 1, 2, 3, 4, 5, 6, 7, 8, 9, 10] σ τ ∧ siS σ τ s 20000 (swS σ a1 a2 a3 s)) → w_sumWeights_136 C Q  l1 l2 l3 τ := by
    rintro y136_1 y136_2 y136_3 τ136 j136
    unfold w_sumWeights_136
    obtain ⟨y1, y2, y3, z70, n1, F, J⟩ := j136
    refine ⟨fun c19 => ?_, fun c19 => ?_⟩
    · skip
      refine hj145 _ _ _ ?_
      · clear h; exact ⟨y1, y3, z70, n1, fun q => c19 (by rw [y1]; exact q.1), F, J⟩  -- k18
    · skip
      refine ⟨fun c20 => ?_, fun c20 => ?_⟩
      · skip
        refine hj156 _ _ _ _ ?_
        · clear h; exact ⟨y1, y3, Or.inr ⟨by decide, z70, Or.inr (Or.inl ⟨by rw [← y1]; exact c19, by rw [← y2]; exact c20⟩)⟩, F, J⟩  -- k19
      · skip
        refine hj145 _ _ _ ?_
        · clear h; exact ⟨y1, y3, z70, n1, fun q => c20 (by rw [y2]; exact q.2), F, J⟩  -- k20
  refine clearSum_c hC  (fun σ_21 q22 => ?_)
  unfold w_sumWeights_7
  refine ⟨fun n l1 l2 l3 l4 τ => n = (σ.1 70 - l4).toNatClampNeg ∧ (l1 = a1 ∧ l2 = a2 ∧ l3 = a3 ∧ frS [0, 1, 2, 3, 4, 5, 6, 7, 8, 9, 10] σ τ ∧ 0 ≤ l4 ∧ l4 ≤ σ.1 70 ∧ ∃ d, d ≤ 20000 ∧ (l4 < σ.1 70 → d ≤ loN σ l4.toNatClampNeg) ∧ siS σ τ s d (swS σ a1 a2 a3 l4.toNatClampNeg)), ⟨_, rfl, ?_⟩, ?_⟩
  · clear h; exact ⟨rfl, rfl, rfl, frS_mono q22.1 (sub_of rfl), by decide, hO.1.1.1, 0, by decide, fun _ => Nat.zero_le _, siS_0 q22.2⟩  -- j21
  rintro n7 x7_1 x7_2 x7_3 x7_4 σ7 ⟨hn7, i7⟩
  obtain ⟨e1, e2, e3, F, a0, a1', d, d1, d2, J⟩ := i7
  have e70 := F.1 70 (by decide)
  have e75 := F.2.2.1 75 (by decide) (by decide)
  have e76 := F.2.2.1 76 (by decide) (by decide)
  rw [e70, e75, e76]
  refine ⟨fun c23 => ?_, fun c23 => ?_⟩
  · skip
    refine ⟨fun c24 => ?_, fun c24 => ?_⟩
    · skip
      refine hj156 _ _ _ _ ?_
      · clear h; have e : x7_4 = σ.1 70 := Int32.le_antisymm a1' c23
        rw [e, ← hs] at J
        exact ⟨e1, e3, Or.inl ⟨rfl, fun q => c24 q.1⟩, F, siS_mono J d1⟩
    · skip
      refine ⟨fun c25 => ?_, fun c25 => ?_⟩
      · skip
        refine hj136 _ _ _ _ ?_
        · clear h; have e : x7_4 = σ.1 70 := Int32.le_antisymm a1' c23
          rw [e, ← hs] at J
          exact ⟨e1, e2, e3, c24, fun q => c25 (by rw [e1]; exact q.1), F, siS_mono J d1⟩
      · skip
        refine ⟨ib_35000.mpr ?_, ?_⟩
        · clear h; exact ⟨by decide, by decide⟩  -- b24
        refine ⟨fun c26 => ?_, fun c26 => ?_⟩
        · skip
          refine hj156 _ _ _ _ ?_
          · clear h; have e : x7_4 = σ.1 70 := Int32.le_antisymm a1' c23
            rw [e, ← hs] at J
            exact ⟨e1, e3, Or.inr ⟨by decide, c24, Or.inl ⟨by rw [← e1]; exact c25, by rw [← e2]; exact c26⟩⟩, F, siS_mono J d1⟩
        · skip
          refine hj136 _ _ _ _ ?_
          · clear h; have e : x7_4 = σ.1 70 := Int32.le_antisymm a1' c23
            rw [e, ← hs] at J
            exact ⟨e1, e2, e3, c24, fun q => c26 (by rw [e2]; exact q.2), F, siS_mono J d1⟩
  · skip
    have u := uk a0 c23 n1000
    have st := ex_st hO.1 a0 u.2.2.2.2.1
    have as := cn_succ a0 (Int32.lt_trans u.2.2.2.2.2 (by decide))
    have ks : x7_4.toNatClampNeg < s := by rw [hs]; exact cn_lt a0 u.2.2.2.2.1
    have hi2 := Int32.le_trans st.2.2.1 hO.1.2.2.1.2
    refine ⟨ib_1001.mpr ?_, ?_⟩
    · clear h; exact ⟨a0, Int32.lt_trans u.2.2.2.2.2 (by decide)⟩  -- b27
    intro x27 hx27
    unfold w_sumWeights_25
    refine ⟨fun n l1 l2 l3 l4 l5 τ => n = (σ.2.2.1 76 (x7_4.toNatClampNeg + 1) - l5).toNatClampNeg ∧ (l1 = a1 ∧ l2 = a2 ∧ l3 = a3 ∧ l4 = x7_4 ∧ frS [0, 1, 2, 3, 4, 5, 6, 7, 8, 9, 10] σ τ ∧ σ.2.2.1 76 x7_4.toNatClampNeg ≤ l5 ∧ l5 ≤ σ.2.2.1 76 (x7_4.toNatClampNeg + 1) ∧ siS σ τ s l5.toNatClampNeg (swS σ a1 a2 a3 x7_4.toNatClampNeg + swK σ a1 a2 a3 x7_4.toNatClampNeg (l5.toNatClampNeg - loN σ x7_4.toNatClampNeg))), ⟨_, rfl, ?_⟩, ?_⟩
    · clear h; rw [hx27]
      refine ⟨e1, e2, e3, rfl, F, Int32.le_refl _, st.2.1, ?_⟩
      have dl := d2 u.2.2.2.2.1
      unfold loN at dl ⊢
      rw [Nat.sub_self, show swK σ a1 a2 a3 x7_4.toNatClampNeg 0 = 0 from rfl, Rat.add_zero]
      exact siS_mono J dl
    rintro n25 x25_1 x25_2 x25_3 x25_4 x25_5 σ25 ⟨hn25, i25⟩
    obtain ⟨f1, f2, f3, f4, G, w1, w2, J2⟩ := i25
    have i0 := Int32.le_trans st.1.1 w1
    have g76 := G.2.2.1 76 (by decide) (by decide)
    have g78 := G.2.2.1 78 (by decide) (by decide)
    have g75 := G.2.2.1 75 (by decide) (by decide)
    have g81 := G.2.2.1 81 (by decide) (by decide)
    have g83 := G.2.2.1 83 (by decide) (by decide)
    have tS := tm_S G
    have hi20 : x25_5.toNatClampNeg ≤ 20000 := cn_le (y := 20000) rfl (Int32.le_trans w2 hi2)
    rw [f4]
    refine isVisited_c hC  ?_ (fun r28 q30 => ?_)
    · clear h; exact ⟨a0, u.2.2.2.2.2⟩  -- p29
    rw [tS.2.2.2.1] at q30
    rw [g76, st.2.2.2.1]
    refine ⟨fun c31 => ?_, fun c31 => ?_⟩
    · skip
      intro x32 hx32
      refine ⟨_, cn_lt2 hn7 ?_ ?_, rfl, ?_⟩
      · clear h; rw [hx32]; exact u.1  -- d30
      · clear h; rw [hx32]; exact u.2.1  -- d31
      · clear h; rw [q30] at c31
        rw [swK_v c31] at J2
        rw [hx32]
        exact ⟨f1, f2, f3, G, u.2.2.1, u.2.2.2.1, x25_5.toNatClampNeg, hi20, fun _ => by rw [as]; unfold loN; exact cn_l w2 i0, by rw [as, swS_s, swK_v c31]; exact J2⟩
    · skip
      refine ⟨ib_1001.mpr ?_, ?_⟩
      · clear h; exact ⟨st.2.2.2.2.2.1, st.2.2.2.2.2.2⟩  -- b33
      refine ⟨fun c33 => ?_, fun c33 => ?_⟩
      · skip
        intro x34 hx34
        refine ⟨_, cn_lt2 hn7 ?_ ?_, rfl, ?_⟩
        · clear h; rw [hx34]; exact u.1  -- d34
        · clear h; rw [hx34]; exact u.2.1  -- d35
        · clear h; have e5 : x25_5 = σ.2.2.1 76 (x7_4.toNatClampNeg + 1) := Int32.le_antisymm w2 c33
          have el : x25_5.toNatClampNeg - loN σ x7_4.toNatClampNeg = leN σ x7_4.toNatClampNeg := by rw [e5]; rfl
          rw [el] at J2
          rw [hx34]
          exact ⟨f1, f2, f3, G, u.2.2.1, u.2.2.2.1, x25_5.toNatClampNeg, hi20, fun _ => by rw [as]; unfold loN; exact cn_l w2 i0, by rw [as, swS_s]; exact J2⟩
      · skip
        have z := u2 i0 c33 hi2
        have is := cn_succ i0 (Int32.lt_trans z.2.2.2.2.2.2 (by decide))
        have lo := cn_l w1 st.1.1
        have tw := tw_b hO a0 u.2.2.2.2.1 w1 z.2.2.2.2.2.1
        have el : loN σ x7_4.toNatClampNeg + (x25_5.toNatClampNeg - loN σ x7_4.toNatClampNeg) = x25_5.toNatClampNeg := by unfold loN; omega
        have el2 : x25_5.toNatClampNeg + 1 - loN σ x7_4.toNatClampNeg = x25_5.toNatClampNeg - loN σ x7_4.toNatClampNeg + 1 := by unfold loN; omega
        have hO25 := pOK_S hO G
        have nv : vsV σ x7_4.toNatClampNeg ≠ 0 := by rw [← q30]; exact c31
        refine isTaken_c hC  ?_ (fun r35 q37 => ?_)
        · clear h; exact ⟨a0, u.2.2.2.2.2⟩  -- p37
        have tk := q37.2
        rw [rd, rd, rd, g81, g76, g83] at tk
        refine ⟨fun c38 => ?_, fun c38 => ?_⟩
        · skip
          intro x39 hx39
          refine ⟨_, cn_lt2 hn25 ?_ ?_, rfl, ?_⟩
          · clear h; rw [hx39]; exact z.1  -- d38
          · clear h; rw [hx39]; exact z.2.1  -- d39
          · clear h; have nt := fun y => (tk.mpr y) c38
            have n81 : σ.2.2.1 81 x7_4.toNatClampNeg ≠ 0 := fun y => nt (Or.inr (Or.inl y))
            have tz := tw_n i0 (pl_at hO a0 u.2.2.2.2.1 n81) n81 (fun y => nt (Or.inr (Or.inr y)))
            rw [hx39, is]
            refine ⟨f1, f2, f3, rfl, G, Int32.le_trans w1 z.2.2.2.1, z.2.2.2.2.1, ?_⟩
            rw [el2, swK_s el, trm_t tz, Rat.add_zero]
            exact siS_mono J2 (by omega)
        · skip
          refine isMeant_c hC  ?_ (fun r40 q42 => ?_)
          · clear h; rw [G.1 72 (by decide)]; exact ⟨hO25.1, i0, tw.2.2.2.2⟩  -- p41
          rw [tS.2.2.2.2, f1, f2] at q42
          have tkn := (tk.mp c38).resolve_left (by decide)
          refine ⟨fun c43 => ?_, fun c43 => ?_⟩
          · skip
            intro x44 hx44
            refine ⟨_, cn_lt2 hn25 ?_ ?_, rfl, ?_⟩
            · clear h; rw [hx44]; exact z.1  -- d42
            · clear h; rw [hx44]; exact z.2.1  -- d43
            · clear h; rw [q42] at c43
              rw [hx44, is]
              refine ⟨f1, f2, f3, rfl, G, Int32.le_trans w1 z.2.2.2.1, z.2.2.2.2.1, ?_⟩
              rw [el2, swK_s el, trm_m c43, Rat.add_zero]
              exact siS_mono J2 (by omega)
          · skip
            refine ⟨fun c45 => ?_, fun c45 => ?_⟩
            · skip
              refine addWeight_c hC s x25_5.toNatClampNeg (swS σ a1 a2 a3 x7_4.toNatClampNeg + swK σ a1 a2 a3 x7_4.toNatClampNeg (x25_5.toNatClampNeg - loN σ x7_4.toNatClampNeg)) ?_ (fun σ_46 q47 => ?_)
              · clear h; rw [G.1 70 (by decide), g76, g81, g83]
                exact ⟨hO25, hs, fun k hk => vOK_f (G.2.2.1 102 (by decide) (by decide)) (hv k hk), a0, u.2.2.2.2.1, w1, z.2.2.2.2.2.1, tkn, one_64, siS_g G J2, by omega⟩
              rw [tS.1, tS.2.1, tS.2.2.1] at q47
              have by1 : byI σ a1 a2 a3 x25_5.toNatClampNeg = 1 := by
                unfold byI
                rw [if_neg (by rw [← q42]; exact c43), if_pos (by rw [← f3]; exact c45)]
              rw [show (1 : Int64).toInt = 1 from rfl, trm_e nv by1] at q47
              intro x48 hx48
              refine ⟨_, cn_lt2 hn25 ?_ ?_, rfl, ?_⟩
              · clear h; rw [hx48]; exact z.1  -- d46
              · clear h; rw [hx48]; exact z.2.1  -- d47
              · clear h; rw [hx48, is]
                refine ⟨f1, f2, f3, rfl, frS_tr G q47.1, Int32.le_trans w1 z.2.2.2.1, z.2.2.2.2.1, ?_⟩
                rw [el2, swK_s el, ← Rat.add_assoc]
                exact siS_gr G q47.2
            · skip
              refine ⟨ib_20000.mpr ?_, ?_⟩
              · clear h; exact ⟨i0, z.2.2.2.2.2.2⟩  -- b49
              refine ⟨ib_35000.mpr ?_, ?_⟩
              · clear h; rw [f3] at c45
                rw [q42, h37 c45] at c43
                have q := (hO.1.2.2.2.2 _ (cn_lt i0 tw.2.2.2.2)).2.2 (mt7 c43)
                rw [g78]
                exact (xe q.1 (Int32.lt_of_lt_of_le q.2 hO.1.2.1.2) (i := 0) (by decide) (by decide)).2
              refine addWeight_c hC s x25_5.toNatClampNeg (swS σ a1 a2 a3 x7_4.toNatClampNeg + swK σ a1 a2 a3 x7_4.toNatClampNeg (x25_5.toNatClampNeg - loN σ x7_4.toNatClampNeg)) ?_ (fun σ_49 q50 => ?_)
              · clear h; rw [G.1 70 (by decide), g76, g81, g83]
                exact ⟨hO25, hs, fun k hk => vOK_f (G.2.2.1 102 (by decide) (by decide)) (hv k hk), a0, u.2.2.2.2.1, w1, z.2.2.2.2.2.1, tkn, i32_abs, siS_g G J2, by omega⟩
              rw [tS.1, tS.2.1, tS.2.2.1, g75, g78, Int32.toInt_toInt64] at q50
              have by1 : byI σ a1 a2 a3 x25_5.toNatClampNeg = (σ.2.2.1 75 (35 * σ.2.2.1 78 x25_5.toNatClampNeg).toNatClampNeg).toInt := by
                unfold byI
                rw [if_neg (by rw [← q42]; exact c43), if_neg (by rw [← f3]; exact c45)]
              rw [trm_e nv by1] at q50
              intro x51 hx51
              refine ⟨_, cn_lt2 hn25 ?_ ?_, rfl, ?_⟩
              · clear h; rw [hx51]; exact z.1  -- d52
              · clear h; rw [hx51]; exact z.2.1  -- d53
              · clear h; rw [hx51, is]
                refine ⟨f1, f2, f3, rfl, frS_tr G q50.1, Int32.le_trans w1 z.2.2.2.1, z.2.2.2.2.1, ?_⟩
                rw [el2, swK_s el, ← Rat.add_assoc]
                exact siS_gr G q50.2
