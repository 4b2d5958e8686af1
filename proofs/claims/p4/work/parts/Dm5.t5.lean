set_option maxHeartbeats 1600000
/-! the reference takes a name -/
theorem bS_n5 {σ : rS} {t : Nat} {F : Int64} {G : Int32} : bS5 (nmS5 σ t F G) = bS5 σ := rfl
theorem nS_n5 {σ : rS} {t : Nat} {F : Int64} {G : Int32} : nS5 (nmS5 σ t F G) = nS5 σ := rfl
theorem nm_8_5 {σ : rS} {t : Nat} {F : Int64} {G : Int32} : (nmS5 σ t F G).2.2.2 8 t = F := by
  unfold nmS5
  rw [ri5, rl45, if_pos rfl, if_pos rfl]
theorem nm_9_5 {σ : rS} {t : Nat} {F : Int64} {G : Int32} : (nmS5 σ t F G).2.2.1 9 t = G := by
  unfold nmS5
  rw [ri34, if_pos rfl, if_pos rfl]
theorem bS_r5 {σ : rS} {j : Nat} : 0 ≤ (bS5 σ j).toInt ∧ (bS5 σ j).toInt < 256 := by
  unfold bS5
  have a := andi_i (x := σ.2.2.1 1 j) (m := 255) (by decide)
  have e255 : (255 : Int32).toInt = 255 := rfl
  rw [e255] at a
  omega
/-- letters and digits -/
def cL5 : Int32 → Bool := fun x => isLqq5 x || isDqq5 x
/-- what stands behind a name -/
def tnE5 (σ : rS) (t : Nat) (a2 a3 : Int32) : rS × Int32 := g5_takeName_159 (Int32.ofNat t) a2 a3 (Int32.ofNat t) (if σ.2.2.1 9 t = 0 then g5_wordOf (σ.2.2.2 8 t) σ else 0) σ
theorem tn_m5 {σ : rS} {t1 : Int32} {t p : Nat} (H : okS5 σ) (ht : t1.toNatClampNeg = t) (hp : p < nS5 σ) : ∀ (m k : Nat) (a2 a3 : Int32) (F : Int64) (G : Int32), a2.toInt = p → a3.toInt = p + k → p + k ≤ nS5 σ → nS5 σ - (p + k) < m → nmP5 (bS5 σ) p k F G → ∃ (k' : Nat) (F' : Int64) (G' : Int32) (a3' : Int32), nmP5 (bS5 σ) p k' F' G' ∧ a3'.toInt = p + k' ∧ p + k' = rnqq5 cL5 (bS5 σ) (nS5 σ) (p + k) ∧ g5_takeName_2 m t1 a2 a3 (nmS5 σ t F G) = (if G' = 0 then g5_takeName_159 t1 a2 a3' t1 (g5_wordOf F' (nmS5 σ t F' G')) (nmS5 σ t F' G') else g5_takeName_159 t1 a2 a3' t1 0 (nmS5 σ t F' G'))
  | 0, _, _, _, _, _, _, _, _, h, _ => by omega
  | m + 1, k, a2, a3, F, G, e2, e3, hk, hm, hN => by
    have hn : nS5 σ ≤ 65536 := by have := H.2; unfold nS5; omega
    have n8 := nm_8_5 (σ := σ) (t := t) (F := F) (G := G)
    have n9 := nm_9_5 (σ := σ) (t := t) (F := F) (G := G)
    have e3n : a3.toInt.toNat = p + k := by omega
    have hbA : g5_byteAt a3 (nmS5 σ t F G) = bAqq5 (bS5 σ) (nS5 σ) (p + k) := by
      rw [bs_5 (by omega), bS_n5, nS_n5, e3n]
    have stop : ¬ (p + k < nS5 σ ∧ cL5 (bS5 σ (p + k)) = true) → isLqq5 (bAqq5 (bS5 σ) (nS5 σ) (p + k)) = false ∧ isDqq5 (bAqq5 (bS5 σ) (nS5 σ) (p + k)) = false := fun q => by
      by_cases l : p + k < nS5 σ
      · rw [ba_5 l]
        have w : cL5 (bS5 σ (p + k)) = false := Bool.eq_false_iff.mpr (fun y => q ⟨l, y⟩)
        unfold cL5 at w
        exact Bool.or_eq_false_iff.mp w
      · have w : bAqq5 (bS5 σ) (nS5 σ) (p + k) = -1 := if_neg l
        rw [w]
        exact ⟨by decide, by decide⟩
    by_cases c : p + k < nS5 σ ∧ cL5 (bS5 σ (p + k)) = true
    · have l := c.1
      have cl := c.2
      have hb := bS_r5 (σ := σ) (j := p + k)
      have e4 : (a3 + 1).toInt = (p : Int) + (k + 1 : Nat) := by
        rw [in_5 (n := 65536) (by omega) (by omega) (by omega)]
        omega
      have hv : a3 - a2 = Int32.ofNat k := by
        apply Int32.toInt_inj.mp
        rw [su_i5 (by omega) (by omega), ofn_i (by omega)]
        omega
      have step : g5_takeName_24 (g5_takeName_2 m) t1 a2 a3 (nmS5 σ t F G) = g5_takeName_2 m t1 a2 (a3 + 1) (nmS5 σ t (if k < 8 then F ||| ((bS5 σ (p + k)).toInt64 <<< (((56 : Int32) - 8 * (Int32.ofNat k)).toInt64 &&& 63)) else F) (if 8 ≤ k ∧ k < 12 then G ||| ((bS5 σ (p + k)) <<< (((24 : Int32) - 8 * (Int32.ofNat k - 8)) &&& 31)) else G)) := by
        have kb : (Int32.ofNat k).toInt = k := ofn_i (by omega)
        have e8 : (8 : Int32).toInt = 8 := rfl
        have e12 : (12 : Int32).toInt = 12 := rfl
        unfold g5_takeName_24
        dsimp only [pb5]
        rw [hv, hbA, ba_5 l, ht, n8]
        by_cases k8 : k < 8
        · rw [if_neg (by rw [lei, kb, e8]; omega), if_pos k8, if_neg (by omega)]
          unfold g5_takeName_72 g5_takeName_119 g5_takeName_125
          dsimp only [pb5]
          rw [if_pos (by rw [lti, kb, e8]; omega), ht]
          show g5_takeName_2 m t1 a2 (a3 + 1) (riU (rlU (nmS5 σ t F G) 8 t _) 9 t ((rlU (nmS5 σ t F G) 8 t _).2.2.1 9 t)) = _
          rw [rl3a, n9, nm_s5]
        · rw [if_pos (by rw [lei, kb, e8]; omega), if_neg k8]
          unfold g5_takeName_72
          dsimp only [pb5]
          rw [if_neg (by rw [lti, kb, e8]; omega)]
          by_cases k12 : k < 12
          · rw [if_neg (by rw [lei, kb, e12]; omega), if_pos ⟨by omega, k12⟩]
            have hb2 : g5_byteAt a3 (rlU (nmS5 σ t F G) 8 t1.toNatClampNeg F) = bS5 σ (p + k) := by
              have q : g5_byteAt a3 (rlU (nmS5 σ t F G) 8 t1.toNatClampNeg F) = g5_byteAt a3 (nmS5 σ t F G) := rfl
              rw [q, hbA, ba_5 l]
            rw [hb2]
            unfold g5_takeName_125
            dsimp only [pb5]
            rw [ht]
            show g5_takeName_2 m t1 a2 (a3 + 1) (riU (rlU (nmS5 σ t F G) 8 t F) 9 t ((rlU (nmS5 σ t F G) 8 t F).2.2.1 9 t ||| _)) = _
            rw [rl3a, n9, nm_s5]
          · rw [if_pos (by rw [lei, kb, e12]; omega), if_neg (by omega)]
            unfold g5_takeName_119 g5_takeName_125
            dsimp only [pb5]
            rw [ht]
            show g5_takeName_2 m t1 a2 (a3 + 1) (riU (rlU (nmS5 σ t F G) 8 t F) 9 t ((rlU (nmS5 σ t F G) 8 t F).2.2.1 9 t)) = _
            rw [rl3a, n9, nm_s5]
      have hN2 : nmP5 (bS5 σ) p (k + 1) (if k < 8 then F ||| ((bS5 σ (p + k)).toInt64 <<< (((56 : Int32) - 8 * (Int32.ofNat k)).toInt64 &&& 63)) else F) (if 8 ≤ k ∧ k < 12 then G ||| ((bS5 σ (p + k)) <<< (((24 : Int32) - 8 * (Int32.ofNat k - 8)) &&& 31)) else G) := by
        by_cases k8 : k < 8
        · rw [if_pos k8, if_neg (by omega)]
          exact nm_a5 hN k8 rfl hb.1 hb.2 rfl
        · rw [if_neg k8]
          by_cases k12 : k < 12
          · rw [if_pos ⟨by omega, k12⟩]
            exact nm_b5 hN (by omega) k12 rfl hb.1 hb.2 rfl
          · rw [if_neg (by omega)]
            exact nm_c5 hN (by omega)
      obtain ⟨k', F', G', a3', r1, r2, r3, r4⟩ := tn_m5 H ht hp m (k + 1) a2 (a3 + 1) _ _ e2 e4 (by omega) (by omega) hN2
      refine ⟨k', F', G', a3', r1, r2, ?_, ?_⟩
      · rw [r3, rn_s5 (p := p + k) ⟨l, cl⟩]
        rfl
      · rw [← r4, ← step]
        unfold g5_takeName_2
        dsimp only [pb5]
        rw [hbA, ba_5 l, gl_5, gd_5]
        unfold cL5 at cl
        by_cases w : isLqq5 (bS5 σ (p + k)) = true
        · rw [if_pos w, if_neg (by decide)]
        · rw [if_neg w, if_pos rfl]
          have w2 : isDqq5 (bS5 σ (p + k)) = true := by
            rw [Bool.eq_false_iff.mpr w] at cl
            exact cl
          rw [if_pos w2, if_neg (by decide)]
    · refine ⟨k, F, G, a3, hN, e3, (rn_e5 c).symm, ?_⟩
      obtain ⟨q1, q2⟩ := stop c
      unfold g5_takeName_2
      dsimp only [pb5]
      rw [hbA, gl_5, gd_5, q1, q2, ht, n9, n8]
      rfl
