set_option maxHeartbeats 1600000
/-! the reference's names: what is packed -/
def nmP5 (B : Nat → Int32) (p k : Nat) (F : Int64) (G : Int32) : Prop := (∀ i, i < 8 → b8_5 F i = if i < k then BitVec.ofNat 8 (B (p + i)).toInt.toNat else 0) ∧ (∀ i, i < 4 → b4_5 G i = if 8 + i < k then BitVec.ofNat 8 (B (p + 8 + i)).toInt.toNat else 0)
theorem or_z5 {x : BitVec 8} : (0 : BitVec 8) ||| x = x := by simp
theorem nm_05 {B : Nat → Int32} {p : Nat} : nmP5 B p 0 0 0 := ⟨fun i _ => by rw [b8_z5, if_neg (by omega)], fun i _ => by rw [b4_z5, if_neg (by omega)]⟩
theorem nm_a5 {B : Nat → Int32} {p k : Nat} {F : Int64} {G b v : Int32} (h : nmP5 B p k F G) (hk : k < 8) (hb : b = B (p + k)) (h0 : 0 ≤ b.toInt) (h1 : b.toInt < 256) (hv : v = Int32.ofNat k) : nmP5 B p (k + 1) (F ||| (b.toInt64 <<< (((56 : Int32) - 8 * v).toInt64 &&& 63))) G := by
  refine ⟨fun i hi => ?_, fun i hi => ?_⟩
  · rw [b8_b5 (n := b.toInt.toNat) (by omega) (by omega) hv hk hi]
    by_cases e : i = k
    · subst e
      rw [if_pos rfl, h.1 i hi, if_neg (by omega), or_z5, if_pos (by omega), hb]
    · rw [if_neg e, h.1 i hi]
      by_cases l : i < k
      · rw [if_pos l, if_pos (by omega)]
      · rw [if_neg l, if_neg (by omega)]
  · rw [h.2 i hi, if_neg (by omega), if_neg (by omega)]
theorem nm_b5 {B : Nat → Int32} {p k : Nat} {F : Int64} {G b v : Int32} (h : nmP5 B p k F G) (hk : 8 ≤ k) (hk2 : k < 12) (hb : b = B (p + k)) (h0 : 0 ≤ b.toInt) (h1 : b.toInt < 256) (hv : v = Int32.ofNat k) : nmP5 B p (k + 1) F (G ||| (b <<< (((24 : Int32) - 8 * (v - 8)) &&& 31))) := by
  refine ⟨fun i hi => ?_, fun i hi => ?_⟩
  · rw [h.1 i hi, if_pos (by omega), if_pos (by omega)]
  · rw [b4_b5 (n := b.toInt.toNat) (k := k - 8) (by omega) (by omega) (by rw [hv]; congr 1; omega) (by omega) hi]
    by_cases e : i = k - 8
    · rw [if_pos e, h.2 i hi, if_neg (by omega), or_z5, if_pos (by omega), hb]
      have q : p + k = p + 8 + i := by omega
      rw [q]
    · rw [if_neg e, h.2 i hi]
      by_cases l : 8 + i < k
      · rw [if_pos l, if_pos (by omega)]
      · rw [if_neg l, if_neg (by omega)]
theorem nm_c5 {B : Nat → Int32} {p k : Nat} {F : Int64} {G : Int32} (h : nmP5 B p k F G) (hk : 12 ≤ k) : nmP5 B p (k + 1) F G := by
  refine ⟨fun i hi => ?_, fun i hi => ?_⟩
  · rw [h.1 i hi, if_pos (by omega), if_pos (by omega)]
  · rw [h.2 i hi, if_pos (by omega), if_pos (by omega)]
/-- a name's cells -/
def nmS5 (σ : rS) (t : Nat) (F : Int64) (G : Int32) : rS := riU (rlU σ 8 t F) 9 t G
theorem nm_s5 {σ : rS} {t : Nat} {F F' : Int64} {G G' : Int32} : riU (rlU (nmS5 σ t F G) 8 t F') 9 t G' = nmS5 σ t F' G' := by
  unfold nmS5
  refine Prod.ext rfl (Prod.ext rfl (Prod.ext (funext fun r => funext fun j => ?_) (funext fun r => funext fun j => ?_)))
  · rw [ri34, ri34]
    simp only [rl3a, ri34]
    by_cases a : r = 9
    · subst a
      simp only [if_true]
      by_cases b : j = t
      · rw [if_pos b, if_pos b]
      · rw [if_neg b, if_neg b]
        simp only [if_neg b]
    · rw [if_neg a, if_neg a]
      simp only [if_neg a]
  · rw [ri5, ri5, rl45, rl45]
    by_cases a : r = 8
    · subst a
      simp only [if_true, ri5, rl45]
      by_cases b : j = t
      · rw [if_pos b, if_pos b]
      · rw [if_neg b, if_neg b]
        simp only [if_neg b]
    · rw [if_neg a, if_neg a, ri5, rl45, if_neg a]
theorem nm_i5 {σ : rS} {t : Nat} (h8 : σ.2.2.2 8 t = 0) (h9 : σ.2.2.1 9 t = 0) : nmS5 σ t 0 0 = σ := by
  unfold nmS5
  refine Prod.ext rfl (Prod.ext rfl (Prod.ext (funext fun r => funext fun j => ?_) (funext fun r => funext fun j => ?_)))
  · rw [ri34]
    by_cases a : r = 9
    · subst a
      rw [if_pos rfl]
      by_cases b : j = t
      · rw [if_pos b, b, h9]
      · rw [if_neg b, rl3a]
    · rw [if_neg a, rl3a]
  · rw [ri5, rl45]
    by_cases a : r = 8
    · subst a
      rw [if_pos rfl]
      by_cases b : j = t
      · rw [if_pos b, b, h8]
      · rw [if_neg b]
    · rw [if_neg a]
