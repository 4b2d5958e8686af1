set_option maxHeartbeats 1600000
/-! a statement begins -/
/-- nothing but columns from 6 on, firsts and lasts -/
def rK5 (e e' : E5) : Prop := e'.1 = e.1 ∧ e'.2.2 = e.2.2 ∧ (∀ g, g ≠ 506 → g ≠ 503 → g ≠ 1012 → e'.2.1 g = e.2.1 g) ∧ ∀ j c, (c = 0 ∨ c = 1 ∨ c = 4 ∨ c = 5) → e'.2.1 506 (11 * j + c) = e.2.1 506 (11 * j + c)
theorem rK_r5 {e : E5} : rK5 e e := ⟨rfl, rfl, fun _ _ _ _ => rfl, fun _ _ _ => rfl⟩
theorem rK_t5 {e f g : E5} (h : rK5 e f) (k : rK5 f g) : rK5 e g := ⟨k.1.trans h.1, k.2.1.trans h.2.1, fun j a b c => (k.2.2.1 j a b c).trans (h.2.2.1 j a b c), fun j c hc => (k.2.2.2 j c hc).trans (h.2.2.2 j c hc)⟩
theorem rK_sa5 {e : E5} {f i : Nat} {x : Int32} (hf : f = 503 ∨ f = 1012) : ∃ e', sa5 f i x e = .inl (e', ()) ∧ rK5 e e' := by
  refine ⟨_, rfl, rfl, rfl, fun g a b c => funext fun j => if_neg (fun q => ?_), fun j c hc => if_neg (fun q => ?_)⟩
  · rcases hf with h | h
    · exact b (q.1.trans h)
    · exact c (q.1.trans h)
  · rcases hf with h | h <;> rw [h] at q <;> exact absurd q.1 (by decide)
theorem ix11_5 {s : Int32} {n c : Nat} (h0 : 0 ≤ s.toInt) (h1 : s.toInt ≤ 1000) (hc : c ≤ 10) : (s * 11 + Int32.ofNat c).toNatClampNeg = 11 * s.toInt.toNat + c := by
  have l11 : (11 : Int32).toInt = 11 := rfl
  have lc := ofn_i (n := c) (by omega)
  have m1 : (s * 11).toInt = s.toInt * 11 := by rw [mul_i (by rw [l11]; omega) (by rw [l11]; omega), l11]
  rw [nc_5, add_i (by omega) (by omega), m1, lc]
  omega
theorem rK_st5 {e : E5} {s x : Int32} {c st : Nat} (hs : e.1 coStatements = Int32.ofNat st) (hst : st ≤ 1000) (hc : 6 ≤ c) (hc2 : c ≤ 10) : rK5 e (stc5 s (Int32.ofNat c) x e) := by
  obtain ⟨p1, p2, p3⟩ := stc_15 (s := s) (c := Int32.ofNat c) (x := x) (e := e)
  refine ⟨p1, p2, fun g a _ _ => p3 g a, fun j d hd => ?_⟩
  unfold stc5
  by_cases h : s < 0
  · rw [if_pos h]
  · rw [if_neg h]
    by_cases k : e.1 coStatements ≤ s
    · rw [if_pos k]
    · rw [if_neg k]
      rw [lti, t0i] at h
      rw [hs, lei, ofn_i (by omega)] at k
      refine if_neg (fun q => ?_)
      have z := q.2
      rw [ix11_5 (n := 0) (by omega) (by omega) hc2] at z
      omega
theorem rK_V5 {e e' : E5} (h : rK5 e e') : gE5 e' = vr5 (gE5 e) (e'.2.1 506) ∧ tq5 e' = tq5 e := by
  obtain ⟨h1, h2, h3, h4⟩ := h
  constructor
  · unfold gE5 vr5
    rw [h1, h2, h3 1006 (by decide) (by decide) (by decide), h3 1007 (by decide) (by decide) (by decide), h3 1008 (by decide) (by decide) (by decide), h3 504 (by decide) (by decide) (by decide), h3 1009 (by decide) (by decide) (by decide), h3 1011 (by decide) (by decide) (by decide), h3 1013 (by decide) (by decide) (by decide)]
  · unfold tq5
    rw [h1, h2, h3 taBytes (by decide) (by decide) (by decide), h3 taKinds (by decide) (by decide) (by decide), h3 taPlaces (by decide) (by decide) (by decide), h3 taLengths (by decide) (by decide) (by decide)]
/-- the class's rows of a new statement -/
theorem aS_107 {e : E5} {s1 s0 : Int32} {st : Nat} (hs : e.1 coStatements = Int32.ofNat st) (hst : st ≤ 1000) : ∃ e', f5_Pa_addStatement_107 s1 s0 e = .inl (e', s1) ∧ rK5 e e' := by
  have k205 : ∀ (e1 : E5) (y z : Int32), rK5 e e1 → ∃ e', f5_Pa_addStatement_205 s1 y z e1 = .inl (e', s1) ∧ rK5 e e' := fun e1 y z h => by
    unfold f5_Pa_addStatement_205
    obtain ⟨e2, a1, a2⟩ := rK_sa5 (e := e1) (f := 1012) (i := y.toNatClampNeg) (x := s1) (Or.inr rfl)
    have s2 : e2.1 coStatements = Int32.ofNat st := by rw [a2.1, h.1]; exact hs
    have b1 := rK_st5 (s := s1) (x := z) (c := 9) s2 hst (by decide) (by decide)
    have s3 : (stc5 s1 (Int32.ofNat 9) z e2).1 coStatements = Int32.ofNat st := by rw [b1.1]; exact s2
    have b2 := rK_st5 (s := s1) (x := (stc5 s1 (Int32.ofNat 9) z e2).1 coFunctions) (c := 10) s3 hst (by decide) (by decide)
    refine ⟨_, ?_, rK_t5 h (rK_t5 a2 (rK_t5 b1 b2))⟩
    show rdB5 (sa5 1012 _ s1 e1) _ = _
    rw [a1, rdl_5, stc_5, rdl_5, stc_5, rdl_5]
    rfl
  have k170 : ∀ (y z w c : Int32) (c' : Nat), c = Int32.ofNat c' → 6 ≤ c' → c' ≤ 10 → ∃ e', f5_Pa_addStatement_170 s1 y z w c e = .inl (e', s1) ∧ rK5 e e' := fun y z w c c' hc h6 h10 => by
    unfold f5_Pa_addStatement_170
    rw [stc_5, rdl_5, hc]
    exact k205 _ y z (rK_st5 hs hst h6 h10)
  unfold f5_Pa_addStatement_107
  dsimp only [pb5]
  by_cases c1 : e.2.1 paLasts s0.toNatClampNeg = -1
  · rw [if_pos c1]
    by_cases c2 : e.2.1 paOwners s0.toNatClampNeg = -1
    · rw [if_pos c2]
      by_cases c3 : (10 : Int32) ≤ e.1 coFunctions
      · rw [if_pos c3]; exact k205 e _ _ rK_r5
      · rw [if_neg c3]
        obtain ⟨e2, a1, a2⟩ := rK_sa5 (e := e) (f := 503) (i := (e.1 coFunctions).toNatClampNeg) (x := s1) (Or.inl rfl)
        show ∃ e', rdB5 (sa5 503 _ s1 e) _ = _ ∧ _
        rw [a1, rdl_5]
        exact k205 e2 _ _ a2
    · rw [if_neg c2]
      by_cases c3 : e.2.1 paElses s0.toNatClampNeg = 0
      · rw [if_pos c3]; exact k170 _ _ _ 6 6 rfl (by decide) (by decide)
      · rw [if_neg c3]; exact k170 _ _ _ 7 7 rfl (by decide) (by decide)
  · rw [if_neg c1, stc_5, rdl_5]
    exact k205 _ _ _ (rK_st5 (c := 8) hs hst (by decide) (by decide))
/-- the reference's -/
theorem nS_f5 {σ : rS} {k : Int32} {s : Nat} (h0 : σ.1 11 = 0) (hs : σ.1 19 = Int32.ofNat s) (hs2 : s < 150) : ∃ (σ' : rS) (r30 r32 : Nat → Int32), g5_newStatement_51 k (Int32.ofNat s) σ = (σ', Int32.ofNat s) ∧ gS5 σ' = (σ.1 15, σ.2.2.1 20, σ.1 16, σ.2.2.1 22, σ.1 18, σ.2.2.1 25, σ.2.2.1 26, σ.2.2.1 27, σ.2.2.1 28, σ.1 41, Int32.ofNat (s + 1), r30, r32, σ.1 42, σ.2.2.1 43, σ.2.2.1 45) ∧ (∀ j, r30 j = if j = s then k else σ.2.2.1 30 j) ∧ (∀ j, r32 j = if j = s then -1 else σ.2.2.1 32 j) ∧ sx5 σ' = sx5 σ ∧ (σ'.1 2 = σ.1 2 ∧ σ'.1 10 = σ.1 10 ∧ σ'.1 11 = σ.1 11 ∧ σ'.1 46 = σ.1 46 ∧ σ'.1 47 = σ.1 47 ∧ σ'.1 13 = σ.1 13) := by
  have cs : (Int32.ofNat s).toNatClampNeg = s := cl_5 (by omega)
  have a30 : ∀ j, (riU (siU σ 19 (Int32.ofNat (s + 1))) 30 s k).2.2.1 30 j = if j = s then k else σ.2.2.1 30 j := fun j => by rw [ri34, if_pos rfl]; rfl
  have a32 : ∀ (τ : rS) j, τ.2.2.1 32 = σ.2.2.1 32 → (riU τ 32 s (-1)).2.2.1 32 j = if j = s then -1 else σ.2.2.1 32 j := fun τ j h => by rw [ri34, if_pos rfl, h]
  have ir : g5_isRight σ = 1 := if_pos h0
  unfold g5_newStatement_51 g5_newStatement_221
  dsimp only [pb5]
  rw [ir, if_neg ne105, hs, on_15 (by omega), cs]
  generalize hA : riU (riU (riU (riU (siU σ 19 (Int32.ofNat (s + 1))) 30 s k) 38 s ((riU (siU σ 19 (Int32.ofNat (s + 1))) 30 s k).1 41)) 31 s ((riU (riU (siU σ 19 (Int32.ofNat (s + 1))) 30 s k) 38 s ((riU (siU σ 19 (Int32.ofNat (s + 1))) 30 s k).1 41)).1 10)) 32 s (-1) = τ
  have t1 : gS5 τ = (σ.1 15, σ.2.2.1 20, σ.1 16, σ.2.2.1 22, σ.1 18, σ.2.2.1 25, σ.2.2.1 26, σ.2.2.1 27, σ.2.2.1 28, σ.1 41, Int32.ofNat (s + 1), τ.2.2.1 30, τ.2.2.1 32, σ.1 42, σ.2.2.1 43, σ.2.2.1 45) := by rw [← hA]; rfl
  have t2 : ∀ j, τ.2.2.1 30 j = if j = s then k else σ.2.2.1 30 j := by rw [← hA]; exact a30
  have t3 : ∀ j, τ.2.2.1 32 j = if j = s then -1 else σ.2.2.1 32 j := by rw [← hA]; exact fun j => a32 _ j rfl
  have t4 : sx5 τ = sx5 σ := by rw [← hA]; rfl
  have t5 : τ.1 2 = σ.1 2 ∧ τ.1 10 = σ.1 10 ∧ τ.1 11 = σ.1 11 ∧ τ.1 46 = σ.1 46 ∧ τ.1 47 = σ.1 47 ∧ τ.1 13 = σ.1 13 := by rw [← hA]; exact ⟨rfl, rfl, rfl, rfl, rfl, rfl⟩
  have fin : ∀ τ' : rS, gS5 τ' = gS5 τ → sx5 τ' = sx5 τ → τ'.1 = τ.1 → ∃ (σ' : rS) (r30 r32 : Nat → Int32), ((τ', Int32.ofNat s) : rS × Int32) = (σ', Int32.ofNat s) ∧ gS5 σ' = (σ.1 15, σ.2.2.1 20, σ.1 16, σ.2.2.1 22, σ.1 18, σ.2.2.1 25, σ.2.2.1 26, σ.2.2.1 27, σ.2.2.1 28, σ.1 41, Int32.ofNat (s + 1), r30, r32, σ.1 42, σ.2.2.1 43, σ.2.2.1 45) ∧ (∀ j, r30 j = if j = s then k else σ.2.2.1 30 j) ∧ (∀ j, r32 j = if j = s then -1 else σ.2.2.1 32 j) ∧ sx5 σ' = sx5 σ ∧ (σ'.1 2 = σ.1 2 ∧ σ'.1 10 = σ.1 10 ∧ σ'.1 11 = σ.1 11 ∧ σ'.1 46 = σ.1 46 ∧ σ'.1 47 = σ.1 47 ∧ σ'.1 13 = σ.1 13) := fun τ' b1 b2 b3 => ⟨τ', τ.2.2.1 30, τ.2.2.1 32, rfl, b1.trans t1, t2, t3, b2.trans t4, by rw [b3]; exact t5⟩
  repeat' split
  all_goals exact fin _ rfl rfl rfl
