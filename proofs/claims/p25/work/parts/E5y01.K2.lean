section
set_option maxHeartbeats 1600000
/-! what both sides show, and when -/
/-- what holds of both sides where all is solved -/
def VS16 (κ : zS) (a b n : Nat) (σ : rS) (V : Nat → Rat) : Prop := tbl15 κ b n σ ∧ zR κ soAtlas a = b ∧ vV15 κ a n V ∧ (∀ k, k < n → vR15 σ k (V k)) ∧ (∀ k, k < n → (σ.2.2.1 95 k ≠ 0 ↔ cnE σ k)) ∧ vE15 (pR15 σ n) n (cnE σ) V
section
variable {κ : zS} {a b n : Nat} {σ : rS} {V : Nat → Rat}
theorem vS_t16 (h : VS16 κ a b n σ V) : ∀ k, k < n → vt16 σ k = V k := fun k hk => vt_16 (h.2.2.2.1 k hk) (h.2.2.2.2.1 k hk) (fun z => h.2.2.2.2.2.1 k hk z)
theorem n7_16 (h : VS16 κ a b n σ V) : n = (σ.1 70).toNatClampNeg ∧ (n = 0 ↔ σ.1 70 = 0) := by
  have B := tb_n15 h.1
  refine ⟨h.1.1.2.1, fun z => Int32.toInt_inj.mp (by rw [B.2.2, z]; rfl), fun z => ?_⟩
  have y := B.2.2
  rw [z, t0i] at y
  omega
theorem sK_u16 (h : VS16 κ a b n σ V) {kind v : Int32} : sK16 κ a σ V kind v n = ((al16 n kind v : Int) : Rat) + uS16 σ V (si16 σ kind v) n := by
  unfold sK16
  rw [wq_16 h.1 h.2.1]
theorem sQ_u16 (h : VS16 κ a b n σ V) {how v c : Int32} : swQ σ how v c = uS16 σ V (byI σ how v c) n + alQ σ how v c + opQ σ how := by
  unfold swQ
  rw [← (n7_16 h).1, sw_16 (vS_t16 h)]
theorem op_016 {how : Int32} (ne : how ≠ 5) : opQ σ how = 0 := if_neg (fun z => ne z.1)
theorem al_n16 (h : VS16 κ a b n σ V) (n0 : ¬ n = 0) {kind v how c : Int32} : ((al16 n kind v : Int) : Rat) = 0 ∧ alQ σ how v c = 0 := by
  have i0 : ((0 : Int) : Rat) = 0 := rfl
  refine ⟨?_, if_neg (fun z => n0 ((n7_16 h).2.mpr z.1))⟩
  unfold al16
  rw [if_neg n0, i0]
theorem al_016 (h : VS16 κ a b n σ V) (n0 : n = 0) (z75 : n = 0 → σ.2.2.1 75 0 = 0) {v : Int32} : (∀ how : Int32, (how = 0 ∨ how = 1 ∨ how = 2 ∨ how = 3 ∨ how = 4 ∨ how = 6 ∨ how = 7) → ((al16 n how v : Int) : Rat) = alQ σ how v 0) ∧ ((al16 n 10 v : Int) : Rat) = alQ σ 7 0 1 ∧ ((al16 n 5 v : Int) : Rat) = 1 ∧ alQ σ 5 v 0 = 0 := by
  have e70 := (n7_16 h).2.mp n0
  have e75 := z75 n0
  have i0 : ((0 : Int) : Rat) = 0 := rfl
  have i1 : ((1 : Int) : Rat) = 1 := rfl
  unfold al16
  rw [if_pos n0, if_pos n0]
  refine ⟨fun how hh => ?_, ?_, ?_, ?_⟩
  · rw [if_pos n0]
    rcases hh with z | z | z | z | z | z | z <;> subst z
    · rw [sh_016]
      by_cases q : (0 : Int32) = v
      · rw [if_pos ⟨rfl, q⟩, i1]
        exact ((if_pos ⟨e70, Or.inl ⟨rfl, e75.trans q⟩⟩ : alQ σ 0 v 0 = _).trans (if_pos rfl)).symm
      · rw [if_neg (fun y => q y.2), i0]
        exact (if_neg (fun y => by
          rcases y.2 with w | w | w
          · exact q (e75.symm.trans w.2)
          · exact absurd w.1 (by decide)
          · exact w (by decide)) : alQ σ 0 v 0 = _).symm
    · rw [sh_116, if_neg (fun y => absurd y.1 (by decide)), i0]
      exact (if_neg (fun y => by
        rcases y.2 with w | w | w
        · exact absurd w.1 (by decide)
        · exact absurd w.1 (by decide)
        · exact w (by decide)) : alQ σ 1 v 0 = _).symm
    · rw [sh_216]
      by_cases q : (0 : Int32) = v
      · rw [if_pos ⟨rfl, q⟩, i1]
        exact ((if_pos ⟨e70, Or.inr (Or.inl ⟨rfl, q.symm⟩)⟩ : alQ σ 2 v 0 = _).trans (if_pos rfl)).symm
      · rw [if_neg (fun y => q y.2), i0]
        exact (if_neg (fun y => by
          rcases y.2 with w | w | w
          · exact absurd w.1 (by decide)
          · exact q w.2.symm
          · exact w (by decide)) : alQ σ 2 v 0 = _).symm
    · rw [sh_316, if_neg (fun y => absurd y.1 (by decide)), i0]
      exact (if_neg (fun y => by
        rcases y.2 with w | w | w
        · exact absurd w.1 (by decide)
        · exact absurd w.1 (by decide)
        · exact w (by decide)) : alQ σ 3 v 0 = _).symm
    · rw [sh_416, if_neg (by decide), i0]
      exact (if_neg (fun y => by
        rcases y.2 with w | w | w
        · exact absurd w.1 (by decide)
        · exact absurd w.1 (by decide)
        · exact w (by decide)) : alQ σ 4 v 0 = _).symm
    · rw [sh_616, if_pos (Or.inl rfl), i1]
      exact ((if_pos ⟨e70, Or.inr (Or.inr (by decide))⟩ : alQ σ 6 v 0 = _).trans (if_pos rfl)).symm
    · rw [sh_716, if_pos rfl, i1]
      exact ((if_pos ⟨e70, Or.inr (Or.inr (by decide))⟩ : alQ σ 7 v 0 = _).trans (if_pos rfl)).symm
  · rw [sh_e16 (Or.inr (by decide)), if_pos rfl, t0i, i0]
    exact ((if_pos ⟨e70, Or.inr (Or.inr (by decide))⟩ : alQ σ 7 0 1 = _).trans (if_neg (by decide))).symm
  · rw [sh_516, if_neg (by decide), i1]
  · exact if_neg (fun y => by
      rcases y.2 with w | w | w
      · exact absurd w.1 (by decide)
      · exact absurd w.1 (by decide)
      · exact w (by decide))
theorem sQ_16 (h : VS16 κ a b n σ V) (z75 : n = 0 → σ.2.2.1 75 0 = 0) {how v : Int32} (hh : how = 0 ∨ how = 1 ∨ how = 2 ∨ how = 3 ∨ how = 4 ∨ how = 6 ∨ how = 7) : sK16 κ a σ V how v n = swQ σ how v 0 := by
  have s := si_b16 (σ := σ) (v := v)
  have e : si16 σ how v = byI σ how v 0 := by
    rcases hh with z | z | z | z | z | z | z <;> subst z
    · exact s.1
    · exact s.2.1
    · exact s.2.2.1
    · exact s.2.2.2.1
    · exact s.2.2.2.2.1
    · exact s.2.2.2.2.2.1
    · exact s.2.2.2.2.2.2
  have n5 : how ≠ 5 := fun z => by rw [z] at hh; revert hh; decide
  rw [sK_u16 h, sQ_u16 h, e, op_016 n5]
  by_cases n0 : n = 0
  · rw [(al_016 h n0 z75).1 how hh]
    grind
  · rw [(al_n16 h n0 (how := how) (c := 0)).1, (al_n16 h n0 (kind := how)).2]
    grind
theorem sQ_t16 (h : VS16 κ a b n σ V) (z75 : n = 0 → σ.2.2.1 75 0 = 0) {v : Int32} : sK16 κ a σ V 10 v n = swQ σ 7 0 1 := by
  rw [sK_u16 h, sQ_u16 h, si_t16, op_016 (by decide)]
  by_cases n0 : n = 0
  · rw [(al_016 h n0 z75).2.1]
    grind
  · rw [(al_n16 h n0 (how := 7) (c := 1)).1, (al_n16 h n0 (kind := 7) (v := 0)).2]
    grind
theorem sQ_516 (h : VS16 κ a b n σ V) (z75 : n = 0 → σ.2.2.1 75 0 = 0) {v : Int32} : 1 - sK16 κ a σ V 5 v n = swQ σ 5 v 0 := by
  rw [sK_u16 h, sQ_u16 h]
  by_cases n0 : n = 0
  · have l := (al_016 h n0 z75 (v := v)).2.2
    have o : opQ σ 5 = 0 := if_neg (fun y => y.2.1 (by rw [(n7_16 h).2.mp n0]; decide))
    have u1 : uS16 σ V (si16 σ 5 v) n = 0 := by rw [n0]; rfl
    have u2 : uS16 σ V (byI σ 5 v 0) n = 0 := by rw [n0]; rfl
    rw [l.1, l.2, o, u1, u2]
    grind
  · have l := al_n16 h n0 (kind := 5) (v := v) (how := 5) (c := 0)
    have q := lost_16 (v := v) h.1 (by omega) h.2.2.2.2.1 h.2.2.2.2.2
    have e : opQ σ 5 = if σ.2.2.1 95 0 = 0 then 1 else 0 := by
      have p : ¬ σ.1 70 ≤ 0 := fun y => by
        have B := (tb_n15 h.1).2.2
        rw [lei, t0i] at y
        omega
      by_cases c : σ.2.2.1 95 0 = 0
      · rw [if_pos c]; exact if_pos ⟨rfl, p, c⟩
      · rw [if_neg c]; exact if_neg (fun y => c y.2.2)
    rw [l.1, l.2, e]
    grind
theorem sK_v16 {v : Int32} : sK16 κ a σ V 6 v n = sK16 κ a σ V 6 0 n ∧ sK16 κ a σ V 7 v n = sK16 κ a σ V 7 0 n := by
  unfold sK16 al16 wK16
  constructor
  · rw [sh_616, sh_616]
    congr 1
  · rw [sh_716, sh_716]
    congr 1
/-- the fraction of weights -/
theorem sT_16 (h : VS16 κ a b n σ V) (z75 : n = 0 → σ.2.2.1 75 0 = 0) {kind v : Int32} (h0 : 0 ≤ kind.toInt) (hk : kind < 7 ∨ kind = 10) : tK16 κ a σ V kind v n * (dK16 κ a σ V kind v n)⁻¹ = shR16 σ kind v := by
  have l7 : (7 : Int32).toInt = 7 := rfl
  have ks : kind = 0 ∨ kind = 1 ∨ kind = 2 ∨ kind = 3 ∨ kind = 4 ∨ kind = 5 ∨ kind = 6 ∨ kind = 10 := by
    rcases hk with c | c
    · rw [lti, l7] at c
      have e : ∀ k : Int32, kind.toInt = k.toInt → kind = k := fun k => ik_16
      have : kind.toInt = 0 ∨ kind.toInt = 1 ∨ kind.toInt = 2 ∨ kind.toInt = 3 ∨ kind.toInt = 4 ∨ kind.toInt = 5 ∨ kind.toInt = 6 := by omega
      rcases this with z | z | z | z | z | z | z
      · exact Or.inl (e 0 z)
      · exact Or.inr (Or.inl (e 1 z))
      · exact Or.inr (Or.inr (Or.inl (e 2 z)))
      · exact Or.inr (Or.inr (Or.inr (Or.inl (e 3 z))))
      · exact Or.inr (Or.inr (Or.inr (Or.inr (Or.inl (e 4 z)))))
      · exact Or.inr (Or.inr (Or.inr (Or.inr (Or.inr (Or.inl (e 5 z))))))
      · exact Or.inr (Or.inr (Or.inr (Or.inr (Or.inr (Or.inr (Or.inl (e 6 z)))))))
    · exact Or.inr (Or.inr (Or.inr (Or.inr (Or.inr (Or.inr (Or.inr c))))))
  have d6 : sK16 κ a σ V 6 v n = swQ σ 6 0 0 := (sK_v16 (v := v)).1.trans (sQ_16 h z75 (by decide))
  have d7 : sK16 κ a σ V 7 v n = swQ σ 7 0 0 := (sK_v16 (v := v)).2.trans (sQ_16 h z75 (by decide))
  unfold tK16 dK16
  rcases ks with z | z | z | z | z | z | z | z <;> subst z
  · rw [if_neg (by decide), if_neg (by decide), show aK16 0 = 6 from rfl, d6, sQ_16 h z75 (by decide), sR_o16 (by decide)]
  · rw [if_neg (by decide), if_neg (by decide), show aK16 1 = 6 from rfl, d6, sQ_16 h z75 (by decide), sR_o16 (by decide)]
  · rw [if_neg (by decide), if_pos (by decide), iv_116, Rat.mul_one, sQ_16 h z75 (by decide), sR_w16 (by decide) (by decide)]
  · rw [if_neg (by decide), if_pos (by decide), iv_116, Rat.mul_one, sQ_16 h z75 (by decide), sR_w16 (by decide) (by decide)]
  · rw [if_neg (by decide), if_pos (by decide), iv_116, Rat.mul_one, sQ_16 h z75 (by decide), sR_w16 (by decide) (by decide)]
  · rw [if_pos rfl, if_pos (by decide), iv_116, Rat.mul_one, sQ_516 h z75, sR_w16 (by decide) (by decide)]
  · rw [if_neg (by decide), if_pos (by decide), iv_116, Rat.mul_one, sQ_16 h z75 (by decide), sR_w16 (by decide) (by decide)]
  · rw [if_neg (by decide), if_neg (by decide), show aK16 10 = 7 from rfl, d7, sQ_t16 h z75, sR_1016]
/-- sums of visits -/
theorem sV_16v (h : VS16 κ a b n σ V) {g : Nat → Int32} (hg : ∀ k, k < n → g k = σ.2.2.1 82 k) {v : Int32} : vs16 V g 7 n = shR16 σ 7 v ∧ vs16 V g 9 n = shR16 σ 9 v := by
  rw [sR_716, sR_916, ← (n7_16 h).1]
  constructor
  · refine smQ_c (fun k hk => ?_)
    rw [vS_t16 h k hk]
    unfold gv16 gr16
    rw [if_neg (by decide), if_neg (by decide), hg k hk]
  · refine smQ_c (fun k hk => ?_)
    rw [vS_t16 h k hk]
    unfold gv16 gr16
    rw [if_pos rfl, if_pos rfl]
/-- nothing below 0; when something weighs -/
theorem sP_16 (h : VS16 κ a b n σ V) (z75 : n = 0 → σ.2.2.1 75 0 = 0) : (0 ≤ swQ σ 6 0 0 ∧ 0 ≤ swQ σ 7 0 0) ∧ ((n = 0 ∨ ∃ k, k < n ∧ uV16 σ V 6 0 k ≠ 0) ↔ swQ σ 6 0 0 ≠ 0) ∧ ((n = 0 ∨ ∃ k, k < n ∧ uV16 σ V 7 0 k ≠ 0) ↔ swQ σ 7 0 0 ≠ 0) := by
  rw [← sQ_16 h z75 (how := 6) (v := 0) (by decide), ← sQ_16 h z75 (how := 7) (v := 0) (by decide)]
  have key : ∀ kind : Int32, kind = 6 ∨ kind = 7 → (0 ≤ sK16 κ a σ V kind 0 n) ∧ ((n = 0 ∨ ∃ k, k < n ∧ uV16 σ V kind 0 k ≠ 0) ↔ sK16 κ a σ V kind 0 n ≠ 0) := fun kind hk => by
    by_cases c : n = 0 ∨ ∃ k, k < n ∧ uV16 σ V kind 0 k ≠ 0
    · have p := sK_p16 (v := 0) h.1 h.2.2.1 hk c
      exact ⟨Rat.le_of_lt p, fun _ => by grind, fun _ => c⟩
    · have n0 : ¬ n = 0 := fun z => c (Or.inl z)
      have z : sK16 κ a σ V kind 0 n = 0 := by
        unfold sK16
        rw [(al_n16 h n0 (how := 0) (c := 0)).1, Rat.zero_add]
        refine smQ_0 (fun k hk => ?_)
        have u : uV16 σ V kind 0 k = 0 := Decidable.byContradiction (fun y => c (Or.inr ⟨k, hk, y⟩))
        have i0 : ((0 : Int) : Rat) = 0 := rfl
        rw [u, i0, Rat.mul_zero]
      rw [z]
      exact ⟨Rat.le_refl, fun y => absurd y c, fun y => absurd rfl y⟩
  exact ⟨⟨(key 6 (Or.inl rfl)).1, (key 7 (Or.inr rfl)).1⟩, (key 6 (Or.inl rfl)).2, (key 7 (Or.inr rfl)).2⟩
end

end
section
set_option maxHeartbeats 1600000
/-! both sides show alike, and throw alike -/
section
variable {κ : zS} {a b n : Nat} {σ : rS} {V U : Nat → Rat}
theorem k2_16 {x : Int32} : (x < 2 ↔ ¬ 1 < x) ∧ (x < 11 ∧ 0 ≤ x → 0 ≤ x.toInt ∧ x.toInt < 11) := by
  have l1 : (1 : Int32).toInt = 1 := rfl
  have l2 : (2 : Int32).toInt = 2 := rfl
  have l11 : (11 : Int32).toInt = 11 := rfl
  rw [lti, lti, lti, lei, l1, l2, l11, t0i]
  omega
theorem r11_16 {x : Int32} (h : x ≤ 12) (n12 : ¬ x = 12) (n11 : ¬ x = 11) : x < 11 := by grind
theorem sB_e16 {kind9 : Int32} (w : 0 ≤ kind9 ∧ kind9 ≤ (12 : Int32)) (hm : zI κ chPlayMade a ≠ 0 ↔ σ.1 106 ≠ -1) (hp : zI κ soPlanned (zR κ chSolver a) ≠ 0 ↔ σ.1 114 ≠ 0) (hs : zI κ soSolved (zR κ chSolver a) ≠ 0 ↔ σ.1 94 ≠ 0) (hv : zI κ soSolved (zR κ chSolver a) ≠ 0 → VS16 κ (zR κ chSolver a) b n σ V ∧ (n = 0 → σ.2.2.1 75 0 = 0)) : sB16 κ a σ V n kind9 ↔ shC σ kind9 ∧ (kind9 < 2 → swQ σ 6 0 0 ≠ 0) ∧ (kind9 = 10 → swQ σ 7 0 0 ≠ 0) := by
  constructor
  · intro B
    rcases B with ⟨e, m⟩ | ⟨e, p⟩ | ⟨n12, n11, s, c6, c7⟩
    · subst e
      exact ⟨⟨fun _ => hm.mp m, fun z => absurd z (by decide), fun z => absurd z (by decide), by decide⟩, fun z => absurd z (by decide), fun z => absurd z (by decide)⟩
    · subst e
      exact ⟨⟨fun z => absurd z (by decide), fun _ => hp.mp p, fun z => absurd z (by decide), by decide⟩, fun z => absurd z (by decide), fun z => absurd z (by decide)⟩
    · have P := sP_16 (hv s).1 (hv s).2
      exact ⟨⟨fun z => absurd z n12, fun z => absurd z n11, fun _ => hs.mp s, w.2⟩, fun z => P.2.1.mp (c6 (k2_16.1.mp z)), fun z => P.2.2.mp (c7 z)⟩
  · rintro ⟨⟨c1, c2, c3, _⟩, c4, c5⟩
    by_cases e12 : kind9 = 12
    · exact Or.inl ⟨e12, hm.mpr (c1 e12)⟩
    · by_cases e11 : kind9 = 11
      · exact Or.inr (Or.inl ⟨e11, hp.mpr (c2 e11)⟩)
      · have s := hs.mpr (c3 (r11_16 w.2 e12 e11))
        have P := sP_16 (hv s).1 (hv s).2
        exact Or.inr (Or.inr ⟨e12, e11, s, fun z => P.2.1.mpr (c4 (k2_16.1.mpr z)), fun z => P.2.2.mpr (c5 z)⟩)
theorem cc_q16 {kind v : Int32} (hm : zI κ chPlayMade a ≠ 0 ↔ σ.1 106 ≠ -1) (hp : zI κ soPlanned (zR κ chSolver a) ≠ 0 ↔ σ.1 114 ≠ 0) (hs : zI κ soSolved (zR κ chSolver a) ≠ 0 ↔ σ.1 94 ≠ 0) (hv : zI κ soSolved (zR κ chSolver a) ≠ 0 → VS16 κ (zR κ chSolver a) b n σ V ∧ (n = 0 → σ.2.2.1 75 0 = 0)) (ht : sB16 κ a σ V n kind → ¬ kind = 12 → zI κ hoTotal (zR κ atStates (zR κ chAtlas a)) = σ.1 70 ∧ zI κ hoTotal (zR κ atEndings (zR κ chAtlas a)) = σ.1 71) : (¬ (0 ≤ kind.toInt ∧ kind.toInt ≤ 12) → cc16 σ kind v = 1) ∧ ((0 ≤ kind.toInt ∧ kind.toInt ≤ 12) ∧ ¬ sB16 κ a σ V n kind → cc16 σ kind v = 2) ∧ ((0 ≤ kind.toInt ∧ kind.toInt ≤ 12) ∧ sB16 κ a σ V n kind ∧ ¬ sD16 κ a kind v → cc16 σ kind v = 3) ∧ ((0 ≤ kind.toInt ∧ kind.toInt ≤ 12) ∧ sB16 κ a σ V n kind ∧ sD16 κ a kind v → cc16 σ kind v = 0) := by
  have l12 : (12 : Int32).toInt = 12 := rfl
  have A : (0 ≤ kind ∧ kind ≤ 12) ↔ (0 ≤ kind.toInt ∧ kind.toInt ≤ 12) := by rw [lei, lei, t0i, l12]
  have D : sB16 κ a σ V n kind → (sD16 κ a kind v ↔ (kind = 2 → 0 ≤ v ∧ v < σ.1 71) ∧ (kind = 8 ∨ kind = 11 → 0 ≤ v ∧ v < σ.1 70)) := fun B => by
    unfold sD16
    by_cases e12 : kind = 12
    · subst e12
      exact ⟨fun _ => ⟨fun z => absurd z (by decide), fun z => by rcases z with z | z <;> exact absurd z (by decide)⟩, fun _ => ⟨fun z => absurd z (by decide), fun z => by rcases z with z | z <;> exact absurd z (by decide)⟩⟩
    · obtain ⟨t1, t2⟩ := ht B e12
      rw [t1, t2, lei, lti, lti, t0i]
  refine ⟨fun h => ?_, fun h => ?_, fun h => ?_, fun h => ?_⟩
  · have e := ca_116 (σ := σ) (fun z => h (A.mp z))
    have ne : ¬ ca16 σ kind = 0 := by rw [e]; decide
    have e2 := cb_a16 ne
    rw [cc_b16 (by rw [e2]; exact ne), e2, e]
  · have w := A.mpr h.1
    have E := sB_e16 w hm hp hs hv
    have n2 : cb16 σ kind = 2 := by
      by_cases c : shC σ kind
      · exact cb_216 (ca_016 w c) (fun z => h.2 (E.mpr ⟨c, z⟩))
      · have e := ca_216 w c
        rw [cb_a16 (by rw [e]; decide), e]
    rw [cc_b16 (by rw [n2]; decide), n2]
  · have w := A.mpr h.1
    obtain ⟨c, c2⟩ := (sB_e16 w hm hp hs hv).mp h.2.1
    exact cc_316 (cb_016 (ca_016 w c) c2) (fun z => h.2.2 ((D h.2.1).mpr z))
  · have w := A.mpr h.1
    obtain ⟨c, c2⟩ := (sB_e16 w hm hp hs hv).mp h.2.1
    exact cc_016 (cb_016 (ca_016 w c) c2) ((D h.2.1).mp h.2.2)
theorem sq_e16 {kind v : Int32} (A : 0 ≤ kind.toInt ∧ kind.toInt ≤ 12) (B : sB16 κ a σ V n kind) (D : sD16 κ a kind v) (hv : zI κ soSolved (zR κ chSolver a) ≠ 0 → VS16 κ (zR κ chSolver a) b n σ V ∧ (n = 0 → σ.2.2.1 75 0 = 0) ∧ (∀ k, k < n → gg16 κ (zR κ chSolver a) k = σ.2.2.1 82 k) ∧ (zI κ hoTotal (zR κ atStates (zR κ chAtlas a))).toInt = (n : Int)) (hu : zI κ soPlanned (zR κ chSolver a) ≠ 0 → ∀ k : Nat, (k : Int) < (zI κ hoTotal (zR κ atStates (zR κ chAtlas a))).toInt → U k = wr16 σ k) (hd : zI κ chPlayMade a ≠ 0 → pd16 (dW16 κ a) (dT16 κ a) (dC16 κ a).toNat = fQ σ 17 18) : sq16 κ a σ V U n kind v = shR16 σ kind v := by
  have l7 : (7 : Int32).toInt = 7 := rfl
  have l9 : (9 : Int32).toInt = 9 := rfl
  unfold sq16
  by_cases e12 : kind = 12
  · rw [if_pos e12, hd (sB_m16 e12 B), e12, sR_1216]
  · rw [if_neg e12]
    by_cases e11 : kind = 11
    · have y := D.2 (Or.inr e11)
      have k := cnk y.1
      have p : zI κ soPlanned (zR κ chSolver a) ≠ 0 := by
        rcases B with ⟨z, _⟩ | ⟨_, p⟩ | ⟨_, z, _⟩
        · exact absurd z e12
        · exact p
        · exact absurd e11 z
      rw [if_pos e11, hu p v.toNatClampNeg (by omega), e11, sR_1116]
    · rw [if_neg e11]
      have s : zI κ soSolved (zR κ chSolver a) ≠ 0 := by
        rcases B with ⟨z, _⟩ | ⟨z, _⟩ | ⟨_, _, s, _⟩
        · exact absurd z e12
        · exact absurd z e11
        · exact s
      obtain ⟨h, z75, hg, hn⟩ := hv s
      by_cases c : kind < 7 ∨ 9 < kind
      · rw [if_pos c]
        refine sT_16 h z75 A.1 (c.imp id (fun z => ?_))
        rw [lti, l9] at z
        have n11 : kind.toInt ≠ 11 := fun y => e11 (ik_16 (k := 11) y)
        have n12 : kind.toInt ≠ 12 := fun y => e12 (ik_16 (k := 12) y)
        exact ik_16 (k := 10) (show kind.toInt = 10 by omega)
      · rw [if_neg c]
        have g : kind.toInt = 7 ∨ kind.toInt = 8 ∨ kind.toInt = 9 := by
          rw [lti, lti, l7, l9] at c
          omega
        rcases g with g | g | g
        · have e := ik_16 (k := 7) g
          subst e
          rw [if_neg (by decide)]
          exact (sV_16v h hg).1
        · have e := ik_16 (k := 8) g
          subst e
          have y := D.2 (Or.inl rfl)
          have k := cnk y.1
          rw [if_pos rfl, sR_816, fV_16 (h.2.2.2.1 v.toNatClampNeg (by omega))]
        · have e := ik_16 (k := 9) g
          subst e
          rw [if_neg (by decide)]
          exact (sV_16v h hg).2
end

end
section
set_option maxHeartbeats 1600000
/-! show: visits and worths stay -/
theorem Ch_show_q16 {C : zC} {n0 : Nat} {a0 : Nat} {a1 : Int32} {a2 : Int32} {κ : zS} {Q : Int32 → zS → Prop} {X : zXp} (W : zW C n0 κ) (Ta0 : zT κ a0 = 15) (ρ : Nat → Nat) (L9 : Int) (n9 P9 : Nat) (σ9 : rS) (V9 U9 : Nat → Rat) (hS9 : zI κ soSolved (zR κ chSolver a0) ≠ 0 → tbl15 κ (zR κ chAtlas a0) n9 σ9 ∧ lst16 κ (zR κ chAtlas a0) σ9 ∧ vV15 κ (zR κ chSolver a0) n9 V9 ∧ lz16 κ (zR κ chAtlas a0) n9) (hU9 : zI κ soPlanned (zR κ chSolver a0) ≠ 0 → ∀ k : Nat, (k : Int) < (zI κ hoTotal (zR κ atStates (zR κ chAtlas a0))).toInt → rqW8 κ (wU9 κ (zR κ chSolver a0) k) (U9 k)) (hD9 : zI κ chPlayMade a0 ≠ 0 → dO16 κ a0) (hp : chI9 ρ κ a0 L9 ∧ (zI κ soSolved (zR κ chSolver a0) ≠ 0 → odX9 ρ κ (zR κ chOdds a0) n9 P9 ∧ (0 < P9 ∧ P9 < pB9 1490) ∧ atW κ (zR κ chAtlas a0) n9 ∧ vsI9 ρ κ (zR κ chSolver a0) n9 P9 ∧ n9 ≤ (zN κ (zR κ soVisits (zR κ chSolver a0))))) (h : ∀ (v : Int32) (κ' : zS), ((chI9 ρ κ' a0 L9 ∧ (∃ F, zF F κ κ') ∧ zI κ' chTolds a0 = zI κ chTolds a0) ∧ ((v.toInt = (sq16 κ a0 σ9 V9 U9 n9 a1 a2).num.sign ∧ rqW8 κ' (zR κ chShown a0) (sq16 κ a0 σ9 V9 U9 n9 a1 a2)) ∧ (0 ≤ a1.toInt ∧ a1.toInt ≤ 12) ∧ sB16 κ a0 σ9 V9 n9 a1 ∧ sD16 κ a0 a1 a2 ∧ ∃ ca, zF (soF ρ shR9 ca) κ κ')) → Q v κ') (hx : ∀ (cls : String) (κ' : zS), (((cls = "java/lang/IllegalArgumentException" ∨ cls = "java/lang/IllegalStateException" ∨ cls = "java/lang/IndexOutOfBoundsException") ∧ κ' = ut κ) ∧ ((cls = "java/lang/IllegalArgumentException" ∧ ¬ (0 ≤ a1.toInt ∧ a1.toInt ≤ 12)) ∨ (cls = "java/lang/IllegalStateException" ∧ (0 ≤ a1.toInt ∧ a1.toInt ≤ 12) ∧ ¬ sB16 κ a0 σ9 V9 n9 a1) ∨ (cls = "java/lang/IndexOutOfBoundsException" ∧ (0 ≤ a1.toInt ∧ a1.toInt ≤ 12) ∧ sB16 κ a0 σ9 V9 n9 a1 ∧ ¬ sD16 κ a0 a1 a2))) → X cls κ') : zRun C 8 mCh_show [.ref a0, .int a1, .int a2] κ (oI Q X) := by
  refine Ch_show_run W Ta0 ?_
  replace W := W.lo (Nat.le_trans W.1.2.1 W.1.2.2) (Nat.le_refl (zn κ))
  unfold w_Ch_show_0
  obtain ⟨I, hX⟩ := hp
  have tS := ty_chSolver W Ta0
  have NS := I.2.2.1.1.1
  have h30 := I.2.2.1.2.2.2
  have J := ch_n9 I
  have D1 := I.2.2.2.2.1.1
  have hj156 : ∀ (l0 : Nat) (l1 : Int32) (l2 : Int32) (τ : zS), zW C (zn κ) τ → zT τ l0 = 15 → ((κ = τ ∧ a0 = l0 ∧ a1 = l1 ∧ a2 = l2 ∧ zI κ soSolved (zR κ chSolver a0) ≠ 0) ∧ (¬ a1 = 12 ∧ ¬ a1 = 11 ∧ (a1 < 7 ∨ 9 < a1)) ∧ (0 ≤ a1.toInt ∧ a1.toInt ≤ 12) ∧ sB16 κ a0 σ9 V9 n9 a1 ∧ sD16 κ a0 a1 a2) → w_Ch_show_156 C (zn κ) Q X  l0 l1 l2 τ := by
    rintro _ _ _ _ W156 T156_0 ⟨⟨rfl, rfl, rfl, rfl, j156⟩, hE⟩
    unfold w_Ch_show_156
    intro T1
    intro T2
    refine Od_showWeight_q6 W156 T1 T2 ρ n9 P9 σ9 V9 (by rw [D1.1]; exact (hS9 j156).1) (by rw [D1.1]; exact (hS9 j156).2.1) (by rw [D1.2.1]; exact (hS9 j156).2.2.1) (by rw [D1.1]; exact (hS9 j156).2.2.2) hE.2.1.1 (by rw [D1.2.1]; exact dK_p16 (hS9 j156).1 (hS9 j156).2.2.1 hE.2.1.1 (sB_t16 hE.1.1 hE.1.2.1 hE.2.2.1).1 (sB_t16 hE.1.1 hE.1.2.1 hE.2.2.1).2) ?_ (fun κ_3 q4 => ?_)
    · have X := hX j156
      rw [D1.2.1]
      exact ⟨NS, X.1, X.2.1, h30⟩
    obtain ⟨q4, z9⟩ := q4
    intro W5
    intro M6
    refine h _ _ ?_
    · refine and_5 ?_ (fun o9 => ?_)  -- q2
      · rw [D1.2.1] at q4
        exact chI_n9 W Ta0 q4.1.1 (fun r z => z) ⟨q4.1.2.1, q4.1.2.2⟩ q4.2 I
      · rw [D1.2.1] at z9
        have e : sq16 κ a0 σ9 V9 U9 n9 a1 a2 = tK16 κ (zR κ chSolver a0) σ9 V9 a1 a2 n9 * (dK16 κ (zR κ chSolver a0) σ9 V9 a1 a2 n9)⁻¹ := by
          unfold sq16
          rw [if_neg hE.1.1, if_neg hE.1.2.1, if_pos hE.1.2.2]
        rw [e]
        refine ⟨⟨?_, z9⟩, hE.2.1, hE.2.2.1, hE.2.2.2, _, q4.1.1⟩
        rw [(soF_r9 q4.1.1 (f := chShown) (by decide)).1]
        exact z9.1
  have hj90 : ∀ (l0 : Nat) (l1 : Int32) (l2 : Int32) (τ : zS), zW C (zn κ) τ → zT τ l0 = 15 → ((κ = τ ∧ a0 = l0 ∧ a1 = l1 ∧ a2 = l2 ∧ ((¬ a1 = 12 → ¬ a1 = 11 → zI κ soSolved (zR κ chSolver a0) ≠ 0) ∧ (a1 = 11 → zI κ soPlanned (zR κ chSolver a0) ≠ 0)) ∧ (a1 = 8 ∨ a1 = 11 → zI κ atExplored (zR κ chAtlas a0) ≠ 0 ∧ 0 ≤ a2.toInt ∧ a2.toInt < (zI κ hoTotal (zR κ atStates (zR κ chAtlas a0))).toInt)) ∧ (0 ≤ a1.toInt ∧ a1.toInt ≤ 12) ∧ sB16 κ a0 σ9 V9 n9 a1 ∧ sD16 κ a0 a1 a2) → w_Ch_show_90 C (zn κ) Q X  l0 l1 l2 τ := by
    rintro _ _ _ _ W90 T90_0 ⟨⟨rfl, rfl, rfl, rfl, j90⟩, hE⟩
    unfold w_Ch_show_90
    refine ⟨fun c7 => ?_, fun c7 => ?_⟩
    · skip
      refine ⟨fun c8 => ?_, fun c8 => ?_⟩
      · skip
        refine ⟨fun c9 => ?_, fun c9 => ?_⟩
        · skip
          refine hj156 _ _ _ _ W90 ?_ ?_
          · exact Ta0  -- t3
          · refine and_5 ?_ (fun o9 => ⟨⟨c7, c8, Or.inl c9⟩, hE⟩)  -- k4
            exact ⟨rfl, rfl, rfl, rfl, j90.1.1 c7 c8⟩
        · skip
          refine ⟨fun c10 => ?_, fun c10 => ?_⟩
          · skip
            refine hj156 _ _ _ _ W90 ?_ ?_
            · exact Ta0  -- t5
            · refine and_5 ?_ (fun o9 => ⟨⟨c7, c8, Or.inr c10⟩, hE⟩)  -- k6
              exact ⟨rfl, rfl, rfl, rfl, j90.1.1 c7 c8⟩
          · skip
            intro T11
            intro T12
            refine So_showVisits_q6 W90 T11 T12 ρ n9 P9 V9 (hS9 (j90.1.1 c7 c8)).2.2.1 ?_ (fun κ_13 q14 => ?_)
            · have X := hX (j90.1.1 c7 c8)
              refine ⟨NS, ⟨by rw [I.2.2.1.2.2.1.1]; exact X.2.2.1, X.2.2.2.2⟩, X.2.2.2.1, X.2.1, h30, fun z => ?_⟩
              have y := j90.2 (Or.inl z)
              have t := X.2.2.1.2.2.2.1
              exact ⟨y.2.1, by omega⟩
            obtain ⟨q14, z9⟩ := q14
            intro W15
            intro M16
            refine h _ _ ?_
            · refine and_5 ?_ (fun o9 => ?_)  -- q8
              · refine chI_n9 W Ta0 q14.1.1 (fun r z => z) ⟨q14.1.2.1, q14.1.2.2⟩ ?_ I
                rcases q14.2 with y | y
                · exact y
                · rw [y]; exact I.2.2.1.1.2.2.2.2.2.2
              · have e : sq16 κ a0 σ9 V9 U9 n9 a1 a2 = if a1 = 8 then V9 a2.toNatClampNeg else vs16 V9 (gg16 κ (zR κ chSolver a0)) a1 n9 := by
                  unfold sq16
                  rw [if_neg c7, if_neg c8, if_neg (fun z => z.elim c9 c10)]
                rw [e]
                refine ⟨⟨?_, z9⟩, hE.1, hE.2.1, hE.2.2, _, q14.1.1⟩
                rw [(soF_r9 q14.1.1 (f := chShown) (by decide)).1]
                exact z9.1
      · skip
        have H11 : zI κ soPlanned (zR κ chSolver a0) ≠ 0 → (zI κ atExplored (zR κ chAtlas a0) ≠ 0 ∧ 0 ≤ a2.toInt ∧ a2.toInt < (zI κ hoTotal (zR κ atStates (zR κ chAtlas a0))).toInt) → (a2.toInt < (zN κ (zR κ soWorths (zR κ chSolver a0))) ∧ a2.toNatClampNeg < 1000) ∧ ∃ u, zQ κ (zR κ soWorths (zR κ chSolver a0)) a2.toNatClampNeg = some u := fun y1 y2 => by
          obtain ⟨x1, x3⟩ := I.2.2.2.1.2 y1
          obtain ⟨⟨n, hn⟩, _⟩ := ch_x9 I x1
          have t := hn.2.2.2.1
          have t3 := hn.2.2.1
          have k := cnk y2.2.1
          have z := x3 n hn
          exact ⟨⟨by omega, by omega⟩, z.2 _ (by omega)⟩
        refine ⟨?_, ?_⟩
        · have y2 := j90.2 (Or.inr c8)
          have H := H11 (j90.1.2 c8) y2
          rw [inb_iff]
          exact ⟨y2.2.1, H.1.1⟩
        refine ex_some ?_ (fun u17 hu17 => ?_)
        · exact (H11 (j90.1.2 c8) (j90.2 (Or.inr c8))).2  -- e10
        intro T18
        intro T19
        have hw := I.2.2.1.1.2.2.2.2.1.1 _ u17 (H11 (j90.1.2 c8) (j90.2 (Or.inr c8))).1.2 hu17
        have hr : raR (104 + 8 * a2.toNatClampNeg) := Or.inr (Or.inr ⟨by omega, by have := (H11 (j90.1.2 c8) (j90.2 (Or.inr c8))).1.2; omega, by omega⟩)
        have q := NS.1.2 u17 (by rw [hw]; exact hr)
        rw [hw] at q
        have q30 := ra_t9 NS.1 h30 (Or.inr rfl)
        have g1 := nm_g NS.1 q.2.1 (raR_n hr).1 (by omega)
        have g2 := nm_g NS.1 q.2.2 (raR_n hr).2 (by omega)
        have c1 : capR (104 + 8 * a2.toNatClampNeg + 1) = 20 := by
          have := (H11 (j90.1.2 c8) (j90.2 (Or.inr c8))).1.2
          unfold capR
          rw [if_neg (by omega), if_pos (by omega)]
        have c2 : capR (104 + 8 * a2.toNatClampNeg + 2) = 20 := by
          have := (H11 (j90.1.2 c8) (j90.2 (Or.inr c8))).1.2
          unfold capR
          rw [if_neg (by omega), if_pos (by omega)]
        rw [c1] at g1
        rw [c2] at g2
        have k1 := nuK_c9 g1.1
        have k2 := nuK_c9 g2.1
        refine Ra_copy_c W90 T18 T19 6500 ?_ (fun κ_20 q21 => ?_)
        · refine ⟨q30.2.1, ⟨g1.2.1, g2.2.1, ro_n q.2.1 q.2.2 (by omega)⟩, ⟨ro_n q30.1.1 q.2.1 (by omega), ro_n q30.1.1 q.2.2 (by omega), ro_n q30.1.2 q.2.1 (by omega), ro_n q30.1.2 q.2.2 (by omega)⟩, ⟨by omega, by omega⟩, by decide⟩  -- p11
        intro W22
        intro M23
        refine h _ _ ?_
        · refine and_5 ?_ (fun o9 => ?_)  -- q12
          · have rt := raF_r q21.1 (f := raTop) (x := zR κ chShown a0) (by decide) (by decide) (by decide)
            have rb := raF_r q21.1 (f := raBottom) (x := zR κ chShown a0) (by decide) (by decide) (by decide)
            have y := q21.2.1
            unfold raJ at y
            rw [rt, rb] at y
            have M := nm_ra W tS NS.1 NS.2 h30 (Or.inr (Or.inl rfl)) q21.1 y.1 y.2.1
            have tl := ty_soLess W tS
            have l8 : ρ (zR κ soLess (zR κ chSolver a0)) = 8 := NS.2.1.2.2.2.2.2.1
            have nl := (soF_B (c := 0) W tl (M.2 0) (by rw [l8]; decide)).2.1
            exact chI_n9 W Ta0 (M.2 0) (fun r z => by rcases z with z | z | z <;> omega) M.1 (by rw [nl]; exact I.2.2.1.1.2.2.2.2.2.2) I
          · have FF : ∃ ca, zF (soF ρ shR9 ca) κ κ_20 := by
              have rt := raF_r q21.1 (f := raTop) (x := zR κ chShown a0) (by decide) (by decide) (by decide)
              have rb := raF_r q21.1 (f := raBottom) (x := zR κ chShown a0) (by decide) (by decide) (by decide)
              have y := q21.2.1
              unfold raJ at y
              rw [rt, rb] at y
              have M := nm_ra W tS NS.1 NS.2 h30 (Or.inr (Or.inl rfl)) q21.1 y.1 y.2.1
              exact ⟨0, soF_m (fun r z => by show r < 100; rcases z with z | z | z <;> omega) (M.2 0)⟩
            have y2 := hE.2.2.2 (Or.inr c8)
            have k2 := cnk y2.1
            have H := hU9 (j90.1.2 c8) a2.toNatClampNeg (by omega)
            have eu : wU9 κ (zR κ chSolver a0) a2.toNatClampNeg = u17 := by
              unfold wU9
              rw [hu17]
              rfl
            rw [eu] at H
            have e : sq16 κ a0 σ9 V9 U9 n9 a1 a2 = U9 a2.toNatClampNeg := by
              unfold sq16
              rw [if_neg c7, if_pos c8]
            have rs := raF_r q21.1 (f := chShown) (x := a0) (by decide) (by decide) (by decide)
            have Vc := q21.2.2
            rw [e, rs]
            exact ⟨⟨Vc.1.trans H.1, Vc.1.trans H.1, Vc.2.1.trans H.2.1, Vc.2.2.trans H.2.2⟩, hE.1, hE.2.1, hE.2.2, FF⟩
    · skip
      intro T24
      refine Ch_showPlay_q6 W90 T24 (hD9 (sB_m16 c7 hE.2.1)) ?_ (fun κ_25 q26 => ?_)
      · exact ⟨(ra_t9 NS.1 h30 (Or.inr rfl)).2.1, I.2.2.2.2.2.1.2.2.2.2, I.2.2.2.2.2.1.2.1.1⟩  -- p13
      obtain ⟨q26, z9⟩ := q26
      intro W27
      intro M28
      refine h _ _ ?_
      · refine and_5 ?_ (fun o9 => ?_)  -- q14
        · have rt := raF_r q26.1 (f := raTop) (x := zR κ chShown a0) (by decide) (by decide) (by decide)
          have rb := raF_r q26.1 (f := raBottom) (x := zR κ chShown a0) (by decide) (by decide) (by decide)
          have y := q26.2
          unfold raJ at y
          rw [rt, rb] at y
          have M := nm_ra W tS NS.1 NS.2 h30 (Or.inr (Or.inl rfl)) q26.1 y.1 y.2.1
          have tl := ty_soLess W tS
          have l8 : ρ (zR κ soLess (zR κ chSolver a0)) = 8 := NS.2.1.2.2.2.2.2.1
          have nl := (soF_B (c := 0) W tl (M.2 0) (by rw [l8]; decide)).2.1
          exact chI_n9 W Ta0 (M.2 0) (fun r z => by rcases z with z | z | z <;> omega) M.1 (by rw [nl]; exact I.2.2.1.1.2.2.2.2.2.2) I
        · have FF : ∃ ca, zF (soF ρ shR9 ca) κ κ_25 := by
            have rt := raF_r q26.1 (f := raTop) (x := zR κ chShown a0) (by decide) (by decide) (by decide)
            have rb := raF_r q26.1 (f := raBottom) (x := zR κ chShown a0) (by decide) (by decide) (by decide)
            have y := q26.2
            unfold raJ at y
            rw [rt, rb] at y
            have M := nm_ra W tS NS.1 NS.2 h30 (Or.inr (Or.inl rfl)) q26.1 y.1 y.2.1
            exact ⟨0, soF_m (fun r z => by show r < 100; rcases z with z | z | z <;> omega) (M.2 0)⟩
          have e : sq16 κ a0 σ9 V9 U9 n9 a1 a2 = pd16 (dW16 κ a0) (dT16 κ a0) (dC16 κ a0).toNat := by
            unfold sq16
            rw [if_pos c7]
          have rs := raF_r q26.1 (f := chShown) (x := a0) (by decide) (by decide) (by decide)
          rw [e, rs]
          exact ⟨⟨z9.1, z9⟩, hE.1, hE.2.1, hE.2.2, FF⟩
  have hj68 : ∀ (l0 : Nat) (l1 : Int32) (l2 : Int32) (τ : zS), zW C (zn κ) τ → zT τ l0 = 15 → ((κ = τ ∧ a0 = l0 ∧ a1 = l1 ∧ a2 = l2 ∧ ((¬ a1 = 12 → ¬ a1 = 11 → zI κ soSolved (zR κ chSolver a0) ≠ 0) ∧ (a1 = 11 → zI κ soPlanned (zR κ chSolver a0) ≠ 0))) ∧ (0 ≤ a1.toInt ∧ a1.toInt ≤ 12) ∧ sB16 κ a0 σ9 V9 n9 a1 ∧ (a1 = 2 → 0 ≤ a2.toInt ∧ a2.toInt < (zI κ hoTotal (zR κ atEndings (zR κ chAtlas a0))).toInt) ∧ (a1 = 8 ∨ a1 = 11)) → w_Ch_show_68 C (zn κ) Q X  l0 l1 l2 τ := by
    rintro _ _ _ _ W68 T68_0 ⟨⟨rfl, rfl, rfl, rfl, j68⟩, hE⟩
    unfold w_Ch_show_68
    intro T29
    refine At_holds_q6 W68 T29  (fun r30 q32 => ?_)
    obtain ⟨q32, z9⟩ := q32
    intro W33
    intro M34
    refine ⟨fun c35 => ?_, fun c35 => ?_⟩
    · skip
      refine hj90 _ _ _ _ W33 ?_ ?_
      · exact Ta0  -- t15
      · refine and_5 ?_ (fun o9 => ⟨hE.1, hE.2.1, hE.2.2.1, fun _ => (q32.2 c35).2⟩)  -- k16
        exact ⟨rfl, rfl, rfl, rfl, j68, fun _ => q32.2 c35⟩
    · skip
      intro κ_36 hκ_36
      refine hx _ _ ?_
      · refine and_5 ?_ (fun o9 => ?_)  -- x17
        · exact ⟨Or.inr (Or.inr rfl), hκ_36⟩
        · have n12 : ¬ a1 = 12 := fun z => by rcases hE.2.2.2 with y | y <;> rw [z] at y <;> exact absurd y (by decide)
          exact Or.inr (Or.inr ⟨rfl, hE.1, hE.2.1, fun z => z9.mpr ⟨exx_16 I n12 hE.2.1, z.2 hE.2.2.2⟩ c35⟩)
  have hj56 : ∀ (l0 : Nat) (l1 : Int32) (l2 : Int32) (τ : zS), zW C (zn κ) τ → zT τ l0 = 15 → ((κ = τ ∧ a0 = l0 ∧ a1 = l1 ∧ a2 = l2 ∧ ((¬ a1 = 12 → ¬ a1 = 11 → zI κ soSolved (zR κ chSolver a0) ≠ 0) ∧ (a1 = 11 → zI κ soPlanned (zR κ chSolver a0) ≠ 0))) ∧ (0 ≤ a1.toInt ∧ a1.toInt ≤ 12) ∧ sB16 κ a0 σ9 V9 n9 a1 ∧ (a1 = 2 → 0 ≤ a2.toInt ∧ a2.toInt < (zI κ hoTotal (zR κ atEndings (zR κ chAtlas a0))).toInt)) → w_Ch_show_56 C (zn κ) Q X  l0 l1 l2 τ := by
    rintro _ _ _ _ W56 T56_0 ⟨⟨rfl, rfl, rfl, rfl, j56⟩, hE⟩
    unfold w_Ch_show_56
    refine ⟨fun c37 => ?_, fun c37 => ?_⟩
    · skip
      refine hj68 _ _ _ _ W56 ?_ ?_
      · exact Ta0  -- t18
      · refine and_5 ?_ (fun o9 => ⟨hE.1, hE.2.1, hE.2.2, Or.inl c37⟩)  -- k19
        exact ⟨rfl, rfl, rfl, rfl, j56⟩
    · skip
      refine ⟨fun c38 => ?_, fun c38 => ?_⟩
      · skip
        refine hj90 _ _ _ _ W56 ?_ ?_
        · exact Ta0  -- t20
        · refine and_5 ?_ (fun o9 => ⟨hE.1, hE.2.1, hE.2.2, fun z => z.elim (fun y => absurd y c37) (fun y => absurd y c38)⟩)  -- k21
          exact ⟨rfl, rfl, rfl, rfl, j56, fun z => z.elim (fun y => absurd y c37) (fun y => absurd y c38)⟩
      · skip
        refine hj68 _ _ _ _ W56 ?_ ?_
        · exact Ta0  -- t22
        · refine and_5 ?_ (fun o9 => ⟨hE.1, hE.2.1, hE.2.2, Or.inr c38⟩)  -- k23
          exact ⟨rfl, rfl, rfl, rfl, j56⟩
  refine ⟨fun c39 => ?_, fun c39 => ?_⟩
  · skip
    intro κ_40 hκ_40
    refine hx _ _ ?_
    · refine and_5 ?_ (fun o9 => Or.inl ⟨rfl, fun z => by rw [lti, t0i] at c39; omega⟩)  -- x24
      exact ⟨Or.inl rfl, hκ_40⟩
  · skip
    refine ⟨fun c41 => ?_, fun c41 => ?_⟩
    · skip
      intro T42
      refine Ch_showsNow_q6 W T42 ρ n9 P9 σ9 V9 (fun z => by rw [D1.1, D1.2.1]; exact ⟨(hS9 z).1, (hS9 z).2.1, (hS9 z).2.2.1⟩) ?_ (fun r43 q45 => ?_)
      · exact fun z => (hX z).1  -- p25
      obtain ⟨q45, z9⟩ := q45
      have zs := z9
      intro W46
      intro M47
      refine ⟨fun c48 => ?_, fun c48 => ?_⟩
      · skip
        refine ⟨fun c49 => ?_, fun c49 => ?_⟩
        · skip
          refine hj56 _ _ _ _ W46 ?_ ?_
          · exact Ta0  -- t26
          · refine and_5 ?_ (fun o9 => ?_)  -- k27
            · exact ⟨rfl, rfl, rfl, rfl, q45.2 c48⟩
            · have A : 0 ≤ a1.toInt ∧ a1.toInt ≤ 12 := by
                have l12 : (12 : Int32).toInt = 12 := rfl
                rw [lti, t0i] at c39
                rw [lei, l12] at c41
                omega
              exact ⟨A, zs.mp c48, fun z => absurd z c49⟩
        · skip
          intro T50
          refine At_holdsEnding_q6 W46 T50  (fun r51 q53 => ?_)
          obtain ⟨q53, z9⟩ := q53
          intro W54
          intro M55
          refine ⟨fun c56 => ?_, fun c56 => ?_⟩
          · skip
            intro κ_57 hκ_57
            refine hx _ _ ?_
            · refine and_5 ?_ (fun o9 => ?_)  -- x28
              · exact ⟨Or.inr (Or.inr rfl), hκ_57⟩
              · have A : 0 ≤ a1.toInt ∧ a1.toInt ≤ 12 := by
                  have l12 : (12 : Int32).toInt = 12 := rfl
                  rw [lti, t0i] at c39
                  rw [lei, l12] at c41
                  omega
                have n12 : ¬ a1 = 12 := fun z => by rw [z] at c49; exact absurd c49 (by decide)
                exact Or.inr (Or.inr ⟨rfl, A, zs.mp c48, fun z => z9.mpr ⟨exx_16 I n12 (zs.mp c48), z.1 c49⟩ c56⟩)
          · skip
            refine hj56 _ _ _ _ W54 ?_ ?_
            · exact Ta0  -- t29
            · refine and_5 ?_ (fun o9 => ?_)  -- k30
              · exact ⟨rfl, rfl, rfl, rfl, q45.2 c48⟩
              · have A : 0 ≤ a1.toInt ∧ a1.toInt ≤ 12 := by
                  have l12 : (12 : Int32).toInt = 12 := rfl
                  rw [lti, t0i] at c39
                  rw [lei, l12] at c41
                  omega
                exact ⟨A, zs.mp c48, fun _ => (z9.mp c56).2⟩
      · skip
        intro κ_58 hκ_58
        refine hx _ _ ?_
        · refine and_5 ?_ (fun o9 => ?_)  -- x31
          · exact ⟨Or.inr (Or.inl rfl), hκ_58⟩
          · have A : 0 ≤ a1.toInt ∧ a1.toInt ≤ 12 := by
              have l12 : (12 : Int32).toInt = 12 := rfl
              rw [lti, t0i] at c39
              rw [lei, l12] at c41
              omega
            exact Or.inr (Or.inl ⟨rfl, A, fun z => zs.mpr z c48⟩)
    · skip
      intro κ_59 hκ_59
      refine hx _ _ ?_
      · refine and_5 ?_ (fun o9 => Or.inl ⟨rfl, fun z => c41 (by have l12 : (12 : Int32).toInt = 12 := rfl; rw [lei, l12]; exact z.2)⟩)  -- x32
        exact ⟨Or.inl rfl, hκ_59⟩

end
section
set_option maxHeartbeats 1600000
/-! the class: groups and their ranks -/
def gR24 (T : Int) (tag tb : Int32 → Int32) (lf rt rk : Nat → Int32) : Prop := (∀ x y : Int32, (0 ≤ x.toInt ∧ x.toInt < T) → (0 ≤ y.toInt ∧ y.toInt < T) → tag x = tag y → (tag x = 1 ∨ tag x = 2) → tb x = tb y → rk x.toNatClampNeg = rk y.toNatClampNeg → x = y) ∧ ∀ g : Int32, (0 ≤ g.toInt ∧ g.toInt < T) → tag g = 0 → (∀ r : Int32, 0 ≤ r.toInt → r.toInt < (lf g.toNatClampNeg).toInt → ∃ x : Int32, (0 ≤ x.toInt ∧ x.toInt < T) ∧ tag x = 1 ∧ tb x = g ∧ rk x.toNatClampNeg = r) ∧ (∀ r : Int32, 0 ≤ r.toInt → r.toInt < (rt g.toNatClampNeg).toInt → ∃ x : Int32, (0 ≤ x.toInt ∧ x.toInt < T) ∧ tag x = 2 ∧ tb x = g ∧ rk x.toNatClampNeg = r)
def gr24 (κ : zS) (a : Nat) : Prop := gR24 ((zI κ hoTotal (zR κ odGroups a)).toInt) (fun x => pV9 κ (zR κ odGroups a) x 0) (fun x => pV9 κ (zR κ odGroups a) x 1) (zA κ (zR κ odLefts a)) (zA κ (zR κ odRights a)) (zA κ (zR κ odRanks a))
section
variable {T : Int} {tag tb tag' tb' : Int32 → Int32} {lf rt rk : Nat → Int32}
theorem gR_e24 (h : gR24 T tag tb lf rt rk) (ht : ∀ x : Int32, x.toInt < T → tag' x = tag x) (hb : ∀ x : Int32, x.toInt < T → tb' x = tb x) : gR24 T tag' tb' lf rt rk := by
  refine ⟨fun x y hx hy e1 e2 e3 e4 => ?_, fun g hg z => ⟨fun r r0 r1 => ?_, fun r r0 r1 => ?_⟩⟩
  · rw [ht x hx.2, ht y hy.2] at e1
    rw [ht x hx.2] at e2
    rw [hb x hx.2, hb y hy.2] at e3
    exact h.1 x y hx hy e1 e2 e3 e4
  · rw [ht g hg.2] at z
    obtain ⟨x, x1, x2, x3, x4⟩ := (h.2 g hg z).1 r r0 r1
    exact ⟨x, x1, by rw [ht x x1.2]; exact x2, by rw [hb x x1.2]; exact x3, x4⟩
  · rw [ht g hg.2] at z
    obtain ⟨x, x1, x2, x3, x4⟩ := (h.2 g hg z).2 r r0 r1
    exact ⟨x, x1, by rw [ht x x1.2]; exact x2, by rw [hb x x1.2]; exact x3, x4⟩
theorem nt_24 {x v : Int32} (h0 : 0 ≤ x.toInt) (hv : 0 ≤ v.toInt) (n : ¬ x = v) : x.toNatClampNeg ≠ v.toNatClampNeg := fun z => n (Int32.toInt_inj.mp (by have a := cnk h0; have b := cnk hv; omega))
/-- a new table -/
theorem gR_t24 {v : Int32} (h : gR24 T tag tb lf rt rk) (hv : v.toInt = T) (T0 : 0 ≤ T) (ht : ∀ x : Int32, x.toInt < T → tag' x = tag x) (hb : ∀ x : Int32, x.toInt < T → tb' x = tb x) (tv : tag' v = 0) : gR24 (T + 1) tag' tb' (upd lf v.toNatClampNeg 0) (upd rt v.toNatClampNeg 0) rk := by
  have le : ∀ x : Int32, x.toInt < T + 1 → ¬ x = v → x.toInt < T := fun x hx n => by
    have : ¬ x.toInt = v.toInt := fun z => n (Int32.toInt_inj.mp z)
    omega
  have nv : ∀ x, tag' x = 1 ∨ tag' x = 2 → ¬ x = v := fun x z e => by
    rw [e, tv] at z
    exact absurd z (by decide)
  refine ⟨fun x y hx hy e1 e2 e3 e4 => ?_, fun g hg z => ?_⟩
  · have x1 := le x hx.2 (nv x e2)
    have y1 := le y hy.2 (nv y (by rw [← e1]; exact e2))
    rw [ht x x1, ht y y1] at e1
    rw [ht x x1] at e2
    rw [hb x x1, hb y y1] at e3
    exact h.1 x y ⟨hx.1, x1⟩ ⟨hy.1, y1⟩ e1 e2 e3 e4
  · by_cases c : g = v
    · rw [c, upd_eq, upd_eq]
      exact ⟨fun r r0 r1 => absurd r1 (by rw [t0i]; omega), fun r r0 r1 => absurd r1 (by rw [t0i]; omega)⟩
    · have g1 := le g hg.2 c
      have n := nt_24 hg.1 (by omega : 0 ≤ v.toInt) c
      rw [ht g g1] at z
      rw [upd_ne n, upd_ne n]
      refine ⟨fun r r0 r1 => ?_, fun r r0 r1 => ?_⟩
      · obtain ⟨x, x1, x2, x3, x4⟩ := (h.2 g ⟨hg.1, g1⟩ z).1 r r0 r1
        exact ⟨x, ⟨x1.1, by omega⟩, by rw [ht x x1.2]; exact x2, by rw [hb x x1.2]; exact x3, x4⟩
      · obtain ⟨x, x1, x2, x3, x4⟩ := (h.2 g ⟨hg.1, g1⟩ z).2 r r0 r1
        exact ⟨x, ⟨x1.1, by omega⟩, by rw [ht x x1.2]; exact x2, by rw [hb x x1.2]; exact x3, x4⟩
/-- a new value on the left -/
theorem gR_l24 {v t : Int32} {ml mr : Int} (h : gR24 T tag tb lf rt rk) (P : gP9 T tag tb lf rt rk ml mr) (hm : ml < 100000) (hv : v.toInt = T) (T0 : 0 ≤ T) (ht : ∀ x : Int32, x.toInt < T → tag' x = tag x) (hb : ∀ x : Int32, x.toInt < T → tb' x = tb x) (tv : tag' v = 1) (bv : tb' v = t) (t0 : 0 ≤ t.toInt) (t1 : t.toInt < T) (tt : tag t = 0) : gR24 (T + 1) tag' tb' (upd lf t.toNatClampNeg (lf t.toNatClampNeg + 1)) rt (upd rk v.toNatClampNeg (lf t.toNatClampNeg)) := by
  have le : ∀ x : Int32, x.toInt < T + 1 → ¬ x = v → x.toInt < T := fun x hx n => by
    have : ¬ x.toInt = v.toInt := fun z => n (Int32.toInt_inj.mp z)
    omega
  have v0 : 0 ≤ v.toInt := by omega
  have lb := ((P t t0 t1).1 tt).1
  have l1 : (lf t.toNatClampNeg + 1).toInt = (lf t.toNatClampNeg).toInt + 1 := by rw [add_i (by rw [t1i]; omega) (by rw [t1i]; omega), t1i]
  have rb : ∀ x : Int32, 0 ≤ x.toInt → x.toInt < T → tag x = 1 → tb x = t → ¬ rk x.toNatClampNeg = lf t.toNatClampNeg := fun x x0 x1 tx bx e => by
    have y := ((P x x0 x1).2.1 tx).2.2
    rw [bx, e] at y
    omega
  refine ⟨fun x y hx hy e1 e2 e3 e4 => ?_, fun g hg z => ?_⟩
  · by_cases cx : x = v <;> by_cases cy : y = v
    · rw [cx, cy]
    · exfalso
      have y1 := le y hy.2 cy
      rw [cx, upd_eq, upd_ne (nt_24 hy.1 v0 cy)] at e4
      rw [cx, tv, ht y y1] at e1
      rw [cx, bv, hb y y1] at e3
      exact rb y hy.1 y1 e1.symm e3.symm e4.symm
    · exfalso
      have x1 := le x hx.2 cx
      rw [cy, upd_eq, upd_ne (nt_24 hx.1 v0 cx)] at e4
      rw [cy, tv, ht x x1] at e1
      rw [cy, bv, hb x x1] at e3
      exact rb x hx.1 x1 e1 e3 e4
    · have x1 := le x hx.2 cx
      have y1 := le y hy.2 cy
      rw [upd_ne (nt_24 hx.1 v0 cx), upd_ne (nt_24 hy.1 v0 cy)] at e4
      rw [ht x x1, ht y y1] at e1
      rw [ht x x1] at e2
      rw [hb x x1, hb y y1] at e3
      exact h.1 x y ⟨hx.1, x1⟩ ⟨hy.1, y1⟩ e1 e2 e3 e4
  · have gv : ¬ g = v := fun e => by rw [e, tv] at z; exact absurd z (by decide)
    have g1 := le g hg.2 gv
    rw [ht g g1] at z
    have H := h.2 g ⟨hg.1, g1⟩ z
    have old : ∀ s r : Int32, (∃ x : Int32, (0 ≤ x.toInt ∧ x.toInt < T) ∧ tag x = s ∧ tb x = g ∧ rk x.toNatClampNeg = r) → ∃ x : Int32, (0 ≤ x.toInt ∧ x.toInt < T + 1) ∧ tag' x = s ∧ tb' x = g ∧ upd rk v.toNatClampNeg (lf t.toNatClampNeg) x.toNatClampNeg = r := fun s r ⟨x, x1, x2, x3, x4⟩ => ⟨x, ⟨x1.1, by omega⟩, by rw [ht x x1.2]; exact x2, by rw [hb x x1.2]; exact x3, by rw [upd_ne (nt_24 x1.1 v0 (fun e => by rw [e] at x1; omega))]; exact x4⟩
    refine ⟨fun r r0 r1 => ?_, fun r r0 r1 => old 2 r (H.2 r r0 r1)⟩
    by_cases c : g = t
    · rw [c, upd_eq, l1] at r1
      by_cases d : r = lf t.toNatClampNeg
      · exact ⟨v, ⟨v0, by omega⟩, tv, by rw [bv, c], by rw [upd_eq, d]⟩
      · refine old 1 r (H.1 r r0 ?_)
        have : ¬ r.toInt = (lf t.toNatClampNeg).toInt := fun z => d (Int32.toInt_inj.mp z)
        rw [c]
        omega
    · rw [upd_ne (nt_24 hg.1 t0 c)] at r1
      exact old 1 r (H.1 r r0 r1)
/-- a new value on the right -/
theorem gR_r24 {v t : Int32} {ml mr : Int} (h : gR24 T tag tb lf rt rk) (P : gP9 T tag tb lf rt rk ml mr) (hm : mr < 100000) (hv : v.toInt = T) (T0 : 0 ≤ T) (ht : ∀ x : Int32, x.toInt < T → tag' x = tag x) (hb : ∀ x : Int32, x.toInt < T → tb' x = tb x) (tv : tag' v = 2) (bv : tb' v = t) (t0 : 0 ≤ t.toInt) (t1 : t.toInt < T) (tt : tag t = 0) : gR24 (T + 1) tag' tb' lf (upd rt t.toNatClampNeg (rt t.toNatClampNeg + 1)) (upd rk v.toNatClampNeg (rt t.toNatClampNeg)) := by
  have le : ∀ x : Int32, x.toInt < T + 1 → ¬ x = v → x.toInt < T := fun x hx n => by
    have : ¬ x.toInt = v.toInt := fun z => n (Int32.toInt_inj.mp z)
    omega
  have v0 : 0 ≤ v.toInt := by omega
  have lb := ((P t t0 t1).1 tt).2
  have l1 : (rt t.toNatClampNeg + 1).toInt = (rt t.toNatClampNeg).toInt + 1 := by rw [add_i (by rw [t1i]; omega) (by rw [t1i]; omega), t1i]
  have rb : ∀ x : Int32, 0 ≤ x.toInt → x.toInt < T → tag x = 2 → tb x = t → ¬ rk x.toNatClampNeg = rt t.toNatClampNeg := fun x x0 x1 tx bx e => by
    have y := ((P x x0 x1).2.2 tx).2.2
    rw [bx, e] at y
    omega
  refine ⟨fun x y hx hy e1 e2 e3 e4 => ?_, fun g hg z => ?_⟩
  · by_cases cx : x = v <;> by_cases cy : y = v
    · rw [cx, cy]
    · exfalso
      have y1 := le y hy.2 cy
      rw [cx, upd_eq, upd_ne (nt_24 hy.1 v0 cy)] at e4
      rw [cx, tv, ht y y1] at e1
      rw [cx, bv, hb y y1] at e3
      exact rb y hy.1 y1 e1.symm e3.symm e4.symm
    · exfalso
      have x1 := le x hx.2 cx
      rw [cy, upd_eq, upd_ne (nt_24 hx.1 v0 cx)] at e4
      rw [cy, tv, ht x x1] at e1
      rw [cy, bv, hb x x1] at e3
      exact rb x hx.1 x1 e1 e3 e4
    · have x1 := le x hx.2 cx
      have y1 := le y hy.2 cy
      rw [upd_ne (nt_24 hx.1 v0 cx), upd_ne (nt_24 hy.1 v0 cy)] at e4
      rw [ht x x1, ht y y1] at e1
      rw [ht x x1] at e2
      rw [hb x x1, hb y y1] at e3
      exact h.1 x y ⟨hx.1, x1⟩ ⟨hy.1, y1⟩ e1 e2 e3 e4
  · have gv : ¬ g = v := fun e => by rw [e, tv] at z; exact absurd z (by decide)
    have g1 := le g hg.2 gv
    rw [ht g g1] at z
    have H := h.2 g ⟨hg.1, g1⟩ z
    have old : ∀ s r : Int32, (∃ x : Int32, (0 ≤ x.toInt ∧ x.toInt < T) ∧ tag x = s ∧ tb x = g ∧ rk x.toNatClampNeg = r) → ∃ x : Int32, (0 ≤ x.toInt ∧ x.toInt < T + 1) ∧ tag' x = s ∧ tb' x = g ∧ upd rk v.toNatClampNeg (rt t.toNatClampNeg) x.toNatClampNeg = r := fun s r ⟨x, x1, x2, x3, x4⟩ => ⟨x, ⟨x1.1, by omega⟩, by rw [ht x x1.2]; exact x2, by rw [hb x x1.2]; exact x3, by rw [upd_ne (nt_24 x1.1 v0 (fun e => by rw [e] at x1; omega))]; exact x4⟩
    refine ⟨fun r r0 r1 => old 1 r (H.1 r r0 r1), fun r r0 r1 => ?_⟩
    by_cases c : g = t
    · rw [c, upd_eq, l1] at r1
      by_cases d : r = rt t.toNatClampNeg
      · exact ⟨v, ⟨v0, by omega⟩, tv, by rw [bv, c], by rw [upd_eq, d]⟩
      · refine old 2 r (H.2 r r0 ?_)
        have : ¬ r.toInt = (rt t.toNatClampNeg).toInt := fun z => d (Int32.toInt_inj.mp z)
        rw [c]
        omega
    · rw [upd_ne (nt_24 hg.1 t0 c)] at r1
      exact old 2 r (H.2 r r0 r1)
end
/-- a row of groups has one number -/
theorem hkS_u24 {κ : zS} {h S x y : Nat} {K : Nat → Int32} {L : Int32} (h1 : hkS9 κ h S K L x) (h2 : hkS9 κ h S K L y) : x = y := by
  obtain ⟨a, j, hj, p, t⟩ := h1
  obtain ⟨a', j', hj', p', t'⟩ := h2
  rcases Nat.lt_trichotomy j j' with c | c | c
  · have z := (p' j c).2
    rw [t] at z
    exact absurd (by rw [show ((x : Int) + 1 - 1).toNat = x by omega]; exact a) z
  · subst c
    omega
  · have z := (p j' c).2
    rw [t'] at z
    exact absurd (by rw [show ((y : Int) + 1 - 1).toNat = y by omega]; exact a') z
/-- at most one group more, and then of this row -/
def nw24 (κ κ' : zS) (g : Nat) (K : Nat → Int32) : Prop := (zI κ' hoTotal g).toInt = (zI κ hoTotal g).toInt ∨ ((zI κ' hoTotal g).toInt = (zI κ hoTotal g).toInt + 1 ∧ hkS9 κ' g 8192 K 3 (zI κ hoTotal g).toInt.toNat)

end
section
set_option maxHeartbeats 1600000
/-! the class: groups keep their ranks -/
theorem Od_tableOf_q6 {C : zC} {n0 : Nat} {a0 : Nat} {a1 : Int32} {a2 : Int32} {κ : zS} {Q : Int32 → zS → Prop} (W : zW C n0 κ) (Ta0 : zT κ a0 = 9) (ml mr : Int) (R9 : gr24 κ a0) (hp : (grI9 κ a0 ∧ tbL9 κ a0 ∧ gI9 κ a0 ml mr) ∧ (0 ≤ ml ∧ 0 ≤ mr) ∧ hoI κ (zR κ atEndings (zR κ odAtlas a0)) 1000 35 2048 ∧ ((zI κ hoTotal (zR κ odGroups a0)).toInt < 3000 ∨ ∃ x, hkS9 κ (zR κ odGroups a0) 8192 (tK9 κ a0 a1 a2) 3 x)) (h : ∀ (v : Int32) (κ' : zS), ((tbS9 κ κ' a0 ∧ gI9 κ' a0 ml mr ∧ (0 ≤ v.toInt ∧ v.toInt < (zI κ' hoTotal (zR κ odGroups a0)).toInt) ∧ hkS9 κ' (zR κ odGroups a0) 8192 (tK9 κ a0 a1 a2) 3 v.toNatClampNeg ∧ ∀ x : Nat, hkS9 κ (zR κ odGroups a0) 8192 (tK9 κ a0 a1 a2) 3 x → tbN9 κ κ' a0 ∧ v.toInt = (x : Int)) ∧ (gr24 κ' a0 ∧ nw24 κ κ' (zR κ odGroups a0) (tK9 κ a0 a1 a2))) → Q v κ') : zRun C 4 mOd_tableOf [.ref a0, .int a1, .int a2] κ (oI Q noX) := by
  refine Od_tableOf_run W Ta0 ?_
  replace W := W.lo (Nat.le_trans W.1.2.1 W.1.2.2) (Nat.le_refl (zn κ))
  unfold w_Od_tableOf_0
  obtain ⟨⟨G0, L0, I0⟩, ⟨m1, m2⟩, E0, H5⟩ := hp
  have tg := ty_odGroups W Ta0
  have ag : a0 ≠ zR κ odGroups a0 := fun z => by rw [← z, Ta0] at tg; exact absurd tg (by decide)
  have tM := G0.1.1.2.1
  have hj31 : ∀ (l0 : Nat) (l3 : Int32) (s0 : Nat) (s1 : Int32) (s2 : Int32) (τ : zS), zW C (zn κ) τ → zT τ l0 = 9 → zT τ s0 = 9 → ((κ = τ ∧ a0 = l0 ∧ l3 = zI κ hoTotal (zR κ odGroups a0) ∧ s0 = a0 ∧ s1 = 0 ∧ k39 s1 s2 0 = tK9 κ a0 a1 a2) ∧ True) → w_Od_tableOf_31 C (zn κ) Q  l0 l3 s0 s1 s2 τ := by
    rintro _ y31_3 y31_s0 y31_s1 y31_s2 _ W31 T31_0 T31_1 ⟨⟨rfl, rfl, j31⟩, hE⟩
    unfold w_Od_tableOf_31
    intro T1
    obtain ⟨jt, rfl, j0, jk⟩ := j31
    refine Od_group_c W31 T1  ?_ (fun r2 κ_3 q4 => ?_)
    · rw [jk]
      exact ⟨G0, H5⟩
    intro W5
    intro M6
    rw [jk] at q4
    obtain ⟨S3, Z3, ⟨v0, v1⟩, hs, tt, dd⟩ := q4
    have wl := gr_w9 W Ta0 Z3 ag (f := odLefts) (by decide +kernel) (by decide) (by decide)
    have wr := gr_w9 W Ta0 Z3 ag (f := odRights) (by decide +kernel) (by decide) (by decide)
    have wk := gr_w9 W Ta0 Z3 ag (f := odRanks) (by decide +kernel) (by decide) (by decide)
    have eg := S3.2.1 odGroups (by decide)
    have T3 : zT κ_3 y31_s0 = 9 := Z3.t Ta0 (by decide)
    have tM3 := S3.2.2.1.1.1.2.1.2
    rw [eg] at tM3
    refine ⟨fun c7 => ?_, fun c7 => ?_⟩
    · skip
      refine h _ _ ?_
      · refine and_5 ?_ (fun o9 => ?_)  -- q2
        · have te : (zI κ_3 hoTotal (zR κ odGroups y31_s0)).toInt = (zI κ hoTotal (zR κ odGroups y31_s0)).toInt := by
            rcases tt with z | z
            · exact z
            · exact absurd (Int32.toInt_inj.mp (by rw [jt]; exact z.2)) c7
          refine ⟨S3, ?_, ⟨v0, v1⟩, hs, fun x H => ⟨⟨te, wl.2.1, wr.2.1, wk.2.1⟩, (dd x H).2⟩⟩
          unfold gI9
          rw [eg, te, wl.1, wr.1, wk.1, wl.2.1, wr.2.1, wk.2.1]
          exact gp_e9 I0 (fun x hx => S3.2.2.2.2.2 x 0 hx) (fun x hx => S3.2.2.2.2.2 x 1 hx)
        · have te : (zI κ_3 hoTotal (zR κ odGroups y31_s0)).toInt = (zI κ hoTotal (zR κ odGroups y31_s0)).toInt := by
            rcases tt with z | z
            · exact z
            · exact absurd (Int32.toInt_inj.mp (by rw [jt]; exact z.2)) c7
          refine ⟨?_, Or.inl te⟩
          unfold gr24
          rw [eg, te, wl.1, wr.1, wk.1, wl.2.1, wr.2.1, wk.2.1]
          exact gR_e24 R9 (fun x hx => S3.2.2.2.2.2 x 0 hx) (fun x hx => S3.2.2.2.2.2 x 1 hx)
    · skip
      refine ⟨?_, ?_⟩
      · rw [inb_iff, wl.1, wl.2.2, L0.1]; omega  -- b3
      intro κ_8 hκ_8
      intro W9
      have r8 : zR κ_8 = zR κ_3 := by rw [hκ_8]; rfl
      have n8 : zN κ_8 = zN κ_3 := by rw [hκ_8]; rfl
      have o8 : zO κ_8 = zO κ_3 := by rw [hκ_8]; rfl
      refine ⟨?_, ?_⟩
      · rw [inb_iff, r8, n8, wr.1, wr.2.2, L0.2.1]; omega  -- b4
      intro κ_10 hκ_10
      intro W11
      refine h _ _ ?_
      · refine and_5 ?_ (fun o9 => ?_)  -- q5
        · have r10 : zR κ_10 = zR κ_3 := by rw [hκ_10]; exact r8
          have n10 : zN κ_10 = zN κ_3 := by rw [hκ_10]; exact n8
          have rv : r2.toInt = (zI κ hoTotal (zR κ odGroups y31_s0)).toInt := by rw [c7, jt]
          have te : (zI κ_3 hoTotal (zR κ odGroups y31_s0)).toInt = (zI κ hoTotal (zR κ odGroups y31_s0)).toInt + 1 := by
            rcases tt with z | z
            · omega
            · exact z.1
          have ol := W5.o (show zr odLefts = some 20 by decide +kernel) (by decide) T3
          have or := W5.o (show zr odRights = some 20 by decide +kernel) (by decide) T3
          have Z10 : zF (fun f b => b = y31_s0 ∧ (f = odLefts ∨ f = odRights ∨ f = odRanks)) κ_3 κ_10 := by
            have a1 : zF (fun f b => b = y31_s0 ∧ (f = odLefts ∨ f = odRights ∨ f = odRanks)) κ_3 κ_8 := by rw [hκ_8]; exact zF_ua (by rw [ol]; exact ⟨rfl, Or.inl rfl⟩)
            have a2 : zF (fun f b => b = y31_s0 ∧ (f = odLefts ∨ f = odRights ∨ f = odRanks)) κ_8 κ_10 := by rw [hκ_10]; exact zF_ua (by rw [r8, o8, or]; exact ⟨rfl, Or.inr (Or.inl rfl)⟩)
            exact a1.tr a2
          have U := tb_u9 W5 T3 S3 Z10 r10 n10
          have nlr := od_ow9 W5 T3 (f := odLefts) (g := odRights) (by decide +kernel) (by decide +kernel) (by decide) (by decide) (by decide)
          have nkl := od_ow9 W5 T3 (f := odRanks) (g := odLefts) (by decide +kernel) (by decide +kernel) (by decide) (by decide) (by decide)
          have nkr := od_ow9 W5 T3 (f := odRanks) (g := odRights) (by decide +kernel) (by decide +kernel) (by decide) (by decide) (by decide)
          have xl : zA κ_10 (zR κ_3 odLefts y31_s0) = upd (zA κ (zR κ odLefts y31_s0)) r2.toNatClampNeg 0 := by
            rw [hκ_10, r8]
            refine (if_neg nlr).trans ?_
            rw [hκ_8]
            refine (if_pos rfl).trans ?_
            rw [wl.1]
            show upd (zA κ_3 (zR κ odLefts y31_s0)) _ _ = _
            rw [wl.2.1]
          have xr : zA κ_10 (zR κ_3 odRights y31_s0) = upd (zA κ (zR κ odRights y31_s0)) r2.toNatClampNeg 0 := by
            rw [hκ_10, r8]
            refine (if_pos rfl).trans ?_
            rw [hκ_8]
            show upd ((ua κ_3 (zR κ_3 odLefts y31_s0) r2.toNatClampNeg 0).2.2.2.2.1 (zR κ_3 odRights y31_s0)) _ _ = _
            have q : (ua κ_3 (zR κ_3 odLefts y31_s0) r2.toNatClampNeg 0).2.2.2.2.1 (zR κ_3 odRights y31_s0) = zA κ_3 (zR κ_3 odRights y31_s0) := if_neg (Ne.symm nlr)
            rw [q, wr.1, wr.2.1]
          have xk : zA κ_10 (zR κ_3 odRanks y31_s0) = zA κ (zR κ odRanks y31_s0) := by
            rw [hκ_10, r8]
            refine (if_neg nkr).trans ?_
            rw [hκ_8]
            refine (if_neg nkl).trans ?_
            show zA κ_3 (zR κ_3 odRanks y31_s0) = _
            rw [wk.1, wk.2.1]
          refine ⟨U.1, ?_, ⟨v0, by rw [U.2.2.2]; exact v1⟩, (U.2.1 _ _ _).mpr hs, fun x H => ?_⟩
          · unfold gI9
            rw [r10, xl, xr, xk, eg, U.2.2.2, U.2.2.1, te]
            refine gp_t9 I0 rv tM.1 (fun x hx => S3.2.2.2.2.2 x 0 hx) (fun x hx => S3.2.2.2.2.2 x 1 hx) ?_ m1 m2
            exact pV9_k (K := tK9 κ y31_s0 a1 a2) v0 hs.1 (by decide) (by decide)
          · have y := (dd x H).1
            omega
        · have r10 : zR κ_10 = zR κ_3 := by rw [hκ_10]; exact r8
          have n10 : zN κ_10 = zN κ_3 := by rw [hκ_10]; exact n8
          have rv : r2.toInt = (zI κ hoTotal (zR κ odGroups y31_s0)).toInt := by rw [c7, jt]
          have te : (zI κ_3 hoTotal (zR κ odGroups y31_s0)).toInt = (zI κ hoTotal (zR κ odGroups y31_s0)).toInt + 1 := by
            rcases tt with z | z
            · omega
            · exact z.1
          have ol := W5.o (show zr odLefts = some 20 by decide +kernel) (by decide) T3
          have or := W5.o (show zr odRights = some 20 by decide +kernel) (by decide) T3
          have Z10 : zF (fun f b => b = y31_s0 ∧ (f = odLefts ∨ f = odRights ∨ f = odRanks)) κ_3 κ_10 := by
            have a1 : zF (fun f b => b = y31_s0 ∧ (f = odLefts ∨ f = odRights ∨ f = odRanks)) κ_3 κ_8 := by rw [hκ_8]; exact zF_ua (by rw [ol]; exact ⟨rfl, Or.inl rfl⟩)
            have a2 : zF (fun f b => b = y31_s0 ∧ (f = odLefts ∨ f = odRights ∨ f = odRanks)) κ_8 κ_10 := by rw [hκ_10]; exact zF_ua (by rw [r8, o8, or]; exact ⟨rfl, Or.inr (Or.inl rfl)⟩)
            exact a1.tr a2
          have U := tb_u9 W5 T3 S3 Z10 r10 n10
          have nlr := od_ow9 W5 T3 (f := odLefts) (g := odRights) (by decide +kernel) (by decide +kernel) (by decide) (by decide) (by decide)
          have nkl := od_ow9 W5 T3 (f := odRanks) (g := odLefts) (by decide +kernel) (by decide +kernel) (by decide) (by decide) (by decide)
          have nkr := od_ow9 W5 T3 (f := odRanks) (g := odRights) (by decide +kernel) (by decide +kernel) (by decide) (by decide) (by decide)
          have xl : zA κ_10 (zR κ_3 odLefts y31_s0) = upd (zA κ (zR κ odLefts y31_s0)) r2.toNatClampNeg 0 := by
            rw [hκ_10, r8]
            refine (if_neg nlr).trans ?_
            rw [hκ_8]
            refine (if_pos rfl).trans ?_
            rw [wl.1]
            show upd (zA κ_3 (zR κ odLefts y31_s0)) _ _ = _
            rw [wl.2.1]
          have xr : zA κ_10 (zR κ_3 odRights y31_s0) = upd (zA κ (zR κ odRights y31_s0)) r2.toNatClampNeg 0 := by
            rw [hκ_10, r8]
            refine (if_pos rfl).trans ?_
            rw [hκ_8]
            show upd ((ua κ_3 (zR κ_3 odLefts y31_s0) r2.toNatClampNeg 0).2.2.2.2.1 (zR κ_3 odRights y31_s0)) _ _ = _
            have q : (ua κ_3 (zR κ_3 odLefts y31_s0) r2.toNatClampNeg 0).2.2.2.2.1 (zR κ_3 odRights y31_s0) = zA κ_3 (zR κ_3 odRights y31_s0) := if_neg (Ne.symm nlr)
            rw [q, wr.1, wr.2.1]
          have xk : zA κ_10 (zR κ_3 odRanks y31_s0) = zA κ (zR κ odRanks y31_s0) := by
            rw [hκ_10, r8]
            refine (if_neg nkr).trans ?_
            rw [hκ_8]
            refine (if_neg nkl).trans ?_
            show zA κ_3 (zR κ_3 odRanks y31_s0) = _
            rw [wk.1, wk.2.1]
          refine ⟨?_, by unfold nw24; rw [U.2.2.2]; exact Or.inr ⟨te, (U.2.1 _ _ _).mpr (by rw [← rv]; exact hs)⟩⟩
          unfold gr24
          rw [r10, xl, xr, xk, eg, U.2.2.2, U.2.2.1, te]
          exact gR_t24 R9 rv tM.1 (fun x hx => S3.2.2.2.2.2 x 0 hx) (fun x hx => S3.2.2.2.2.2 x 1 hx) (pV9_k (K := tK9 κ y31_s0 a1 a2) v0 hs.1 (by decide) (by decide))
  intro x12 hx12
  refine ⟨fun c13 => ?_, fun c13 => ?_⟩
  · skip
    intro T14
    refine Ho_part_c2 W T14 1000 35 2048 ?_ (fun r15 q17 => ?_)
    · exact ⟨E0, Or.inr (Or.inl ⟨rfl, rfl, rfl⟩)⟩  -- p6
    intro W18
    intro M19
    refine hj31 _ _ _ _ _ _ W18 ?_ ?_ ?_
    · exact Ta0  -- t7
    · exact Ta0  -- t8
    · refine and_5 ?_ (fun o9 => trivial)  -- k9
      refine ⟨rfl, rfl, hx12, rfl, rfl, ?_⟩
      unfold tK9
      rw [if_neg c13, q17]
  · skip
    refine hj31 _ _ _ _ _ _ W ?_ ?_ ?_
    · exact Ta0  -- t10
    · exact Ta0  -- t11
    · refine and_5 ?_ (fun o9 => trivial)  -- k12
      refine ⟨rfl, rfl, hx12, rfl, rfl, ?_⟩
      unfold tK9
      rw [if_pos c13]

theorem Od_rankOf1_q6 {C : zC} {n0 : Nat} {a0 : Nat} {a1 : Int32} {a2 : Int32} {a3 : Int32} {a4 : Nat} {κ : zS} {Q : Int32 → zS → Prop} (W : zW C n0 κ) (Ta0 : zT κ a0 = 9) (Ta4 : zT κ a4 = 20) (ml mr : Int) (R9 : gr24 κ a0) (hp : (grI9 κ a0 ∧ tbL9 κ a0 ∧ gI9 κ a0 ml mr) ∧ (ml < 100000 ∧ mr < 100000) ∧ (a1 = 1 ∧ a4 = zR κ odLefts a0) ∧ (0 ≤ a2.toInt ∧ a2.toInt < (zI κ hoTotal (zR κ odGroups a0)).toInt ∧ pV9 κ (zR κ odGroups a0) a2 0 = 0) ∧ ((zI κ hoTotal (zR κ odGroups a0)).toInt < 3000 ∨ ∃ x, hkS9 κ (zR κ odGroups a0) 8192 (k39 1 a2 a3) 3 x)) (h : ∀ (v : Int32) (κ' : zS), ((∃ x : Int32, (tbS9 κ κ' a0 ∧ gI9 κ' a0 (ml + 1) mr ∧ (0 ≤ x.toInt ∧ x.toInt < (zI κ' hoTotal (zR κ odGroups a0)).toInt) ∧ hkS9 κ' (zR κ odGroups a0) 8192 (k39 1 a2 a3) 3 x.toNatClampNeg ∧ ∀ y : Nat, hkS9 κ (zR κ odGroups a0) 8192 (k39 1 a2 a3) 3 y → tbN9 κ κ' a0 ∧ x.toInt = (y : Int)) ∧ v = zA κ' (zR κ' odRanks a0) x.toNatClampNeg) ∧ (gr24 κ' a0 ∧ nw24 κ κ' (zR κ odGroups a0) (k39 1 a2 a3))) → Q v κ') : zRun C 4 mOd_rankOf [.ref a0, .int a1, .int a2, .int a3, .ref a4] κ (oI Q noX) := by
  refine Od_rankOf_run W Ta0 Ta4 ?_
  replace W := W.lo (Nat.le_trans W.1.2.1 W.1.2.2) (Nat.le_refl (zn κ))
  unfold w_Od_rankOf_0
  obtain ⟨⟨G0, L0, I0⟩, ⟨m1, m2⟩, ⟨ea1, ea4⟩, ⟨t0, t1, tg0⟩, H5⟩ := hp
  subst ea1
  have tg := ty_odGroups W Ta0
  have ag : a0 ≠ zR κ odGroups a0 := fun z => by rw [← z, Ta0] at tg; exact absurd tg (by decide)
  have tM := G0.1.1.2.1
  have k2 := cnk t0
  have hj44 : ∀ (l0 : Nat) (l6 : Int32) (τ : zS), zW C (zn κ) τ → zT τ l0 = 9 → ((a0 = l0 ∧ tbS9 κ τ a0 ∧ gI9 τ a0 (ml + 1) mr ∧ (0 ≤ l6.toInt ∧ l6.toInt < (zI τ hoTotal (zR κ odGroups a0)).toInt) ∧ hkS9 τ (zR κ odGroups a0) 8192 (k39 1 a2 a3) 3 l6.toNatClampNeg ∧ ∀ y : Nat, hkS9 κ (zR κ odGroups a0) 8192 (k39 1 a2 a3) 3 y → tbN9 κ τ a0 ∧ l6.toInt = (y : Int)) ∧ gr24 τ a0 ∧ nw24 κ τ (zR κ odGroups a0) (k39 1 a2 a3)) → w_Od_rankOf_44 C (zn κ) Q  l0 l6 τ := by
    rintro _ y44_6 τ44 W44 T44_0 ⟨⟨rfl, j44⟩, hE⟩
    unfold w_Od_rankOf_44
    refine ⟨?_, ?_⟩
    · have q := j44.1.2.2.1.1.1.2.1.2
      rw [j44.1.2.1 odGroups (by decide)] at q
      rw [inb_iff, (tb_l9 W Ta0 j44.1 L0).2.2.2.1]
      exact ⟨j44.2.2.1.1, Int.lt_of_lt_of_le j44.2.2.1.2 q⟩
    refine h _ _ ?_
    · refine and_5 ?_ (fun o9 => hE)  -- q2
      exact ⟨y44_6, j44, rfl⟩
  intro x1 hx1
  intro T2
  refine Od_group_c W T2  ?_ (fun r3 κ_4 q5 => ?_)
  · exact ⟨G0, H5⟩  -- p3
  intro W6
  intro M7
  obtain ⟨S3, Z3, ⟨v0, v1⟩, hs, tt, dd⟩ := q5
  have wl := gr_w9 W Ta0 Z3 ag (f := odLefts) (by decide +kernel) (by decide) (by decide)
  have wr := gr_w9 W Ta0 Z3 ag (f := odRights) (by decide +kernel) (by decide) (by decide)
  have wk := gr_w9 W Ta0 Z3 ag (f := odRanks) (by decide +kernel) (by decide) (by decide)
  have eg := S3.2.1 odGroups (by decide)
  have T3 : zT κ_4 a0 = 9 := Z3.t Ta0 (by decide)
  have tM3 := S3.2.2.1.1.1.2.1.2
  rw [eg] at tM3
  refine ⟨fun c8 => ?_, fun c8 => ?_⟩
  · skip
    refine hj44 _ _ _ W6 ?_ ?_
    · exact T3  -- t4
    · refine and_5 ?_ (fun o9 => ?_)  -- k5
      · have te : (zI κ_4 hoTotal (zR κ odGroups a0)).toInt = (zI κ hoTotal (zR κ odGroups a0)).toInt := by
          rcases tt with z | z
          · exact z
          · exact absurd (Int32.toInt_inj.mp (by rw [hx1]; exact z.2)) c8
        refine ⟨rfl, S3, ?_, ⟨v0, v1⟩, hs, fun x H => ⟨⟨te, wl.2.1, wr.2.1, wk.2.1⟩, (dd x H).2⟩⟩
        unfold gI9
        rw [eg, te, wl.1, wr.1, wk.1, wl.2.1, wr.2.1, wk.2.1]
        exact gp_m9 (gp_e9 I0 (fun x hx => S3.2.2.2.2.2 x 0 hx) (fun x hx => S3.2.2.2.2.2 x 1 hx)) (by omega) (Int.le_refl _)
      · have te : (zI κ_4 hoTotal (zR κ odGroups a0)).toInt = (zI κ hoTotal (zR κ odGroups a0)).toInt := by
          rcases tt with z | z
          · exact z
          · exact absurd (Int32.toInt_inj.mp (by rw [hx1]; exact z.2)) c8
        refine ⟨?_, Or.inl te⟩
        unfold gr24
        rw [eg, te, wl.1, wr.1, wk.1, wl.2.1, wr.2.1, wk.2.1]
        exact gR_e24 R9 (fun x hx => S3.2.2.2.2.2 x 0 hx) (fun x hx => S3.2.2.2.2.2 x 1 hx)
  · skip
    refine ⟨?_, ?_⟩
    · rw [inb_iff, ea4, wl.2.2, L0.1]; omega  -- b6
    refine ⟨?_, ?_⟩
    · rw [inb_iff, wk.1, wk.2.2, L0.2.2.2.1]; omega  -- b7
    intro κ_9 hκ_9
    intro W10
    have r8 : zR κ_9 = zR κ_4 := by rw [hκ_9]; rfl
    have n8 : zN κ_9 = zN κ_4 := by rw [hκ_9]; rfl
    have o8 : zO κ_9 = zO κ_4 := by rw [hκ_9]; rfl
    refine ⟨?_, ?_⟩
    · rw [inb_iff, n8, ea4, wl.2.2, L0.1]; omega  -- b8
    refine ⟨?_, ?_⟩
    · rw [inb_iff, n8, ea4, wl.2.2, L0.1]; omega  -- b9
    intro κ_11 hκ_11
    intro W12
    have r10 : zR κ_11 = zR κ_4 := by rw [hκ_11]; exact r8
    have n10 : zN κ_11 = zN κ_4 := by rw [hκ_11]; exact n8
    have rv : r3.toInt = (zI κ hoTotal (zR κ odGroups a0)).toInt := by rw [c8, hx1]
    have te : (zI κ_4 hoTotal (zR κ odGroups a0)).toInt = (zI κ hoTotal (zR κ odGroups a0)).toInt + 1 := by
      rcases tt with z | z
      · omega
      · exact z.1
    have ol := W6.o (show zr odLefts = some 20 by decide +kernel) (by decide) T3
    have ok := W6.o (show zr odRanks = some 20 by decide +kernel) (by decide) T3
    rw [wl.1] at ol
    rw [ea4] at hκ_11 hκ_9
    have Z10 : zF (fun f b => b = a0 ∧ (f = odLefts ∨ f = odRights ∨ f = odRanks)) κ_4 κ_11 := by
      have a1 : zF (fun f b => b = a0 ∧ (f = odLefts ∨ f = odRights ∨ f = odRanks)) κ_4 κ_9 := by rw [hκ_9]; exact zF_ua (by rw [ok]; exact ⟨rfl, Or.inr (Or.inr rfl)⟩)
      have a2 : zF (fun f b => b = a0 ∧ (f = odLefts ∨ f = odRights ∨ f = odRanks)) κ_9 κ_11 := by rw [hκ_11]; exact zF_ua (by rw [o8, ol]; exact ⟨rfl, Or.inl rfl⟩)
      exact a1.tr a2
    have U := tb_u9 W6 T3 S3 Z10 r10 n10
    have nrl := od_ow9 W6 T3 (f := odRights) (g := odLefts) (by decide +kernel) (by decide +kernel) (by decide) (by decide) (by decide)
    have nkl := od_ow9 W6 T3 (f := odRanks) (g := odLefts) (by decide +kernel) (by decide +kernel) (by decide) (by decide) (by decide)
    have nkr := od_ow9 W6 T3 (f := odRanks) (g := odRights) (by decide +kernel) (by decide +kernel) (by decide) (by decide) (by decide)
    rw [wr.1, wl.1] at nrl
    rw [wk.1, wl.1] at nkl
    rw [wk.1, wr.1] at nkr
    rw [wk.1] at hκ_9
    have x9 : zA κ_9 (zR κ odLefts a0) = zA κ (zR κ odLefts a0) := by
      rw [hκ_9]
      exact (if_neg (Ne.symm nkl)).trans wl.2.1
    have xl : zA κ_11 (zR κ odLefts a0) = upd (zA κ (zR κ odLefts a0)) a2.toNatClampNeg (zA κ (zR κ odLefts a0) a2.toNatClampNeg + 1) := by
      rw [hκ_11]
      refine (if_pos rfl).trans ?_
      show upd (zA κ_9 (zR κ odLefts a0)) _ (zA κ_9 (zR κ odLefts a0) _ + 1) = _
      rw [x9]
    have xr : zA κ_11 (zR κ odRights a0) = zA κ (zR κ odRights a0) := by
      rw [hκ_11]
      refine (if_neg nrl).trans ?_
      rw [hκ_9]
      exact (if_neg (Ne.symm nkr)).trans wr.2.1
    have xk : zA κ_11 (zR κ odRanks a0) = upd (zA κ (zR κ odRanks a0)) r3.toNatClampNeg (zA κ (zR κ odLefts a0) a2.toNatClampNeg) := by
      rw [hκ_11]
      refine (if_neg nkl).trans ?_
      rw [hκ_9]
      refine (if_pos rfl).trans ?_
      show upd (zA κ_4 (zR κ odRanks a0)) _ (zA κ_4 (zR κ odLefts a0) _) = _
      rw [wk.2.1, wl.2.1]
    refine hj44 _ _ _ W12 ?_ ?_
    · exact Z10.t T3 (by decide)  -- t10
    · refine and_5 ?_ (fun o9 => ?_)  -- k11
      · refine ⟨rfl, U.1, ?_, ⟨v0, by rw [U.2.2.2]; exact v1⟩, (U.2.1 _ _ _).mpr hs, fun x H => ?_⟩
        · unfold gI9
          rw [r10, wl.1, wr.1, wk.1, xl, xr, xk, eg, U.2.2.2, U.2.2.1, te]
          refine gp_l9 I0 rv tM.1 (fun x hx => S3.2.2.2.2.2 x 0 hx) (fun x hx => S3.2.2.2.2.2 x 1 hx) ?_ ?_ t0 t1 tg0 m1
          · exact pV9_k (K := k39 1 a2 a3) v0 hs.1 (by decide) (by decide)
          · exact pV9_k (K := k39 1 a2 a3) v0 hs.1 (by decide) (by decide)
        · have y := (dd x H).1
          omega
      · refine ⟨?_, by unfold nw24; rw [U.2.2.2]; exact Or.inr ⟨te, (U.2.1 _ _ _).mpr (by rw [← rv]; exact hs)⟩⟩
        unfold gr24
        rw [r10, wl.1, wr.1, wk.1, xl, xr, xk, eg, U.2.2.2, U.2.2.1, te]
        refine gR_l24 R9 I0 m1 rv tM.1 (fun x hx => S3.2.2.2.2.2 x 0 hx) (fun x hx => S3.2.2.2.2.2 x 1 hx) ?_ ?_ t0 t1 tg0
        · exact pV9_k (K := k39 1 a2 a3) v0 hs.1 (by decide) (by decide)
        · exact pV9_k (K := k39 1 a2 a3) v0 hs.1 (by decide) (by decide)

end
section
set_option maxHeartbeats 1600000
/-! the class: groups keep their ranks, on the right -/
theorem Od_rankOf2_q6 {C : zC} {n0 : Nat} {a0 : Nat} {a1 : Int32} {a2 : Int32} {a3 : Int32} {a4 : Nat} {κ : zS} {Q : Int32 → zS → Prop} (W : zW C n0 κ) (Ta0 : zT κ a0 = 9) (Ta4 : zT κ a4 = 20) (ml mr : Int) (R9 : gr24 κ a0) (hp : (grI9 κ a0 ∧ tbL9 κ a0 ∧ gI9 κ a0 ml mr) ∧ (ml < 100000 ∧ mr < 100000) ∧ (a1 = 2 ∧ a4 = zR κ odRights a0) ∧ (0 ≤ a2.toInt ∧ a2.toInt < (zI κ hoTotal (zR κ odGroups a0)).toInt ∧ pV9 κ (zR κ odGroups a0) a2 0 = 0) ∧ ((zI κ hoTotal (zR κ odGroups a0)).toInt < 3000 ∨ ∃ x, hkS9 κ (zR κ odGroups a0) 8192 (k39 2 a2 a3) 3 x)) (h : ∀ (v : Int32) (κ' : zS), ((∃ x : Int32, (tbS9 κ κ' a0 ∧ gI9 κ' a0 ml (mr + 1) ∧ (0 ≤ x.toInt ∧ x.toInt < (zI κ' hoTotal (zR κ odGroups a0)).toInt) ∧ hkS9 κ' (zR κ odGroups a0) 8192 (k39 2 a2 a3) 3 x.toNatClampNeg ∧ ∀ y : Nat, hkS9 κ (zR κ odGroups a0) 8192 (k39 2 a2 a3) 3 y → tbN9 κ κ' a0 ∧ x.toInt = (y : Int)) ∧ v = zA κ' (zR κ' odRanks a0) x.toNatClampNeg) ∧ (gr24 κ' a0 ∧ nw24 κ κ' (zR κ odGroups a0) (k39 2 a2 a3))) → Q v κ') : zRun C 4 mOd_rankOf [.ref a0, .int a1, .int a2, .int a3, .ref a4] κ (oI Q noX) := by
  refine Od_rankOf_run W Ta0 Ta4 ?_
  replace W := W.lo (Nat.le_trans W.1.2.1 W.1.2.2) (Nat.le_refl (zn κ))
  unfold w_Od_rankOf_0
  obtain ⟨⟨G0, L0, I0⟩, ⟨m1, m2⟩, ⟨ea1, ea4⟩, ⟨t0, t1, tg0⟩, H5⟩ := hp
  subst ea1
  have tg := ty_odGroups W Ta0
  have ag : a0 ≠ zR κ odGroups a0 := fun z => by rw [← z, Ta0] at tg; exact absurd tg (by decide)
  have tM := G0.1.1.2.1
  have k2 := cnk t0
  have hj44 : ∀ (l0 : Nat) (l6 : Int32) (τ : zS), zW C (zn κ) τ → zT τ l0 = 9 → ((a0 = l0 ∧ tbS9 κ τ a0 ∧ gI9 τ a0 ml (mr + 1) ∧ (0 ≤ l6.toInt ∧ l6.toInt < (zI τ hoTotal (zR κ odGroups a0)).toInt) ∧ hkS9 τ (zR κ odGroups a0) 8192 (k39 2 a2 a3) 3 l6.toNatClampNeg ∧ ∀ y : Nat, hkS9 κ (zR κ odGroups a0) 8192 (k39 2 a2 a3) 3 y → tbN9 κ τ a0 ∧ l6.toInt = (y : Int)) ∧ gr24 τ a0 ∧ nw24 κ τ (zR κ odGroups a0) (k39 2 a2 a3)) → w_Od_rankOf_44 C (zn κ) Q  l0 l6 τ := by
    rintro _ y44_6 τ44 W44 T44_0 ⟨⟨rfl, j44⟩, hE⟩
    unfold w_Od_rankOf_44
    refine ⟨?_, ?_⟩
    · have q := j44.1.2.2.1.1.1.2.1.2
      rw [j44.1.2.1 odGroups (by decide)] at q
      rw [inb_iff, (tb_l9 W Ta0 j44.1 L0).2.2.2.1]
      exact ⟨j44.2.2.1.1, Int.lt_of_lt_of_le j44.2.2.1.2 q⟩
    refine h _ _ ?_
    · refine and_5 ?_ (fun o9 => hE)  -- q2
      exact ⟨y44_6, j44, rfl⟩
  intro x1 hx1
  intro T2
  refine Od_group_c W T2  ?_ (fun r3 κ_4 q5 => ?_)
  · exact ⟨G0, H5⟩  -- p3
  intro W6
  intro M7
  obtain ⟨S3, Z3, ⟨v0, v1⟩, hs, tt, dd⟩ := q5
  have wl := gr_w9 W Ta0 Z3 ag (f := odLefts) (by decide +kernel) (by decide) (by decide)
  have wr := gr_w9 W Ta0 Z3 ag (f := odRights) (by decide +kernel) (by decide) (by decide)
  have wk := gr_w9 W Ta0 Z3 ag (f := odRanks) (by decide +kernel) (by decide) (by decide)
  have eg := S3.2.1 odGroups (by decide)
  have T3 : zT κ_4 a0 = 9 := Z3.t Ta0 (by decide)
  have tM3 := S3.2.2.1.1.1.2.1.2
  rw [eg] at tM3
  refine ⟨fun c8 => ?_, fun c8 => ?_⟩
  · skip
    refine hj44 _ _ _ W6 ?_ ?_
    · exact T3  -- t4
    · refine and_5 ?_ (fun o9 => ?_)  -- k5
      · have te : (zI κ_4 hoTotal (zR κ odGroups a0)).toInt = (zI κ hoTotal (zR κ odGroups a0)).toInt := by
          rcases tt with z | z
          · exact z
          · exact absurd (Int32.toInt_inj.mp (by rw [hx1]; exact z.2)) c8
        refine ⟨rfl, S3, ?_, ⟨v0, v1⟩, hs, fun x H => ⟨⟨te, wl.2.1, wr.2.1, wk.2.1⟩, (dd x H).2⟩⟩
        unfold gI9
        rw [eg, te, wl.1, wr.1, wk.1, wl.2.1, wr.2.1, wk.2.1]
        exact gp_m9 (gp_e9 I0 (fun x hx => S3.2.2.2.2.2 x 0 hx) (fun x hx => S3.2.2.2.2.2 x 1 hx)) (Int.le_refl _) (by omega)
      · have te : (zI κ_4 hoTotal (zR κ odGroups a0)).toInt = (zI κ hoTotal (zR κ odGroups a0)).toInt := by
          rcases tt with z | z
          · exact z
          · exact absurd (Int32.toInt_inj.mp (by rw [hx1]; exact z.2)) c8
        refine ⟨?_, Or.inl te⟩
        unfold gr24
        rw [eg, te, wl.1, wr.1, wk.1, wl.2.1, wr.2.1, wk.2.1]
        exact gR_e24 R9 (fun x hx => S3.2.2.2.2.2 x 0 hx) (fun x hx => S3.2.2.2.2.2 x 1 hx)
  · skip
    refine ⟨?_, ?_⟩
    · rw [inb_iff, ea4, wr.2.2, L0.2.1]; omega  -- b6
    refine ⟨?_, ?_⟩
    · rw [inb_iff, wk.1, wk.2.2, L0.2.2.2.1]; omega  -- b7
    intro κ_9 hκ_9
    intro W10
    have r8 : zR κ_9 = zR κ_4 := by rw [hκ_9]; rfl
    have n8 : zN κ_9 = zN κ_4 := by rw [hκ_9]; rfl
    have o8 : zO κ_9 = zO κ_4 := by rw [hκ_9]; rfl
    refine ⟨?_, ?_⟩
    · rw [inb_iff, n8, ea4, wr.2.2, L0.2.1]; omega  -- b8
    refine ⟨?_, ?_⟩
    · rw [inb_iff, n8, ea4, wr.2.2, L0.2.1]; omega  -- b9
    intro κ_11 hκ_11
    intro W12
    have r10 : zR κ_11 = zR κ_4 := by rw [hκ_11]; exact r8
    have n10 : zN κ_11 = zN κ_4 := by rw [hκ_11]; exact n8
    have rv : r3.toInt = (zI κ hoTotal (zR κ odGroups a0)).toInt := by rw [c8, hx1]
    have te : (zI κ_4 hoTotal (zR κ odGroups a0)).toInt = (zI κ hoTotal (zR κ odGroups a0)).toInt + 1 := by
      rcases tt with z | z
      · omega
      · exact z.1
    have ol := W6.o (show zr odRights = some 20 by decide +kernel) (by decide) T3
    have ok := W6.o (show zr odRanks = some 20 by decide +kernel) (by decide) T3
    rw [wr.1] at ol
    rw [ea4] at hκ_11 hκ_9
    have Z10 : zF (fun f b => b = a0 ∧ (f = odLefts ∨ f = odRights ∨ f = odRanks)) κ_4 κ_11 := by
      have a1 : zF (fun f b => b = a0 ∧ (f = odLefts ∨ f = odRights ∨ f = odRanks)) κ_4 κ_9 := by rw [hκ_9]; exact zF_ua (by rw [ok]; exact ⟨rfl, Or.inr (Or.inr rfl)⟩)
      have a2 : zF (fun f b => b = a0 ∧ (f = odLefts ∨ f = odRights ∨ f = odRanks)) κ_9 κ_11 := by rw [hκ_11]; exact zF_ua (by rw [o8, ol]; exact ⟨rfl, Or.inr (Or.inl rfl)⟩)
      exact a1.tr a2
    have U := tb_u9 W6 T3 S3 Z10 r10 n10
    have nrl := od_ow9 W6 T3 (f := odRights) (g := odLefts) (by decide +kernel) (by decide +kernel) (by decide) (by decide) (by decide)
    have nkl := od_ow9 W6 T3 (f := odRanks) (g := odLefts) (by decide +kernel) (by decide +kernel) (by decide) (by decide) (by decide)
    have nkr := od_ow9 W6 T3 (f := odRanks) (g := odRights) (by decide +kernel) (by decide +kernel) (by decide) (by decide) (by decide)
    rw [wr.1, wl.1] at nrl
    rw [wk.1, wl.1] at nkl
    rw [wk.1, wr.1] at nkr
    rw [wk.1] at hκ_9
    have x9 : zA κ_9 (zR κ odRights a0) = zA κ (zR κ odRights a0) := by
      rw [hκ_9]
      exact (if_neg (Ne.symm nkr)).trans wr.2.1
    have xr : zA κ_11 (zR κ odRights a0) = upd (zA κ (zR κ odRights a0)) a2.toNatClampNeg (zA κ (zR κ odRights a0) a2.toNatClampNeg + 1) := by
      rw [hκ_11]
      refine (if_pos rfl).trans ?_
      show upd (zA κ_9 (zR κ odRights a0)) _ (zA κ_9 (zR κ odRights a0) _ + 1) = _
      rw [x9]
    have xl : zA κ_11 (zR κ odLefts a0) = zA κ (zR κ odLefts a0) := by
      rw [hκ_11]
      refine (if_neg (Ne.symm nrl)).trans ?_
      rw [hκ_9]
      exact (if_neg (Ne.symm nkl)).trans wl.2.1
    have xk : zA κ_11 (zR κ odRanks a0) = upd (zA κ (zR κ odRanks a0)) r3.toNatClampNeg (zA κ (zR κ odRights a0) a2.toNatClampNeg) := by
      rw [hκ_11]
      refine (if_neg nkr).trans ?_
      rw [hκ_9]
      refine (if_pos rfl).trans ?_
      show upd (zA κ_4 (zR κ odRanks a0)) _ (zA κ_4 (zR κ odRights a0) _) = _
      rw [wk.2.1, wr.2.1]
    refine hj44 _ _ _ W12 ?_ ?_
    · exact Z10.t T3 (by decide)  -- t10
    · refine and_5 ?_ (fun o9 => ?_)  -- k11
      · refine ⟨rfl, U.1, ?_, ⟨v0, by rw [U.2.2.2]; exact v1⟩, (U.2.1 _ _ _).mpr hs, fun x H => ?_⟩
        · unfold gI9
          rw [r10, wl.1, wr.1, wk.1, xl, xr, xk, eg, U.2.2.2, U.2.2.1, te]
          refine gp_r9 I0 rv tM.1 (fun x hx => S3.2.2.2.2.2 x 0 hx) (fun x hx => S3.2.2.2.2.2 x 1 hx) ?_ ?_ t0 t1 tg0 m2
          · exact pV9_k (K := k39 2 a2 a3) v0 hs.1 (by decide) (by decide)
          · exact pV9_k (K := k39 2 a2 a3) v0 hs.1 (by decide) (by decide)
        · have y := (dd x H).1
          omega
      · refine ⟨?_, by unfold nw24; rw [U.2.2.2]; exact Or.inr ⟨te, (U.2.1 _ _ _).mpr (by rw [← rv]; exact hs)⟩⟩
        unfold gr24
        rw [r10, wl.1, wr.1, wk.1, xl, xr, xk, eg, U.2.2.2, U.2.2.1, te]
        refine gR_r24 R9 I0 m2 rv tM.1 (fun x hx => S3.2.2.2.2.2 x 0 hx) (fun x hx => S3.2.2.2.2.2 x 1 hx) ?_ ?_ t0 t1 tg0
        · exact pV9_k (K := k39 2 a2 a3) v0 hs.1 (by decide) (by decide)
        · exact pV9_k (K := k39 2 a2 a3) v0 hs.1 (by decide) (by decide)

end
section
set_option maxHeartbeats 1600000
/-! the class: the endings that count -/
def hm24 (κ : zS) (a n e : Nat) : Prop := ∃ (k : Nat) (i : Int32), k < n ∧ (zA κ (zR κ atFirsts (zR κ odAtlas a)) k).toInt ≤ i.toInt ∧ i.toInt < (zA κ (zR κ atFirsts (zR κ odAtlas a)) (k + 1)).toInt ∧ cE9 κ a k i ∧ (zA κ (zR κ atNumbers (zR κ odAtlas a)) i.toNatClampNeg).toNatClampNeg = e
theorem Od_markEndings_q6 {C : zC} {n0 : Nat} {a0 : Nat} {κ : zS} {Q : Int32 → zS → Prop} (W : zW C n0 κ) (Ta0 : zT κ a0 = 9) (ρ : Nat → Nat) (n9 P9 : Nat) (hp : odX9 ρ κ a0 n9 P9 ∧ (zN κ (zR κ odCellOf a0)) = 1000 ∧ (zR κ atStates (zR κ odAtlas a0) ≠ zR κ odGroups a0 ∧ zR κ atEndings (zR κ odAtlas a0) ≠ zR κ odGroups a0)) (h : ∀ (v : Int32) (κ' : zS), (((zF (oneF odCellOf a0) κ κ' ∧ rwE9 κ κ') ∧ (0 ≤ v.toInt ∧ v.toInt ≤ 1000) ∧ (∀ e, e < 1000 → zA κ' (zR κ odCellOf a0) e = -1 ∨ zA κ' (zR κ odCellOf a0) e = 0) ∧ ∀ k i, k < n9 → (zA κ (zR κ atFirsts (zR κ odAtlas a0)) k).toInt ≤ i.toInt → i.toInt < (zA κ (zR κ atFirsts (zR κ odAtlas a0)) (k + 1)).toInt → mkD9 κ κ' a0 k i) ∧ (v.toInt = (cC9 (zA κ' (zR κ odCellOf a0)) 1000 : Int) ∧ ∀ e, e < 1000 → zA κ' (zR κ odCellOf a0) e ≠ -1 → hm24 κ a0 n9 e)) → Q v κ') : zRun C 2 mOd_markEndings [.ref a0] κ (oI Q noX) := by
  refine Od_markEndings_run W Ta0 ?_
  replace W := W.lo (Nat.le_trans W.1.2.1 W.1.2.2) (Nat.le_refl (zn κ))
  unfold w_Od_markEndings_0
  obtain ⟨X0, c1k, hg⟩ := hp
  have A0 := X0.2.2.1.1
  have hn := A0.2.2.1
  have l20 := A0.2.1.2.2
  have nx5 := A0.2.2.2.2.1
  have Tg := ty_odGroups W Ta0
  have eh := X0.2.2.2.2.2
  have lc : zN κ (zR κ odCellOf a0) = 1000 := c1k
  intro T1
  refine Ar_fill_c W T1  (fun κ_2 q3 => ?_)
  have x2 : zA κ_2 (zR κ odCellOf a0) = fun k => if 0 ≤ k ∧ k < 1000 then -1 else zA κ (zR κ odCellOf a0) k := by
    rw [q3, ← lc]
    exact if_pos rfl
  have m2 : ∀ e, e < 1000 → zA κ_2 (zR κ odCellOf a0) e = -1 := fun e he => by
    rw [x2]
    exact if_pos ⟨Nat.zero_le _, he⟩
  have Z2 : zF (oneF odCellOf a0) κ κ_2 := by
    rw [q3]
    exact zF_uf (by rw [W.o (show zr odCellOf = some 20 by decide +kernel) (by decide) Ta0]; exact ⟨rfl, rfl⟩)
  intro W4
  intro M5
  unfold w_Od_markEndings_12
  refine ⟨fun n l0 l1 l2 τ => n = ((n9 : Int) - l2.toInt).toNat ∧ ((a0 = l0 ∧ mkB9 κ τ a0 l1 ∧ (0 ≤ l2.toInt ∧ l2.toInt ≤ n9) ∧ ∀ (k : Nat) (i : Int32), (k : Int) < l2.toInt → (zA κ (zR κ atFirsts (zR κ odAtlas a0)) k).toInt ≤ i.toInt → i.toInt < (zA κ (zR κ atFirsts (zR κ odAtlas a0)) (k + 1)).toInt → mkD9 κ τ a0 k i) ∧ ∀ e, e < 1000 → zA τ (zR κ odCellOf a0) e ≠ -1 → hm24 κ a0 n9 e), ⟨_, rfl, ?_⟩, ?_⟩
  · refine and_5 ?_ (fun o9 => fun e he z => absurd (m2 e he) z)  -- j1
    refine ⟨rfl, ⟨⟨Z2, by rw [q3]; rfl, by rw [q3]; rfl, by rw [q3]; rfl⟩, ?_, fun e he => Or.inl (m2 e he)⟩, ⟨by decide, by rw [t0i]; omega⟩, fun k i hk => by rw [t0i] at hk; omega⟩
    rw [cC_09 1000 m2]
    rfl
  rintro n12 _ x12_1 x12_2 κ12 W12 T12_0 ⟨hn12, ⟨rfl, i12⟩, hE⟩
  obtain ⟨⟨⟨Z1, R1, N1, I1⟩, C1, E1⟩, l2, D1⟩ := i12
  have k2 := cnk l2.1
  obtain ⟨X1, _, _, g1, _⟩ := od_t9 W Ta0 Tg (oneF_t9 (by decide)) Z1 hg.1 hg.2 X0
  have tot1 := X1.2.2.1.1.2.2.2.1
  refine ⟨fun c6 => ?_, fun c6 => ?_⟩
  · skip
    refine h _ _ ?_
    · refine and_5 ?_ (fun o9 => ⟨C1, hE⟩)  -- q2
      rw [lei, tot1] at c6
      have cl := cC_le9 (r := zA κ12 (zR κ odCellOf a0)) 1000
      exact ⟨⟨Z1, R1, N1, I1⟩, ⟨by omega, by omega⟩, E1, fun k i hk => D1 k i (by omega)⟩
  · skip
    rw [lei, tot1] at c6
    have f1 := (g1 atFirsts (by decide))
    obtain ⟨⟨f0, f01, f02⟩, nx, _⟩ := A0.2.2.2.2.2 x12_2.toNatClampNeg (by omega)
    refine ⟨?_, ?_⟩
    · rw [inb_iff, f1.2, A0.1.1]; omega  -- b3
    intro x7 hx7
    unfold w_Od_markEndings_36
    refine ⟨fun n l0 l1 l2 l3 τ => n = ((zA κ (zR κ atFirsts (zR κ odAtlas a0)) (x12_2.toNatClampNeg + 1)).toInt - l3.toInt).toNat ∧ ((a0 = l0 ∧ mkB9 κ τ a0 l1 ∧ (x12_2 = l2 ∧ (zA κ (zR κ atFirsts (zR κ odAtlas a0)) x12_2.toNatClampNeg).toInt ≤ l3.toInt ∧ l3.toInt ≤ (zA κ (zR κ atFirsts (zR κ odAtlas a0)) (x12_2.toNatClampNeg + 1)).toInt) ∧ (∀ (k : Nat) (i : Int32), (k : Int) < x12_2.toInt → (zA κ (zR κ atFirsts (zR κ odAtlas a0)) k).toInt ≤ i.toInt → i.toInt < (zA κ (zR κ atFirsts (zR κ odAtlas a0)) (k + 1)).toInt → mkD9 κ τ a0 k i) ∧ ∀ i : Int32, (zA κ (zR κ atFirsts (zR κ odAtlas a0)) x12_2.toNatClampNeg).toInt ≤ i.toInt → i.toInt < l3.toInt → mkD9 κ τ a0 x12_2.toNatClampNeg i) ∧ ∀ e, e < 1000 → zA τ (zR κ odCellOf a0) e ≠ -1 → hm24 κ a0 n9 e), ⟨_, rfl, ?_⟩, ?_⟩
    · refine and_5 ?_ (fun o9 => hE)  -- j4
      rw [f1.1] at hx7
      refine ⟨rfl, ⟨⟨Z1, R1, N1, I1⟩, C1, E1⟩, ⟨rfl, by rw [hx7]; exact Int.le_refl _, by rw [hx7]; exact f01⟩, D1, fun i h1 h2 => by rw [hx7] at h2; omega⟩
    rintro n36 _ x36_1 x36_2 x36_3 κ36 W36 T36_0 ⟨hn36, ⟨rfl, i36⟩, hE⟩
    obtain ⟨⟨⟨Z3, R3, N3, I3⟩, C3, E3⟩, ⟨rfl, l31, l32⟩, D3, D4⟩ := i36
    obtain ⟨X3, ce3, _, g3, _⟩ := od_t9 W Ta0 Tg (oneF_t9 (by decide)) Z3 hg.1 hg.2 X0
    have k3 := cnk (x := x36_3) (by omega)
    have f3 := (g3 atFirsts (by decide)).1
    have n3 := (g3 atNumbers (by decide))
    have i1 := cn1 (x := x12_2) l2.1 (by omega)
    have ix := cn1 (x := x36_3) (by omega) (by omega)
    refine ⟨?_, ?_⟩
    · rw [inb_iff, i1.2, (g3 atFirsts (by decide)).2, A0.1.1]; omega  -- b5
    refine ⟨fun c8 => ?_, fun c8 => ?_⟩
    · skip
      intro x9 hx9
      refine lp_b5 ?_ (fun d9 => ⟨rfl, ?_⟩)
      · rw [hn12, hx9, i1.2]; omega  -- d6
      · refine and_5 ?_ (fun o9 => hE)  -- i7
        rw [f3, i1.1, lei] at c8
        refine ⟨rfl, ⟨⟨Z3, R3, N3, I3⟩, C3, E3⟩, ⟨by rw [hx9, i1.2]; omega, by rw [hx9, i1.2]; omega⟩, fun k i hk h1 h2 => ?_⟩
        rw [hx9, i1.2] at hk
        by_cases z : k = x12_2.toNatClampNeg
        · rw [z] at h1 h2 ⊢
          exact D4 i h1 (by omega)
        · exact D3 k i (by omega) h1 h2
    · skip
      intro T10
      rw [f3, i1.1, lei] at c8
      have nxi := nx x36_3.toNatClampNeg (by omega) (by omega)
      refine Od_comesToEnd_c W36 T10 ρ n9 P9 ?_ (fun r11 q13 => ?_)
      · exact ⟨X3, ⟨l2.1, by omega⟩, by omega, by rw [n3.2]; omega⟩  -- p8
      intro W14
      intro M15
      have q14 := q13.2.trans (ce3 x12_2.toNatClampNeg x36_3 (by omega))
      refine ⟨fun c16 => ?_, fun c16 => ?_⟩
      · skip
        intro x17 hx17
        refine lp_b5 ?_ (fun d9 => ⟨rfl, ?_⟩)
        · rw [hn36, hx17, ix.2]; omega  -- d9
        · refine and_5 ?_ (fun o9 => hE)  -- i10
          refine ⟨rfl, ⟨⟨Z3, R3, N3, I3⟩, C3, E3⟩, ⟨rfl, by rw [hx17, ix.2]; omega, by rw [hx17, ix.2]; omega⟩, D3, fun i h1 h2 => ?_⟩
          rw [hx17, ix.2] at h2
          by_cases z : i.toInt = x36_3.toInt
          · rw [Int32.toInt_inj.mp z]
            exact fun y => absurd c16 (q14.mpr y)
          · exact D4 i h1 (by omega)
      · skip
        have ce := q14.mp c16
        have s1 : zA κ (zR κ atSorts (zR κ odAtlas a0)) x36_3.toNatClampNeg = 1 := ce.1
        have nb3 := nxi.2.1 s1
        have ke := cnk nb3.1
        have eM := eh.2.1.2
        have ec : zR κ36 odCellOf a0 = zR κ odCellOf a0 := by rw [R3]
        refine ⟨?_, ?_⟩
        · rw [inb_iff, n3.2]; omega  -- b11
        refine ⟨?_, ?_⟩
        · rw [n3.1, inb_iff, ec, N3, lc]; omega  -- b12
        refine ⟨fun c18 => ?_, fun c18 => ?_⟩
        · skip
          intro x19 hx19
          refine lp_b5 ?_ (fun d9 => ⟨rfl, ?_⟩)
          · rw [hn36, hx19, ix.2]; omega  -- d13
          · refine and_5 ?_ (fun o9 => hE)  -- i14
            rw [n3.1, ec] at c18
            refine ⟨rfl, ⟨⟨Z3, R3, N3, I3⟩, C3, E3⟩, ⟨rfl, by rw [hx19, ix.2]; omega, by rw [hx19, ix.2]; omega⟩, D3, fun i h1 h2 => ?_⟩
            rw [hx19, ix.2] at h2
            by_cases z : i.toInt = x36_3.toInt
            · rw [Int32.toInt_inj.mp z]
              exact fun _ => c18
            · exact D4 i h1 (by omega)
        · skip
          rw [n3.1, ec] at c18
          refine ⟨?_, ?_⟩
          · rw [inb_iff, n3.2]; omega  -- b15
          refine ⟨?_, ?_⟩
          · rw [n3.1, inb_iff, ec, N3, lc]; omega  -- b16
          intro κ_20 hκ_20
          intro W21
          intro x22 hx22
          intro x23 hx23
          rw [n3.1, ec] at hκ_20
          have x20 : zA κ_20 (zR κ odCellOf a0) = upd (zA κ36 (zR κ odCellOf a0)) (zA κ (zR κ atNumbers (zR κ odAtlas a0)) x36_3.toNatClampNeg).toNatClampNeg 0 := by
            rw [hκ_20]
            exact if_pos rfl
          have o36 := W36.o (show zr odCellOf = some 20 by decide +kernel) (by decide) T36_0
          rw [ec] at o36
          have Z20 : zF (oneF odCellOf a0) κ κ_20 := Z3.tr (by rw [hκ_20]; exact zF_ua (by rw [o36]; exact ⟨rfl, rfl⟩))
          have cu := cC_u9 (x := 0) c18 (by decide) 1000 (show (zA κ (zR κ atNumbers (zR κ odAtlas a0)) x36_3.toNatClampNeg).toNatClampNeg < 1000 by omega)
          have cl := cC_le9 (r := zA κ_20 (zR κ odCellOf a0)) 1000
          rw [x20, cu] at cl
          have m1 := cn1 (x := x36_1) (by omega) (by omega)
          have kp : ∀ k i, mkD9 κ κ36 a0 k i → mkD9 κ κ_20 a0 k i := fun k i d y => by
            rw [x20]
            unfold upd
            split
            · decide
            · exact d y
          refine lp_b5 ?_ (fun d9 => ⟨rfl, ?_⟩)
          · rw [hn36, hx23, ix.2]; omega  -- d17
          · refine and_5 ?_ (fun o9 => ?_)  -- i18
            · refine ⟨rfl, ⟨⟨Z20, by rw [hκ_20]; exact R3, by rw [hκ_20]; exact N3, by rw [hκ_20]; exact I3⟩, ?_, fun e he => ?_⟩, ⟨rfl, by rw [hx23, ix.2]; omega, by rw [hx23, ix.2]; omega⟩, fun k i hk h1 h2 => kp k i (D3 k i hk h1 h2), fun i h1 h2 => ?_⟩
              · rw [hx22, m1.2, x20, cu]
                omega
              · rw [x20]
                unfold upd
                split
                · exact Or.inr rfl
                · exact E3 e he
              · rw [hx23, ix.2] at h2
                by_cases z : i.toInt = x36_3.toInt
                · rw [Int32.toInt_inj.mp z]
                  intro _
                  rw [x20]
                  unfold upd
                  rw [if_pos rfl]
                  decide
                · exact kp _ i (D4 i h1 (by omega))
            · intro e he z
              rw [x20] at z
              by_cases c : e = (zA κ (zR κ atNumbers (zR κ odAtlas a0)) x36_3.toNatClampNeg).toNatClampNeg
              · exact ⟨x12_2.toNatClampNeg, x36_3, by omega, l31, by omega, ce, c.symm⟩
              · rw [upd_ne c] at z
                exact hE e he z

end
section
set_option maxHeartbeats 1600000
/-! the class: where tables stand -/
def bt24 (κ : zS) (a x : Nat) : Int := if pV9 κ (zR κ odGroups a) (Int32.ofNat x) 0 = 0 then (zA κ (zR κ odLefts a) x).toInt * (zA κ (zR κ odRights a) x).toInt else 0
theorem on_24 {x : Int32} (h : 0 ≤ x.toInt) (l : x.toInt < 60000000) : Int32.ofNat x.toNatClampNeg = x := by
  have k := cnk h
  exact Int32.toInt_inj.mp (by rw [ofn_i (by omega)]; omega)
theorem sI_m24 {f : Nat → Int} {k : Nat} : ∀ {n : Nat}, k ≤ n → (∀ i, i < n → 0 ≤ f i) → sI f k ≤ sI f n := by
  intro n
  induction n with
  | zero => intro h _; rw [Nat.le_zero.mp h]; exact Int.le_refl _
  | succ n ih =>
    intro h p
    by_cases c : k = n + 1
    · rw [c]; exact Int.le_refl _
    · have a := ih (by omega) (fun i hi => p i (by omega))
      have b := p n (by omega)
      have e : sI f (n + 1) = sI f n + f n := rfl
      omega
theorem bt_n24 {κ : zS} {a x : Nat} {ml mr : Int} (I : gI9 κ a ml mr) (hx : (x : Int) < (zI κ hoTotal (zR κ odGroups a)).toInt) (ht : (zI κ hoTotal (zR κ odGroups a)).toInt ≤ 3000) : 0 ≤ bt24 κ a x := by
  unfold bt24
  split
  · rename_i z
    have e : (Int32.ofNat x).toInt = (x : Int) := ofn_i (by omega)
    have k : (Int32.ofNat x).toNatClampNeg = x := cl_5 (by omega)
    obtain ⟨⟨⟨a1, _⟩, b1, _⟩, _⟩ := And.intro ((I (Int32.ofNat x) (by omega) (by omega)).1 z) trivial
    rw [k] at a1 b1
    exact Int.mul_nonneg a1 b1
  · exact Int.le_refl _
theorem Od_placeTables_q6 {C : zC} {n0 : Nat} {a0 : Nat} {a1 : Int32} {κ : zS} {Q : Int32 → zS → Prop} (W : zW C n0 κ) (Ta0 : zT κ a0 = 9)  (hp : (grI9 κ a0 ∧ tbL9 κ a0 ∧ gI9 κ a0 1000 1000) ∧ (0 ≤ a1.toInt ∧ a1.toInt ≤ 1000)) (h : ∀ (v : Int32) (κ' : zS), (((zF (oneF odBases a0) κ κ' ∧ rwE9 κ κ') ∧ 0 ≤ v.toInt ∧ (v.toInt ≤ a1.toInt → plC9 κ κ' a0 ((zI κ hoTotal (zR κ odGroups a0)).toInt) v.toInt)) ∧ ((v.toInt ≤ a1.toInt → v.toInt = sI (bt24 κ a0) (zI κ hoTotal (zR κ odGroups a0)).toInt.toNat ∧ ∀ x : Int32, 0 ≤ x.toInt → x.toInt < (zI κ hoTotal (zR κ odGroups a0)).toInt → pV9 κ (zR κ odGroups a0) x 0 = 0 → (zA κ' (zR κ odBases a0) x.toNatClampNeg).toInt = sI (bt24 κ a0) x.toNatClampNeg) ∧ (a1.toInt < v.toInt → a1.toInt < sI (bt24 κ a0) (zI κ hoTotal (zR κ odGroups a0)).toInt.toNat))) → Q v κ') : zRun C 2 mOd_placeTables [.ref a0, .int a1] κ (oI Q noX) := by
  refine Od_placeTables_run W Ta0 ?_
  replace W := W.lo (Nat.le_trans W.1.2.1 W.1.2.2) (Nat.le_refl (zn κ))
  unfold w_Od_placeTables_0
  obtain ⟨⟨G0, L0, I0⟩, p0, p1⟩ := hp
  have Tg := ty_odGroups W Ta0
  have tM := G0.1.1.2.1
  unfold w_Od_placeTables_4
  refine ⟨fun n l0 l1 l2 l3 τ => n = ((zI κ hoTotal (zR κ odGroups a0)).toInt - l3.toInt).toNat ∧ ((a0 = l0 ∧ a1 = l1 ∧ (zF (oneF odBases a0) κ τ ∧ rwE9 κ τ) ∧ (0 ≤ l2.toInt ∧ l2.toInt ≤ 1001000) ∧ (0 ≤ l3.toInt ∧ l3.toInt ≤ (zI κ hoTotal (zR κ odGroups a0)).toInt) ∧ plC9 κ τ a0 l3.toInt l2.toInt) ∧ l2.toInt = sI (bt24 κ a0) l3.toNatClampNeg ∧ ∀ x : Int32, 0 ≤ x.toInt → x.toInt < l3.toInt → pV9 κ (zR κ odGroups a0) x 0 = 0 → (zA τ (zR κ odBases a0) x.toNatClampNeg).toInt = sI (bt24 κ a0) x.toNatClampNeg), ⟨_, rfl, ?_⟩, ?_⟩
  · refine and_5 ?_ (fun o9 => ⟨rfl, fun x x0 x1 => by rw [t0i] at x1; omega⟩)  -- j1
    exact ⟨rfl, rfl, ⟨zF.rf, rfl, rfl, rfl⟩, by decide, ⟨by decide, by rw [t0i]; exact tM.1⟩, fun x x0 x1 => by rw [t0i] at x1; omega⟩
  rintro n4 _ _ x4_2 x4_3 κ4 W4 T4_0 ⟨hn4, ⟨rfl, rfl, i4⟩, hE⟩
  obtain ⟨⟨Z1, R1, N1, I1⟩, l2, l3, D1⟩ := i4
  have k3 := cnk l3.1
  have V1 := ho_t9 W Tg Z1 (fun f b z => by rw [z.1]; decide)
  have wl := Z1.row W (f := odLefts) (t := 20) (by decide +kernel) (by decide) Ta0 (fun z => absurd z.1 (by decide))
  have wr := Z1.row W (f := odRights) (t := 20) (by decide +kernel) (by decide) Ta0 (fun z => absurd z.1 (by decide))
  rw [R1] at wl wr
  refine ⟨fun c1 => ?_, fun c1 => ?_⟩
  · skip
    refine h _ _ ?_
    · refine and_5 ?_ (fun o9 => ?_)  -- q2
      · rw [lei, R1, V1.2.2.2.1] at c1
        exact ⟨⟨Z1, R1, N1, I1⟩, l2.1, fun _ x x0 x1 => D1 x x0 (by omega)⟩
      · rw [lei, R1, V1.2.2.2.1] at c1
        have tt : (zI κ hoTotal (zR κ odGroups a0)).toInt.toNat = x4_3.toNatClampNeg := by omega
        rw [tt]
        exact ⟨fun _ => ⟨hE.1, fun x x0 x1 => hE.2 x x0 (by omega)⟩, fun z => by rw [← hE.1]; exact z⟩
  · skip
    rw [lei, R1, V1.2.2.2.1] at c1
    refine ⟨fun c2 => ?_, fun c2 => ?_⟩
    · skip
      refine h _ _ ?_
      · refine and_5 ?_ (fun o9 => ?_)  -- q3
        · rw [lti] at c2
          exact ⟨⟨Z1, R1, N1, I1⟩, l2.1, fun z => by omega⟩
        · rw [lti] at c2
          refine ⟨fun z => by omega, fun _ => ?_⟩
          have m := sI_m24 (f := bt24 κ a0) (k := x4_3.toNatClampNeg) (n := (zI κ hoTotal (zR κ odGroups a0)).toInt.toNat) (by omega) (fun i hi => bt_n24 I0 (by omega) tM.2)
          have := hE.1
          omega
    · skip
      intro T3
      rw [lti] at c2
      have ix := cn1 (x := x4_3) l3.1 (by omega)
      refine Ho_part_c2 W4 T3 3000 3 8192 ?_ (fun r4 q6 => ?_)
      · rw [R1]
        exact ⟨V1.2.2.2.2 _ _ _ G0.1.1, Or.inr (Or.inr ⟨rfl, rfl, rfl⟩)⟩
      intro W7
      intro M8
      rw [R1, V1.2.2.1] at q6
      refine ⟨fun c9 => ?_, fun c9 => ?_⟩
      · skip
        intro x10 hx10
        refine lp_b5 ?_ (fun d9 => ⟨rfl, ?_⟩)
        · rw [hn4, hx10, ix.2]; omega  -- d5
        · refine and_5 ?_ (fun o9 => ?_)  -- i6
          · refine ⟨rfl, rfl, ⟨Z1, R1, N1, I1⟩, l2, ⟨by rw [hx10, ix.2]; omega, by rw [hx10, ix.2]; omega⟩, fun x x0 x1 xt => ?_⟩
            rw [hx10, ix.2] at x1
            by_cases z : x.toInt = x4_3.toInt
            · rw [Int32.toInt_inj.mp z] at xt
              rw [xt] at q6
              exact absurd q6 c9
            · exact D1 x x0 (by omega) xt
          · have b0 : bt24 κ a0 x4_3.toNatClampNeg = 0 := by
              unfold bt24
              rw [on_24 l3.1 (by omega), if_neg (by rw [← q6]; exact c9)]
            have ek : x10.toNatClampNeg = x4_3.toNatClampNeg + 1 := by rw [hx10]; exact ix.1
            refine ⟨?_, fun x x0 x1 xt => ?_⟩
            · rw [ek]
              have e : sI (bt24 κ a0) (x4_3.toNatClampNeg + 1) = sI (bt24 κ a0) x4_3.toNatClampNeg + bt24 κ a0 x4_3.toNatClampNeg := rfl
              have := hE.1
              omega
            · rw [hx10, ix.2] at x1
              by_cases z : x.toInt = x4_3.toInt
              · rw [Int32.toInt_inj.mp z] at xt
                exact absurd (q6.trans xt) c9
              · exact hE.2 x x0 (by omega) xt
      · skip
        refine ⟨?_, ?_⟩
        · rw [inb_iff, R1, N1, L0.2.2.1]; omega  -- b7
        intro κ_11 hκ_11
        intro W12
        rw [R1] at hκ_11
        have r11 : zR κ_11 = zR κ := by rw [hκ_11]; exact R1
        have n11 : zN κ_11 = zN κ := by rw [hκ_11]; exact N1
        have nlb := od_ow9 W Ta0 (f := odLefts) (g := odBases) (by decide +kernel) (by decide +kernel) (by decide) (by decide) (by decide)
        have nrb := od_ow9 W Ta0 (f := odRights) (g := odBases) (by decide +kernel) (by decide +kernel) (by decide) (by decide) (by decide)
        have xl : zA κ_11 (zR κ odLefts a0) = zA κ (zR κ odLefts a0) := by
          rw [hκ_11]
          exact (if_neg nlb).trans wl.1
        have xr : zA κ_11 (zR κ odRights a0) = zA κ (zR κ odRights a0) := by
          rw [hκ_11]
          exact (if_neg nrb).trans wr.1
        have xb : zA κ_11 (zR κ odBases a0) = upd (zA κ4 (zR κ odBases a0)) x4_3.toNatClampNeg x4_2 := by
          rw [hκ_11]
          exact if_pos rfl
        have tag : pV9 κ (zR κ odGroups a0) x4_3 0 = 0 := by rw [← q6]; exact c9
        obtain ⟨⟨a1l, a2l⟩, a1r, a2r⟩ := (I0 x4_3 l3.1 (by omega)).1 tag
        have pp := pr_9 a1l a2l a1r a2r
        refine ⟨?_, ?_⟩
        · rw [inb_iff, r11, n11, L0.1]; omega  -- b8
        refine ⟨?_, ?_⟩
        · rw [inb_iff, r11, n11, L0.2.1]; omega  -- b9
        intro x13 hx13
        intro x14 hx14
        rw [r11, xl, xr] at hx13
        have em : (zA κ (zR κ odLefts a0) x4_3.toNatClampNeg * zA κ (zR κ odRights a0) x4_3.toNatClampNeg).toInt = (zA κ (zR κ odLefts a0) x4_3.toNatClampNeg).toInt * (zA κ (zR κ odRights a0) x4_3.toNatClampNeg).toInt := mul_i (by omega) (by omega)
        have ea : x13.toInt = x4_2.toInt + (zA κ (zR κ odLefts a0) x4_3.toNatClampNeg).toInt * (zA κ (zR κ odRights a0) x4_3.toNatClampNeg).toInt := by rw [hx13, add_i (by rw [em]; omega) (by rw [em]; omega), em]
        have o4 := W4.o (show zr odBases = some 20 by decide +kernel) (by decide) T4_0
        rw [R1] at o4
        have Z11 : zF (oneF odBases a0) κ κ_11 := Z1.tr (by rw [hκ_11]; exact zF_ua (by rw [o4]; exact ⟨rfl, rfl⟩))
        refine lp_b5 ?_ (fun d9 => ⟨rfl, ?_⟩)
        · rw [hn4, hx14, ix.2]; omega  -- d10
        · refine and_5 ?_ (fun o9 => ?_)  -- i11
          · refine ⟨rfl, rfl, ⟨Z11, r11, n11, by rw [hκ_11]; exact I1⟩, ⟨by rw [ea]; omega, by rw [ea]; omega⟩, ⟨by rw [hx14, ix.2]; omega, by rw [hx14, ix.2]; omega⟩, fun x x0 x1 xt => ?_⟩
            rw [hx14, ix.2] at x1
            rw [xb, ea]
            unfold upd
            have kx := cnk x0
            by_cases z : x.toInt = x4_3.toInt
            · rw [Int32.toInt_inj.mp z, if_pos rfl]
              exact ⟨l2.1, Int.le_refl _⟩
            · rw [if_neg (by omega)]
              have d := D1 x x0 (by omega) xt
              exact ⟨d.1, by omega⟩
          · have b0 : bt24 κ a0 x4_3.toNatClampNeg = (zA κ (zR κ odLefts a0) x4_3.toNatClampNeg).toInt * (zA κ (zR κ odRights a0) x4_3.toNatClampNeg).toInt := by
              unfold bt24
              rw [on_24 l3.1 (by omega), if_pos tag]
            have ek : x14.toNatClampNeg = x4_3.toNatClampNeg + 1 := by rw [hx14]; exact ix.1
            refine ⟨?_, fun x x0 x1 xt => ?_⟩
            · rw [ek]
              have e : sI (bt24 κ a0) (x4_3.toNatClampNeg + 1) = sI (bt24 κ a0) x4_3.toNatClampNeg + bt24 κ a0 x4_3.toNatClampNeg := rfl
              have := hE.1
              omega
            · rw [hx14, ix.2] at x1
              rw [xb]
              have kx := cnk x0
              by_cases z : x.toInt = x4_3.toInt
              · rw [Int32.toInt_inj.mp z, upd_eq]
                exact hE.1
              · rw [upd_ne (by omega)]
                exact hE.2 x x0 (by omega) xt

end
section
set_option maxHeartbeats 1600000
/-! the class: cells' nexts, linked in their order -/
def cx24 (κ : zS) (a : Nat) (x : Int32) : Int32 := zA κ (zR κ odCellOf a) (zA κ (zR κ atNumbers (zR κ odAtlas a)) x.toNatClampNeg).toNatClampNeg
def lx24 (κ τ : zS) (a n : Nat) (b : Int) : Prop := (∀ c, c < 1000 → (∀ x, lkN9 κ a n x → b ≤ x.toInt → (cx24 κ a x).toNatClampNeg = c → zA τ (zR κ odHeads a) c ≠ -1 ∧ (zA τ (zR κ odHeads a) c).toInt ≤ x.toInt) ∧ (zA τ (zR κ odHeads a) c ≠ -1 → (cx24 κ a (zA τ (zR κ odHeads a) c)).toNatClampNeg = c)) ∧ ∀ x, lkN9 κ a n x → b ≤ x.toInt → (∀ y, lkN9 κ a n y → x.toInt < y.toInt → cx24 κ a y = cx24 κ a x → zA τ (zR κ odLinks a) x.toNatClampNeg ≠ -1 ∧ (zA τ (zR κ odLinks a) x.toNatClampNeg).toInt ≤ y.toInt) ∧ (zA τ (zR κ odLinks a) x.toNatClampNeg ≠ -1 → (cx24 κ a (zA τ (zR κ odLinks a) x.toNatClampNeg)).toNatClampNeg = (cx24 κ a x).toNatClampNeg)
theorem lx_m24 {κ τ : zS} {a n : Nat} {b b' : Int} (h : lx24 κ τ a n b) (m : ∀ x, lkN9 κ a n x → b' ≤ x.toInt → b ≤ x.toInt) : lx24 κ τ a n b' := ⟨fun c hc => ⟨fun x hx hb => (h.1 c hc).1 x hx (m x hx hb), (h.1 c hc).2⟩, fun x hx hb => h.2 x hx (m x hx hb)⟩
theorem Od_linkCells_q6 {C : zC} {n0 : Nat} {a0 : Nat} {a1 : Int32} {κ : zS} {Q : Int32 → zS → Prop} (W : zW C n0 κ) (Ta0 : zT κ a0 = 9) (ρ : Nat → Nat) (n9 P9 : Nat) (hp : (odX9 ρ κ a0 n9 P9 ∧ tbL9 κ a0 ∧ (zR κ atStates (zR κ odAtlas a0) ≠ zR κ odGroups a0 ∧ zR κ atEndings (zR κ odAtlas a0) ≠ zR κ odGroups a0)) ∧ ((zI κ atNexts (zR κ odAtlas a0)).toInt ≤ (zN κ (zR κ odLinks a0)) ∧ a1.toInt ≤ 1000) ∧ ∀ k i, k < n9 → (zA κ (zR κ atFirsts (zR κ odAtlas a0)) k).toInt ≤ i.toInt → i.toInt < (zA κ (zR κ atFirsts (zR κ odAtlas a0)) (k + 1)).toInt → cE9 κ a0 k i → 0 ≤ (zA κ (zR κ odCellOf a0) (zA κ (zR κ atNumbers (zR κ odAtlas a0)) i.toNatClampNeg).toNatClampNeg).toInt ∧ (zA κ (zR κ odCellOf a0) (zA κ (zR κ atNumbers (zR κ odAtlas a0)) i.toNatClampNeg).toNatClampNeg).toInt < a1.toInt) (h : ∀ (v : Int32) (κ' : zS), ((nb v ∧ (zF (hlF9 a0) κ κ' ∧ rwE9 κ κ') ∧ lkB9 κ κ' a0 n9 0) ∧ (lx24 κ κ' a0 n9 0 ∧ (v ≠ 0 ↔ ∀ c : Nat, (c : Int) < a1.toInt → zA κ' (zR κ odHeads a0) c ≠ -1))) → Q v κ') : zRun C 2 mOd_linkCells [.ref a0, .int a1] κ (oI Q noX) := by
  refine Od_linkCells_run W Ta0 ?_
  replace W := W.lo (Nat.le_trans W.1.2.1 W.1.2.2) (Nat.le_refl (zn κ))
  unfold w_Od_linkCells_0
  obtain ⟨⟨X0, L0, hg⟩, ⟨nl, c10⟩, cc⟩ := hp
  have A0 := X0.2.2.1.1
  have hn := A0.2.2.1
  have l20k := A0.2.1.2.2
  have nx5 := A0.2.2.2.2.1
  have tot := A0.2.2.2.1
  have Tg := ty_odGroups W Ta0
  have eh := X0.2.2.2.2.2
  have lh : zN κ (zR κ odHeads a0) = 1000 := L0.2.2.2.2.2.1
  have nhl := od_ow9 W Ta0 (f := odHeads) (g := odLinks) (by decide +kernel) (by decide +kernel) (by decide) (by decide) (by decide)
  intro T1
  refine Ar_fill_c W T1  (fun κ_2 q3 => ?_)
  have x2 : zA κ_2 (zR κ odHeads a0) = fun k => if 0 ≤ k ∧ k < 1000 then -1 else zA κ (zR κ odHeads a0) k := by
    rw [q3, ← lh]
    exact if_pos rfl
  have Z2 : zF (hlF9 a0) κ κ_2 := by
    rw [q3]
    exact zF_uf (by rw [W.o (show zr odHeads = some 20 by decide +kernel) (by decide) Ta0]; exact ⟨rfl, Or.inl rfl⟩)
  have R2 : zR κ_2 = zR κ := by rw [q3]; rfl
  have N2 : zN κ_2 = zN κ := by rw [q3]; rfl
  have I2 : zI κ_2 = zI κ := by rw [q3]; rfl
  intro W4
  intro M5
  intro x6 hx6
  unfold w_Od_linkCells_21
  refine ⟨fun n l0 l1 l2 τ => n = (l2.toInt + 1).toNat ∧ ((a0 = l0 ∧ a1 = l1 ∧ (zF (hlF9 a0) κ τ ∧ rwE9 κ τ) ∧ (-1 ≤ l2.toInt ∧ l2.toInt < n9) ∧ lkB9 κ τ a0 n9 ((zA κ (zR κ atFirsts (zR κ odAtlas a0)) (l2.toInt + 1).toNat).toInt)) ∧ lx24 κ τ a0 n9 (zA κ (zR κ atFirsts (zR κ odAtlas a0)) (l2.toInt + 1).toNat).toInt), ⟨_, rfl, ?_⟩, ?_⟩
  · refine and_5 ?_ (fun o9 => ?_)  -- j1
    · rw [R2, I2] at hx6
      have ex : x6.toInt = (n9 : Int) - 1 := by
        rw [hx6, sub_i (by rw [tot, t1i]; omega) (by rw [tot, t1i]; omega), tot, t1i]
      refine ⟨rfl, rfl, ⟨Z2, R2, N2, I2⟩, ⟨by omega, by omega⟩, fun c hc => Or.inl ?_, fun x hx hb => ?_⟩
      · rw [x2]
        exact if_pos ⟨Nat.zero_le _, hc⟩
      · obtain ⟨k, h1, h2, h3, _⟩ := hx
        rw [ex, show ((n9 : Int) - 1 + 1).toNat = n9 by omega] at hb
        have q := fm_9 A0 n9 (k + 1) (by omega) (Nat.le_refl _)
        omega
    · rw [R2, I2] at hx6
      have ex : x6.toInt = (n9 : Int) - 1 := by
        rw [hx6, sub_i (by rw [tot, t1i]; omega) (by rw [tot, t1i]; omega), tot, t1i]
      have no : ∀ x, lkN9 κ a0 n9 x → ¬ (zA κ (zR κ atFirsts (zR κ odAtlas a0)) (x6.toInt + 1).toNat).toInt ≤ x.toInt := fun x hx hb => by
        obtain ⟨k, h1, h2, h3, _⟩ := hx
        rw [ex, show ((n9 : Int) - 1 + 1).toNat = n9 by omega] at hb
        have q := fm_9 A0 n9 (k + 1) (by omega) (Nat.le_refl _)
        omega
      refine ⟨fun c hc => ⟨fun x hx hb => absurd hb (no x hx), fun z => absurd ?_ z⟩, fun x hx hb => absurd hb (no x hx)⟩
      rw [x2]
      exact if_pos ⟨Nat.zero_le _, hc⟩
  rintro n21 _ _ x21_2 κ21 W21 T21_0 ⟨hn21, ⟨rfl, rfl, i21⟩, hE⟩
  obtain ⟨⟨Z1, R1, N1, I1⟩, l2, D1⟩ := i21
  obtain ⟨X1, _, _, g1, _⟩ := od_t9 W Ta0 Tg hlF9_t Z1 hg.1 hg.2 X0
  refine ⟨fun c7 => ?_, fun c7 => ?_⟩
  · skip
    unfold w_Od_linkCells_112
    refine ⟨fun n l0 l1 l2 τ => n = (l1.toInt - l2.toInt).toNat ∧ ((a0 = l0 ∧ a1 = l1 ∧ (zF (hlF9 a0) κ τ ∧ rwE9 κ τ) ∧ 0 ≤ l2.toInt ∧ lkB9 κ τ a0 n9 0) ∧ lx24 κ τ a0 n9 0 ∧ ∀ c : Nat, (c : Int) < l2.toInt → zA τ (zR κ odHeads a0) c ≠ -1), ⟨_, rfl, ?_⟩, ?_⟩
    · refine and_5 ?_ (fun o9 => ?_)  -- j2
      · rw [lti, t0i] at c7
        rw [show (x21_2.toInt + 1).toNat = 0 by omega] at D1
        refine ⟨rfl, rfl, ⟨Z1, R1, N1, I1⟩, by decide, fun c hc => ?_, fun x hx _ => ?_⟩
        · rcases D1.1 c hc with y | y
          · exact Or.inl y
          · obtain ⟨k, h1, h2, _⟩ := y.1
            have f0 := (A0.2.2.2.2.2 k h1).1.1
            exact Or.inr ⟨y.1, by omega⟩
        · have hx' := hx
          obtain ⟨k, h1, h2, _⟩ := hx'
          have q := fm_9 A0 k 0 (by omega) (by omega)
          exact D1.2 x hx (by omega)
      · rw [lti, t0i] at c7
        rw [show (x21_2.toInt + 1).toNat = 0 by omega] at hE
        refine ⟨lx_m24 hE (fun x hx _ => ?_), fun c hc => by rw [t0i] at hc; omega⟩
        obtain ⟨k, h1, h2, _⟩ := hx
        have q := fm_9 A0 k 0 (by omega) (by omega)
        omega
    rintro n112 _ _ x112_2 κ112 W112 T112_0 ⟨hn112, ⟨rfl, rfl, i112⟩, hE⟩
    obtain ⟨⟨Z2, R2, N2, I2⟩, l20, D2⟩ := i112
    refine ⟨fun c8 => ?_, fun c8 => ?_⟩
    · skip
      refine h _ _ ?_
      · refine and_5 ?_ (fun o9 => ?_)  -- q3
        · exact ⟨nb_1, ⟨Z2, R2, N2, I2⟩, D2⟩
        · refine ⟨hE.1, fun _ c hc => hE.2 c ?_, fun _ => by decide⟩
          rw [lei] at c8
          omega
    · skip
      rw [lei] at c8
      have ix := cn1 (x := x112_2) l20 (by omega)
      refine ⟨?_, ?_⟩
      · rw [inb_iff, R2, N2, lh]; omega  -- b4
      refine ⟨fun c9 => ?_, fun c9 => ?_⟩
      · skip
        intro x10 hx10
        refine lp_b5 ?_ (fun d9 => ⟨rfl, ?_⟩)
        · rw [hn112, hx10, ix.2]; omega  -- d5
        · refine and_5 ?_ (fun o9 => ?_)  -- i6
          · exact ⟨rfl, rfl, ⟨Z2, R2, N2, I2⟩, by rw [hx10, ix.2]; omega, D2⟩
          · have ix := cn1 (x := x112_2) l20 (by omega)
            have kk := cnk l20
            refine ⟨hE.1, fun c hc => ?_⟩
            rw [hx10, ix.2] at hc
            by_cases z : c = x112_2.toNatClampNeg
            · rw [z, ← R2]
              exact c9
            · exact hE.2 c (by omega)
      · skip
        refine h _ _ ?_
        · refine and_5 ?_ (fun o9 => ?_)  -- q7
          · exact ⟨nb_0, ⟨Z2, R2, N2, I2⟩, D2⟩
          · have kk := cnk l20
            refine ⟨hE.1, fun z => absurd rfl z, fun z => absurd ?_ (z x112_2.toNatClampNeg (by omega))⟩
            rw [← R2]
            first | exact c9 | exact Classical.not_not.mp c9
  · skip
    rw [lti, t0i] at c7
    have k2 := cnk (x := x21_2) (by omega)
    have i1 := cn1 (x := x21_2) (by omega) (by omega)
    have f1 := g1 atFirsts (by decide)
    have hk9 : x21_2.toNatClampNeg < n9 := by omega
    obtain ⟨⟨f0, f01, f02⟩, nx, -⟩ := A0.2.2.2.2.2 x21_2.toNatClampNeg hk9
    rw [show (x21_2.toInt + 1).toNat = x21_2.toNatClampNeg + 1 by omega] at D1
    refine ⟨?_, ?_⟩
    · rw [inb_iff, i1.2, f1.2, A0.1.1]; omega  -- b8
    intro x11 hx11
    unfold w_Od_linkCells_39
    refine ⟨fun n l0 l1 l2 l3 τ => n = (l3.toInt + 1).toNat ∧ ((a0 = l0 ∧ a1 = l1 ∧ (zF (hlF9 a0) κ τ ∧ rwE9 κ τ) ∧ (x21_2 = l2 ∧ (zA κ (zR κ atFirsts (zR κ odAtlas a0)) x21_2.toNatClampNeg).toInt - 1 ≤ l3.toInt ∧ l3.toInt < (zA κ (zR κ atFirsts (zR κ odAtlas a0)) (x21_2.toNatClampNeg + 1)).toInt) ∧ lkB9 κ τ a0 n9 (l3.toInt + 1)) ∧ lx24 κ τ a0 n9 (l3.toInt + 1)), ⟨_, rfl, ?_⟩, ?_⟩
    · refine and_5 ?_ (fun o9 => ?_)  -- j9
      · rw [f1.1, i1.1] at hx11
        have ex : x11.toInt = (zA κ (zR κ atFirsts (zR κ odAtlas a0)) (x21_2.toNatClampNeg + 1)).toInt - 1 := by
          rw [hx11, sub_i (by rw [t1i]; omega) (by rw [t1i]; omega), t1i]
        refine ⟨rfl, rfl, ⟨Z1, R1, N1, I1⟩, ⟨rfl, by omega, by omega⟩, ?_⟩
        rw [ex, show (zA κ (zR κ atFirsts (zR κ odAtlas a0)) (x21_2.toNatClampNeg + 1)).toInt - 1 + 1 = (zA κ (zR κ atFirsts (zR κ odAtlas a0)) (x21_2.toNatClampNeg + 1)).toInt by omega]
        exact D1
      · rw [f1.1, i1.1] at hx11
        have ex : x11.toInt = (zA κ (zR κ atFirsts (zR κ odAtlas a0)) (x21_2.toNatClampNeg + 1)).toInt - 1 := by
          rw [hx11, sub_i (by rw [t1i]; omega) (by rw [t1i]; omega), t1i]
        rw [ex, show (zA κ (zR κ atFirsts (zR κ odAtlas a0)) (x21_2.toNatClampNeg + 1)).toInt - 1 + 1 = (zA κ (zR κ atFirsts (zR κ odAtlas a0)) (x21_2.toNatClampNeg + 1)).toInt by omega]
        rw [show (x21_2.toInt + 1).toNat = x21_2.toNatClampNeg + 1 by omega] at hE
        exact hE
    rintro n39 _ _ x39_2 x39_3 κ39 W39 T39_0 ⟨hn39, ⟨rfl, rfl, i39⟩, hE⟩
    obtain ⟨⟨Z3, R3, N3, I3⟩, ⟨rfl, l31, l32⟩, D3⟩ := i39
    obtain ⟨X3, ce3, _, g3, _⟩ := od_t9 W Ta0 Tg hlF9_t Z3 hg.1 hg.2 X0
    have f3 := g3 atFirsts (by decide)
    have n3 := g3 atNumbers (by decide)
    refine ⟨?_, ?_⟩
    · rw [inb_iff, f3.2, A0.1.1]; omega  -- b10
    refine ⟨fun c12 => ?_, fun c12 => ?_⟩
    · skip
      intro x13 hx13
      refine lp_b5 ?_ (fun d9 => ⟨rfl, ?_⟩)
      · have e13 : x13.toInt = x21_2.toInt - 1 := by rw [hx13]; exact dm1_9 (Int.not_lt.mp c7)
        rw [hn21]; omega
      · refine and_5 ?_ (fun o9 => ?_)  -- i12
        · rw [f3.1, lti] at c12
          have e13 : x13.toInt = x21_2.toInt - 1 := by rw [hx13]; exact dm1_9 (Int.not_lt.mp c7)
          refine ⟨rfl, rfl, ⟨Z3, R3, N3, I3⟩, ⟨by omega, by omega⟩, ?_⟩
          rw [show (x13.toInt + 1).toNat = x21_2.toNatClampNeg by omega]
          rw [show x39_3.toInt + 1 = (zA κ (zR κ atFirsts (zR κ odAtlas a0)) x21_2.toNatClampNeg).toInt by omega] at D3
          exact D3
        · rw [f3.1, lti] at c12
          have e13 : x13.toInt = x21_2.toInt - 1 := by rw [hx13]; exact dm1_9 (Int.not_lt.mp c7)
          rw [show (x13.toInt + 1).toNat = x21_2.toNatClampNeg by omega]
          rw [show x39_3.toInt + 1 = (zA κ (zR κ atFirsts (zR κ odAtlas a0)) x21_2.toNatClampNeg).toInt by omega] at hE
          exact hE
    · skip
      intro T14
      rw [f3.1, lti] at c12
      have k3 := cnk (x := x39_3) (by omega)
      have p39 : 0 ≤ x39_3.toInt := by omega
      refine Od_comesToEnd_c W39 T14 ρ n9 P9 ?_ (fun r15 q17 => ?_)
      · exact ⟨X3, ⟨by omega, by omega⟩, by omega, by rw [n3.2]; omega⟩  -- p13
      intro W18
      intro M19
      have ce9 := ce3 x21_2.toNatClampNeg x39_3 hk9
      have q14 := Iff.trans q17.2 ce9
      refine ⟨fun c20 => ?_, fun c20 => ?_⟩
      · skip
        intro x21 hx21
        refine lp_b5 ?_ (fun d9 => ⟨rfl, ?_⟩)
        · have e21 : x21.toInt = x39_3.toInt - 1 := by rw [hx21]; exact dm1_9 p39
          rw [hn39]; omega
        · refine and_5 ?_ (fun o9 => ?_)  -- i15
          · have e21 : x21.toInt = x39_3.toInt - 1 := by rw [hx21]; exact dm1_9 p39
            refine ⟨rfl, rfl, ⟨Z3, R3, N3, I3⟩, ⟨rfl, by omega, by omega⟩, fun c hc => ?_, fun x hx hb => ?_⟩
            · rcases D3.1 c hc with y | y
              · exact Or.inl y
              · exact Or.inr ⟨y.1, by omega⟩
            · by_cases z : x.toInt = x39_3.toInt
              · exfalso
                have ex := Int32.toInt_inj.mp z
                obtain ⟨k, h1, h2, h3, h4⟩ := hx
                have ek := fu_9 A0 h1 hk9 h2 h3 (by omega) (by omega)
                rw [ek, ex] at h4
                exact absurd c20 (q14.mpr h4)
              · exact D3.2 x hx (by omega)
          · have e21 : x21.toInt = x39_3.toInt - 1 := by rw [hx21]; exact dm1_9 p39
            refine lx_m24 hE (fun x hx hb => ?_)
            by_cases z : x.toInt = x39_3.toInt
            · exfalso
              have ex := Int32.toInt_inj.mp z
              obtain ⟨k, h1, h2, h3, h4⟩ := hx
              have ek := fu_9 A0 h1 hk9 h2 h3 (by omega) (by omega)
              rw [ek, ex] at h4
              exact absurd c20 (q14.mpr h4)
            · omega
      · skip
        have ce := q14.mp c20
        have s1 : zA κ (zR κ atSorts (zR κ odAtlas a0)) x39_3.toNatClampNeg = 1 := ce.1
        have nb3 := (nx x39_3.toNatClampNeg (by omega) (by omega)).2.1 s1
        have ke := cnk nb3.1
        have eM := eh.2.1.2
        have ec : zR κ39 odCellOf a0 = zR κ odCellOf a0 := by rw [R3]
        have eh9 : zR κ39 odHeads a0 = zR κ odHeads a0 := by rw [R3]
        have el9 : zR κ39 odLinks a0 = zR κ odLinks a0 := by rw [R3]
        have wc := Z3.row W (f := odCellOf) (t := 20) (by decide +kernel) (by decide) Ta0 (fun z => absurd z.2 (by decide))
        rw [R3] at wc
        have cl := cc x21_2.toNatClampNeg x39_3 hk9 (by omega) (by omega) ce
        have kc := cnk cl.1
        have lkn : lkN9 κ a0 n9 x39_3 := ⟨x21_2.toNatClampNeg, hk9, by omega, by omega, ce⟩
        refine ⟨?_, ?_⟩
        · rw [inb_iff, n3.2]; omega  -- b16
        refine ⟨?_, ?_⟩
        · rw [n3.1, inb_iff, ec, N3, L0.2.2.2.2.1]; omega  -- b17
        intro x22 hx22
        rw [n3.1, ec, wc.1] at hx22
        rw [← hx22] at cl kc
        refine ⟨?_, ?_⟩
        · rw [inb_iff, eh9, N3, lh]; omega  -- b18
        refine ⟨?_, ?_⟩
        · rw [inb_iff, el9, N3]; omega  -- b19
        intro κ_23 hκ_23
        intro W24
        rw [el9, eh9] at hκ_23
        have r23 : zR κ_23 = zR κ := by rw [hκ_23]; exact R3
        have n23 : zN κ_23 = zN κ := by rw [hκ_23]; exact N3
        refine ⟨?_, ?_⟩
        · rw [inb_iff, r23, n23, lh]; omega  -- b20
        intro κ_25 hκ_25
        intro W26
        intro x27 hx27
        rw [r23] at hκ_25
        have xh : zA κ_25 (zR κ odHeads a0) = upd (zA κ39 (zR κ odHeads a0)) x22.toNatClampNeg x39_3 := by
          rw [hκ_25]
          refine (if_pos rfl).trans ?_
          have q : zA κ_23 (zR κ odHeads a0) = zA κ39 (zR κ odHeads a0) := by
            rw [hκ_23]
            exact if_neg nhl
          show upd (zA κ_23 (zR κ odHeads a0)) _ _ = _
          rw [q]
        have xl : zA κ_25 (zR κ odLinks a0) = upd (zA κ39 (zR κ odLinks a0)) x39_3.toNatClampNeg (zA κ39 (zR κ odHeads a0) x22.toNatClampNeg) := by
          rw [hκ_25]
          refine (if_neg (Ne.symm nhl)).trans ?_
          rw [hκ_23]
          exact if_pos rfl
        have oh := W39.o (show zr odHeads = some 20 by decide +kernel) (by decide) T39_0
        have ol := W39.o (show zr odLinks = some 20 by decide +kernel) (by decide) T39_0
        rw [eh9] at oh
        rw [el9] at ol
        have Z23 : zF (hlF9 a0) κ κ_23 := Z3.tr (by rw [hκ_23]; exact zF_ua (by rw [ol]; exact ⟨rfl, Or.inr rfl⟩))
        have o23 : zO κ_23 = zO κ39 := by rw [hκ_23]; rfl
        have Z25 : zF (hlF9 a0) κ κ_25 := Z23.tr (by rw [hκ_25]; exact zF_ua (by rw [o23, oh]; exact ⟨rfl, Or.inl rfl⟩))
        refine lp_b5 ?_ (fun d9 => ⟨rfl, ?_⟩)
        · have e27 : x27.toInt = x39_3.toInt - 1 := by rw [hx27]; exact dm1_9 p39
          rw [hn39]; omega
        · refine and_5 ?_ (fun o9 => ?_)  -- i22
          · have e27 : x27.toInt = x39_3.toInt - 1 := by rw [hx27]; exact dm1_9 p39
            refine ⟨rfl, rfl, ⟨Z25, by rw [hκ_25]; exact r23, by rw [hκ_25]; exact n23, by rw [hκ_25, hκ_23]; exact I3⟩, ⟨rfl, by omega, by omega⟩, fun c hc => ?_, fun x hx hb => ?_⟩
            · rw [xh]
              unfold upd
              by_cases z : c = x22.toNatClampNeg
              · rw [if_pos z]
                exact Or.inr ⟨lkn, by omega⟩
              · rw [if_neg z]
                rcases D3.1 c hc with y | y
                · exact Or.inl y
                · exact Or.inr ⟨y.1, by omega⟩
            · have x0 : 0 ≤ x.toInt := by
                obtain ⟨k, h1, h2, _⟩ := id hx
                have f9 := (A0.2.2.2.2.2 k h1).1.1
                omega
              have kx := cnk x0
              rw [xl]
              unfold upd
              by_cases z : x.toInt = x39_3.toInt
              · have ex := Int32.toInt_inj.mp z
                rw [ex, if_pos rfl]
                rcases D3.1 x22.toNatClampNeg (by omega) with y | y
                · exact Or.inl y
                · exact Or.inr ⟨y.1, by omega⟩
              · rw [if_neg (by omega)]
                exact D3.2 x hx (by omega)
          · have e27 : x27.toInt = x39_3.toInt - 1 := by rw [hx27]; exact dm1_9 p39
            have cp : cx24 κ a0 x39_3 = x22 := hx22.symm
            have x0 : ∀ x, lkN9 κ a0 n9 x → 0 ≤ x.toInt := fun x hx => by
              obtain ⟨k, h1, h2, _⟩ := hx
              have f9 := (A0.2.2.2.2.2 k h1).1.1
              omega
            refine ⟨fun c hc => ?_, fun x hx hb => ?_⟩
            · rw [xh]
              by_cases z : c = x22.toNatClampNeg
              · rw [z, upd_eq]
                exact ⟨fun x hx hb _ => ⟨fun y => by rw [y, tmi] at p39; omega, by omega⟩, fun _ => by rw [cp]⟩
              · rw [upd_ne z]
                refine ⟨fun x hx hb hc' => (hE.1 c hc).1 x hx ?_ hc', (hE.1 c hc).2⟩
                by_cases y : x.toInt = x39_3.toInt
                · rw [Int32.toInt_inj.mp y, cp] at hc'
                  exact absurd hc'.symm z
                · omega
            · rw [xl]
              by_cases z : x = x39_3
              · rw [z, upd_eq, cp]
                have H := hE.1 x22.toNatClampNeg (by omega)
                exact ⟨fun y hy hl he => H.1 y hy (by omega) (by rw [he]), fun w => H.2 w⟩
              · have nx : x.toNatClampNeg ≠ x39_3.toNatClampNeg := nt_24 (x0 x hx) p39 z
                rw [upd_ne nx]
                have n2 : ¬ x.toInt = x39_3.toInt := fun y => z (Int32.toInt_inj.mp y)
                exact hE.2 x hx (by omega)

end
