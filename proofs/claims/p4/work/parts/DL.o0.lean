set_option maxHeartbeats 1600000
/-! the class: what Odds reads, and its frames -/
/-- a frame that leaves atlas, code and all hoards but one alone -/
def frO9 (m g : Nat) (F : Nat → Nat → Prop) : Prop := ∀ f b, F f b → m ≤ b ∨ f / 100 = 8 ∨ f / 100 = 11 ∨ f / 100 = 4 ∨ f / 100 = 12 ∨ f / 100 = 9 ∨ f = 0 ∨ (f / 100 = 6 ∧ b = g)
theorem frO9_n {C : zC} {n0 f b c g : Nat} {F : Nat → Nat → Prop} {κ : zS} (W : zW C n0 κ) (H : frO9 (zn κ) g F) (T : zT κ b = c + 1) (hf : f / 100 ≠ 8 ∧ f / 100 ≠ 11 ∧ f / 100 ≠ 4 ∧ f / 100 ≠ 12 ∧ f / 100 ≠ 9 ∧ f ≠ 0) (hb : f / 100 ≠ 6 ∨ b ≠ g) : ¬ F f b := fun z => by
  have l := (W.2.1 b (by omega)).2
  rcases H f b z with h | h | h | h | h | h | h | h
  · omega
  · exact hf.1 h
  · exact hf.2.1 h
  · exact hf.2.2.1 h
  · exact hf.2.2.2.1 h
  · exact hf.2.2.2.2.1 h
  · exact hf.2.2.2.2.2 h
  · rcases hb with y | y
    · exact y h.1
    · exact y h.2
theorem frO9_w {C : zC} {n0 f b t g : Nat} {F : Nat → Nat → Prop} {κ τ : zS} (W : zW C n0 κ) (H : frO9 (zn κ) g F) (Z : zF F κ τ) (hr : zr f = some t) (ht : 20 ≤ t) (T : zT κ b = f / 100) (hf : f / 100 ≠ 8 ∧ f / 100 ≠ 11 ∧ f / 100 ≠ 4 ∧ f / 100 ≠ 12 ∧ f / 100 ≠ 9 ∧ f ≠ 0) (hb : f / 100 ≠ 6 ∨ b ≠ g) (h0 : f / 100 ≠ 0) : zR τ f b = zR κ f b ∧ zA τ (zR τ f b) = zA κ (zR κ f b) ∧ zN τ (zR τ f b) = zN κ (zR κ f b) := by
  have T9 : zT κ b = (f / 100 - 1) + 1 := by omega
  have n := frO9_n W H T9 hf hb
  have ty := W.r hr T
  have t1 : zT κ (zR κ f b) = (t - 1) + 1 := by omega
  refine ⟨Z.r n, (Z.row W hr ht T n).1, ?_⟩
  rw [Z.r n]
  exact Z.l t1
theorem at_o9 {C : zC} {n0 b f g : Nat} {F : Nat → Nat → Prop} {κ τ : zS} (W : zW C n0 κ) (H : frO9 (zn κ) g F) (Z : zF F κ τ) (Tb : zT κ b = 3) (hf : f ∈ atRf) : zR τ f b = zR κ f b ∧ zA τ (zR τ f b) = zA κ (zR κ f b) ∧ zN τ (zR τ f b) = zN κ (zR κ f b) := by
  obtain ⟨⟨t, h1, h2⟩, h3⟩ := atRf_r f hf
  refine frO9_w W H Z h1 h2 (Tb.trans h3.symm) ⟨by omega, by omega, by omega, by omega, by omega, by omega⟩ (Or.inl (by omega)) (by omega)
theorem atW_o9 {C : zC} {n0 b n g : Nat} {F : Nat → Nat → Prop} {κ τ : zS} (W : zW C n0 κ) (H : frO9 (zn κ) g F) (Z : zF F κ τ) (Tb : zT κ b = 3) (hs : zR κ atStates b ≠ g) (he : zR κ atEndings b ≠ g) (A : atW κ b n) : atW τ b n := by
  have ts := ty_atStates W Tb
  have te := ty_atEndings W Tb
  have g := fun f hf => at_o9 W H Z Tb (f := f) hf
  obtain ⟨A1, A2, A3, A4, A5, A6⟩ := A
  have rs : zR τ atStates b = zR κ atStates b := Z.r (frO9_n W H Tb (by decide) (Or.inl (by decide)))
  have re : zR τ atEndings b = zR κ atEndings b := Z.r (frO9_n W H Tb (by decide) (Or.inl (by decide)))
  have is : zI τ hoTotal (zR κ atStates b) = zI κ hoTotal (zR κ atStates b) := Z.i (frO9_n W H ts (by decide) (Or.inr hs))
  have ie : zI τ hoTotal (zR κ atEndings b) = zI κ hoTotal (zR κ atEndings b) := Z.i (frO9_n W H te (by decide) (Or.inr he))
  have ix : zI τ atNexts b = zI κ atNexts b := Z.i (frO9_n W H Tb (by decide) (Or.inl (by decide)))
  refine ⟨?_, ?_, A3, ?_, ?_, fun k hk => ?_⟩
  · unfold atM
    rw [(g atFirsts (by decide)).2.2, (g atTotals (by decide)).2.2, (g atGains (by decide)).2.2, (g atPlan (by decide)).2.2, (g atChooses (by decide)).2.2, (g atHopeless (by decide)).2.2]
    exact A1
  · unfold atL
    rw [(g atSorts (by decide)).2.2, (g atNumbers (by decide)).2.2, (g atWeights (by decide)).2.2]
    exact A2
  · rw [rs, is]; exact A4
  · rw [ix, (g atNumbers (by decide)).2.2]; exact A5
  · unfold exK
    rw [rs, re, is, ie, ix, (g atFirsts (by decide)).2.1, (g atTotals (by decide)).2.1, (g atChooses (by decide)).2.1, (g atSorts (by decide)).2.1, (g atNumbers (by decide)).2.1, (g atWeights (by decide)).2.1]
    exact A6 k hk
theorem ho_o9 {C : zC} {n0 h M D S g : Nat} {F : Nat → Nat → Prop} {κ τ : zS} (W : zW C n0 κ) (H : frO9 (zn κ) g F) (Z : zF F κ τ) (T : zT κ h = 6) (hg : h ≠ g) : (hoI κ h M D S → hoI τ h M D S) ∧ pV9 τ h = pV9 κ h ∧ zI τ hoTotal h = zI κ hoTotal h := by
  have n : ∀ f, f / 100 = 6 → ¬ F f h := fun f hf => frO9_n W H T ⟨by omega, by omega, by omega, by omega, by omega, by omega⟩ (Or.inr hg)
  have q : ∀ f, f = hoStarts ∨ f = hoTable ∨ f = hoPool → zR τ f h = zR κ f h ∧ zA τ (zR κ f h) = zA κ (zR κ f h) ∧ zN τ (zR κ f h) = zN κ (zR κ f h) := fun f hf => by
    have q : zr f = some 20 ∧ f / 100 = 6 := by rcases hf with rfl | rfl | rfl <;> decide +kernel
    have w := frO9_w W H Z q.1 (by decide) (T.trans q.2.symm) ⟨by omega, by omega, by omega, by omega, by omega, by omega⟩ (Or.inr hg) (by omega)
    have w2 := w.2
    rw [w.1] at w2
    exact ⟨w.1, w2⟩
  have t : zI τ hoTotal h = zI κ hoTotal h := Z.i (n hoTotal (by decide))
  refine ⟨fun I => hoI_f I (fun f hf => Z.i (n f hf)) q, ?_, t⟩
  funext k i
  have s := q hoStarts (Or.inl rfl)
  have p := q hoPool (Or.inr (Or.inr rfl))
  unfold pV9
  rw [t, s.1, p.1, s.2.1, p.2.1]
theorem co_o9 {C : zC} {n0 c g : Nat} {F : Nat → Nat → Prop} {κ τ : zS} (W : zW C n0 κ) (H : frO9 (zn κ) g F) (Z : zF F κ τ) (T : zT κ c = 5) (I : coI κ c) : coI τ c := by
  have n : ∀ f, f / 100 = 5 → ¬ F f c := fun f hf => frO9_n W H T ⟨by omega, by omega, by omega, by omega, by omega, by omega⟩ (Or.inl (by omega))
  have i5 : ∀ f, f ∈ coIf → f / 100 = 5 := by decide
  refine coI_g I (fun f hf => Z.i (n f (i5 f hf))) (fun f hf => Z.r (n f (coRf_r f hf).2)) (fun f hf => Z.l (coRf_t W T hf)) (fun f hf => ?_)
  have m : f ∈ coRf := by rcases hf with rfl | rfl <;> decide
  have r := (Z.row W (coRf_r f m).1 (by decide) (T.trans (coRf_r f m).2.symm) (n f (coRf_r f m).2)).1
  rw [Z.r (n f (coRf_r f m).2)] at r
  exact r
theorem soF_o9 {ρ : Nat → Nat} {R : Nat → Prop} {ca m g : Nat} : frO9 m g (soF ρ R ca) := fun f b z => by
  rcases z with ⟨_, z | z | z⟩ | ⟨_, z | z | z | z⟩
  · rw [z]; exact Or.inr (Or.inl (by decide))
  · rw [z]; exact Or.inr (Or.inl (by decide))
  · rw [z]; exact Or.inr (Or.inr (Or.inl (by decide)))
  · rw [z]; exact Or.inr (Or.inr (Or.inr (Or.inl (by decide))))
  · rw [z]; exact Or.inr (Or.inr (Or.inr (Or.inl (by decide))))
  · rw [z]; exact Or.inr (Or.inr (Or.inr (Or.inl (by decide))))
  · rw [z]; exact Or.inr (Or.inr (Or.inr (Or.inl (by decide))))
/-- the last number of the first ending is not below 0 -/
def enZ9 (κ : zS) (b : Nat) : Prop := ∀ i : Int32, i.toInt = (zI κ coVars (zR κ atCode b)).toInt + (zI κ coCells (zR κ atCode b)).toInt → 0 ≤ (pV9 κ (zR κ atEndings b) 0 i).toInt
theorem enZ_o9 {C : zC} {n0 b g : Nat} {F : Nat → Nat → Prop} {κ τ : zS} (W : zW C n0 κ) (H : frO9 (zn κ) g F) (Z : zF F κ τ) (Tb : zT κ b = 3) (he : zR κ atEndings b ≠ g) (E : enZ9 κ b) : enZ9 τ b := by
  have tc := ty_atCode W Tb
  have te := ty_atEndings W Tb
  have r1 : zR τ atCode b = zR κ atCode b := Z.r (frO9_n W H Tb (by decide) (Or.inl (by decide)))
  have r2 : zR τ atEndings b = zR κ atEndings b := Z.r (frO9_n W H Tb (by decide) (Or.inl (by decide)))
  have i1 : zI τ coVars (zR κ atCode b) = zI κ coVars (zR κ atCode b) := Z.i (frO9_n W H tc (by decide) (Or.inl (by decide)))
  have i2 : zI τ coCells (zR κ atCode b) = zI κ coCells (zR κ atCode b) := Z.i (frO9_n W H tc (by decide) (Or.inl (by decide)))
  have p := (ho_o9 (M := 0) (D := 0) (S := 0) W H Z te he).2.1
  intro i hi
  rw [r1, i1, i2] at hi
  rw [r2, p]
  exact E i hi
/-- what Odds reads -/
def odX9 (ρ : Nat → Nat) (κ : zS) (a n P : Nat) : Prop := (zR κ soAtlas (zR κ odSolver a) = zR κ odAtlas a ∧ zR κ soCalc (zR κ odSolver a) = zR κ odCalc a) ∧ ρ (zR κ odHeld a) = 15 ∧ (atW κ (zR κ odAtlas a) n ∧ n ≤ (zN κ (zR κ soVisits (zR κ odSolver a)))) ∧ vsI9 ρ κ (zR κ odSolver a) n P ∧ (coI κ (zR κ atCode (zR κ odAtlas a)) ∧ (n = 0 → enZ9 κ (zR κ odAtlas a))) ∧ hoI κ (zR κ atEndings (zR κ odAtlas a)) 1000 35 2048
theorem odX9_f {C : zC} {n0 a n P ca : Nat} {ρ : Nat → Nat} {R : Nat → Prop} {κ τ : zS} (W : zW C n0 κ) (Ta : zT κ a = 9) (N : nmI ρ κ) (Z : zF (soF ρ R ca) κ τ) (hR : ∀ r, 100 ≤ r → ¬ R r) (X : odX9 ρ κ a n P) : odX9 ρ τ a n P ∧ (∀ f, f / 100 = 9 ∨ f / 100 = 12 → ∀ b, zR τ f b = zR κ f b) ∧ zI τ hoTotal (zR κ atStates (zR κ odAtlas a)) = zI κ hoTotal (zR κ atStates (zR κ odAtlas a)) ∧ zR τ atStates = zR κ atStates := by
  have e : ∀ f, f / 100 = 9 ∨ f / 100 = 12 ∨ f / 100 = 3 → ∀ b, zR τ f b = zR κ f b := fun f hf b => (soF_r9 Z ⟨fun y => by rw [y] at hf; revert hf; decide, fun y => by rw [y] at hf; revert hf; decide, fun y => by rw [y] at hf; revert hf; decide, fun y => by rw [y] at hf; revert hf; decide, fun y => by rw [y] at hf; revert hf; decide, fun y => by rw [y] at hf; revert hf; decide, fun y => by rw [y] at hf; revert hf; decide⟩).1
  have ts := ty_odSolver W Ta
  have tA := ty_odAtlas W Ta
  have tc := ty_atCode W tA
  have te := ty_atEndings W tA
  have t6 := ty_atStates W tA
  obtain ⟨⟨x1, x2⟩, x3, ⟨x4, x5⟩, x6, ⟨x7, x9⟩, x8⟩ := X
  have en0 : zR κ atEndings (zR κ odAtlas a) ≠ 0 := by
    have l := (W.2.1 _ (show zT κ (zR κ atEndings (zR κ odAtlas a)) ≠ 0 by rw [te]; decide)).1.1
    have p := W.1.1.1
    omega
  have nv := frS9_w (f := soVisits) W soF_fr Z (t := 25) (by decide +kernel) (by decide) ts (by decide) (by decide)
  refine ⟨⟨⟨?_, ?_⟩, ?_, ⟨?_, ?_⟩, ?_, ⟨?_, fun hn => ?_⟩, ?_⟩, fun f hf b => e f (by omega) b, ?_, ?_⟩
  · rw [e odSolver (by decide), e soAtlas (by decide), e odAtlas (by decide)]; exact x1
  · rw [e odSolver (by decide), e soCalc (by decide), e odCalc (by decide)]; exact x2
  · rw [e odHeld (by decide)]; exact x3
  · rw [e odAtlas (by decide)]; exact atW_f9 W soF_fr Z tA x4
  · rw [e odSolver (by decide), nv.2.2]; exact x5
  · rw [e odSolver (by decide)]; exact vsI9_f W ts N Z x4.2.2.1 hR x6
  · rw [e odAtlas (by decide), e atCode (by decide)]
    exact co_o9 (g := 0) W soF_o9 Z tc x7
  · rw [e odAtlas (by decide)]
    exact enZ_o9 (g := 0) W soF_o9 Z tA en0 (x9 hn)
  · rw [e odAtlas (by decide), e atEndings (by decide)]
    exact (ho_o9 (g := 0) W soF_o9 Z te en0).1 x8
  · refine (ho_o9 (M := 0) (D := 0) (S := 0) (g := 0) W soF_o9 Z t6 ?_).2.2
    have l := (W.2.1 _ (show zT κ (zR κ atStates (zR κ odAtlas a)) ≠ 0 by rw [t6]; decide)).1.1
    have p := W.1.1.1
    omega
  · funext b
    exact e atStates (by decide) b
theorem wSm_r9 {Wt : Nat → Int32} {lo x hi : Int} (h0 : 0 ≤ lo) (h : x ≤ hi) (p : ∀ i : Nat, lo ≤ (i : Int) → (i : Int) < hi → 0 ≤ (Wt i).toInt) : wSm Wt lo x ≤ wSm Wt lo hi := by
  have e1 := wSm_eq (Wt := Wt) (Wt' := fun i => if lo ≤ (i : Int) ∧ (i : Int) < hi then Wt i else 0) (lo := lo) (hi := x) h0 (fun j a b => if_pos ⟨a, by omega⟩)
  have e2 := wSm_eq (Wt := Wt) (Wt' := fun i => if lo ≤ (i : Int) ∧ (i : Int) < hi then Wt i else 0) (lo := lo) (hi := hi) h0 (fun j a b => if_pos ⟨a, b⟩)
  rw [← e1, ← e2]
  refine wSm_mo (fun i => ?_) h
  by_cases z : lo ≤ (i : Int) ∧ (i : Int) < hi
  · rw [if_pos z]; exact p i z.1 z.2
  · rw [if_neg z]; decide
theorem sw_9 {s : Int64} {w : Int32} (h1 : -2147483648 ≤ s.toInt) (h2 : s.toInt < 2147483648) (w0 : 0 ≤ w.toInt) : (s * Int32.toInt64 w).toInt = s.toInt * w.toInt ∧ -2147483648 * w.toInt ≤ s.toInt * w.toInt ∧ s.toInt * w.toInt ≤ 2147483648 * w.toInt ∧ (0 ≤ s.toInt → 0 ≤ s.toInt * w.toInt) := by
  have e := Int32.toInt_toInt64 w
  have a := Int.mul_le_mul_of_nonneg_right h1 w0
  have b := Int.mul_le_mul_of_nonneg_right (Int.le_of_lt h2) w0
  have hw := ihi w
  refine ⟨?_, a, b, fun z => Int.mul_nonneg z w0⟩
  rw [jmul_i (by rw [e]; omega) (by rw [e]; omega), e]
theorem Od_lastOf_c {C : zC} {n0 : Nat} {a0 : Nat} {a1 : Int32} {κ : zS} {Q : Int32 → zS → Prop} (W : zW C n0 κ) (Ta0 : zT κ a0 = 9)  (hp : coI κ (zR κ atCode (zR κ odAtlas a0)) ∧ hoI κ (zR κ atEndings (zR κ odAtlas a0)) 1000 35 2048) (h : ∀ (v : Int32), (∃ i : Int32, i.toInt = (zI κ coVars (zR κ atCode (zR κ odAtlas a0))).toInt + (zI κ coCells (zR κ atCode (zR κ odAtlas a0))).toInt ∧ v = pV9 κ (zR κ atEndings (zR κ odAtlas a0)) a1 i) → Q v κ) : zRun C 2 mOd_lastOf [.ref a0, .int a1] κ (oI Q noX) := by
  refine Od_lastOf_run W Ta0 ?_
  replace W := W.lo (Nat.le_trans W.1.2.1 W.1.2.2) (Nat.le_refl (zn κ))
  unfold w_Od_lastOf_0
  obtain ⟨H1, H2⟩ := hp
  intro T1
  refine Co_shared_c W T1  ?_ (fun r2 q4 => ?_)
  · exact H1  -- p1
  intro W5
  intro M6
  intro T7
  refine Ho_part_c2 W5 T7 1000 35 2048 ?_ (fun r8 q10 => ?_)
  · exact ⟨H2, Or.inr (Or.inl ⟨rfl, rfl, rfl⟩)⟩  -- p2
  intro W11
  intro M12
  refine h _ ?_
  · exact ⟨r2, q4, q10⟩  -- q3

theorem Od_share_c {C : zC} {n0 : Nat} {a0 : Nat} {a1 : Int32} {a2 : Int32} {a3 : Int32} {a4 : Int32} {κ : zS} {Q : Int64 → zS → Prop} (W : zW C n0 κ) (Ta0 : zT κ a0 = 9)  (hp : coI κ (zR κ atCode (zR κ odAtlas a0)) ∧ hoI κ (zR κ atEndings (zR κ odAtlas a0)) 1000 35 2048) (h : ∀ (v : Int64), ((-2147483648 ≤ v.toInt ∧ v.toInt < 2147483648) ∧ (0 ≤ a1.toInt → a1.toInt ≤ 7 → 0 ≤ v.toInt ∧ v.toInt ≤ 1) ∧ (a4 = 0 → enZ9 κ (zR κ odAtlas a0) → 0 ≤ v.toInt)) → Q v κ) : zRun C 3 mOd_share [.ref a0, .int a1, .int a2, .int a3, .int a4] κ (oJ Q noX) := by
  refine Od_share_run W Ta0 ?_
  replace W := W.lo (Nat.le_trans W.1.2.1 W.1.2.2) (Nat.le_refl (zn κ))
  unfold w_Od_share_0
  have z0 : (-2147483648 ≤ (0 : Int64).toInt ∧ (0 : Int64).toInt < 2147483648) ∧ (0 ≤ a1.toInt → a1.toInt ≤ 7 → 0 ≤ (0 : Int64).toInt ∧ (0 : Int64).toInt ≤ 1) ∧ (a4 = 0 → enZ9 κ (zR κ odAtlas a0) → 0 ≤ (0 : Int64).toInt) := ⟨by decide, fun _ _ => by decide, fun _ _ => by decide⟩
  have z1 : (-2147483648 ≤ (1 : Int64).toInt ∧ (1 : Int64).toInt < 2147483648) ∧ (0 ≤ a1.toInt → a1.toInt ≤ 7 → 0 ≤ (1 : Int64).toInt ∧ (1 : Int64).toInt ≤ 1) ∧ (a4 = 0 → enZ9 κ (zR κ odAtlas a0) → 0 ≤ (1 : Int64).toInt) := ⟨by decide, fun _ _ => by decide, fun _ _ => by decide⟩
  have hj10 : ∀ (l0 : Nat) (l1 : Int32) (l2 : Int32) (l3 : Int32) (l4 : Int32) (s0 : Int32) (τ : zS), zW C (zn κ) τ → zT τ l0 = 9 → (κ = τ ∧ a0 = l0 ∧ a1 = l1 ∧ a2 = l2 ∧ a3 = l3 ∧ a4 = l4 ∧ True) → w_Od_share_10 C (zn κ) Q  l0 l1 l2 l3 l4 s0 τ := by
    rintro _ _ _ _ _ y10_s0 _ W10 T10_0 ⟨rfl, rfl, rfl, rfl, rfl, rfl, j10⟩
    unfold w_Od_share_10
    refine ⟨fun c1 => ?_, fun c1 => ?_, fun c1 => ?_, fun c1 => ?_, fun c1 => ?_, fun c1 => ?_, fun c1 => ?_, fun c1 => ?_, fun c1 => ?_⟩
    · skip
      refine ⟨fun c2 => ?_, fun c2 => ?_⟩
      · skip
        refine h _ ?_
        · first | exact z0 | exact z1  -- q1
      · skip
        intro T3
        refine Od_lastOf_c W10 T3  ?_ (fun r4 q6 => ?_)
        · exact hp  -- p2
        intro W7
        intro M8
        refine h _ ?_
        · have e := Int32.toInt_toInt64 r4
          have e1 := ilo r4
          have e2 := ihi r4
          refine ⟨⟨by omega, by omega⟩, fun g1 g2 => by omega, fun g1 g2 => ?_⟩
          obtain ⟨i, hi, hv⟩ := q6
          have q := g2 i hi
          rw [g1] at hv
          rw [e, hv]
          exact q
    · skip
      refine ⟨fun c9 => ?_, fun c9 => ?_⟩
      · skip
        refine h _ ?_
        · first | exact z0 | exact z1  -- q4
      · skip
        intro T10
        refine Od_lastOf_c W10 T10  ?_ (fun r11 q13 => ?_)
        · exact hp  -- p5
        intro W14
        intro M15
        refine ⟨fun c16 => ?_, fun c16 => ?_⟩
        · skip
          refine h _ ?_
          · first | exact z0 | exact z1  -- q6
        · skip
          refine h _ ?_
          · first | exact z0 | exact z1  -- q7
    · skip
      refine ⟨fun c17 => ?_, fun c17 => ?_⟩
      · skip
        refine h _ ?_
        · first | exact z0 | exact z1  -- q8
      · skip
        refine ⟨fun c18 => ?_, fun c18 => ?_⟩
        · skip
          refine h _ ?_
          · first | exact z0 | exact z1  -- q9
        · skip
          refine h _ ?_
          · first | exact z0 | exact z1  -- q10
    · skip
      refine ⟨fun c19 => ?_, fun c19 => ?_⟩
      · skip
        refine h _ ?_
        · first | exact z0 | exact z1  -- q11
      · skip
        refine ⟨fun c20 => ?_, fun c20 => ?_⟩
        · skip
          refine h _ ?_
          · first | exact z0 | exact z1  -- q12
        · skip
          refine h _ ?_
          · first | exact z0 | exact z1  -- q13
    · skip
      refine ⟨fun c21 => ?_, fun c21 => ?_⟩
      · skip
        refine h _ ?_
        · first | exact z0 | exact z1  -- q14
      · skip
        refine ⟨fun c22 => ?_, fun c22 => ?_⟩
        · skip
          refine h _ ?_
          · first | exact z0 | exact z1  -- q15
        · skip
          refine h _ ?_
          · first | exact z0 | exact z1  -- q16
    · skip
      refine ⟨fun c23 => ?_, fun c23 => ?_⟩
      · skip
        refine h _ ?_
        · first | exact z0 | exact z1  -- q17
      · skip
        refine h _ ?_
        · first | exact z0 | exact z1  -- q18
    · skip
      refine ⟨fun c24 => ?_, fun c24 => ?_⟩
      · skip
        refine h _ ?_
        · first | exact z0 | exact z1  -- q19
      · skip
        refine h _ ?_
        · first | exact z0 | exact z1  -- q20
    · skip
      refine ⟨fun c25 => ?_, fun c25 => ?_⟩
      · skip
        refine h _ ?_
        · first | exact z0 | exact z1  -- q21
      · skip
        refine ⟨fun c26 => ?_, fun c26 => ?_⟩
        · skip
          refine h _ ?_
          · first | exact z0 | exact z1  -- q22
        · skip
          refine h _ ?_
          · first | exact z0 | exact z1  -- q23
    · skip
      refine ⟨fun c27 => ?_, fun c27 => ?_⟩
      · skip
        refine h _ ?_
        · first | exact z0 | exact z1  -- q24
      · skip
        refine h _ ?_
        · first | exact z0 | exact z1  -- q25
  refine ⟨fun c28 => ?_, fun c28 => ?_⟩
  · skip
    refine hj10 _ _ _ _ _ _ _ W ?_ ?_
    · exact Ta0  -- t26
    · exact ⟨rfl, rfl, rfl, rfl, rfl, rfl, trivial⟩  -- k27
  · skip
    refine hj10 _ _ _ _ _ _ _ W ?_ ?_
    · exact Ta0  -- t28
    · exact ⟨rfl, rfl, rfl, rfl, rfl, rfl, trivial⟩  -- k29

theorem Od_unitsOf_c {C : zC} {n0 : Nat} {a0 : Nat} {a1 : Int32} {a2 : Int32} {a3 : Int32} {κ : zS} {Q : Int64 → zS → Prop} (W : zW C n0 κ) (Ta0 : zT κ a0 = 9) (ρ : Nat → Nat) (n9 P9 : Nat) (hp : odX9 ρ κ a0 n9 P9 ∧ 0 ≤ a1.toInt ∧ a1.toInt < n9) (h : ∀ (v : Int64), ((-17179869184000000 ≤ v.toInt ∧ v.toInt ≤ 17179869184000000) ∧ (0 ≤ a2.toInt → a2.toInt ≤ 7 → 0 ≤ v.toInt) ∧ (v ≠ 0 → zI κ raSign (vU9 κ (zR κ odSolver a0) a1.toNatClampNeg) ≠ 0)) → Q v κ) : zRun C 4 mOd_unitsOf [.ref a0, .int a1, .int a2, .int a3] κ (oJ Q noX) := by
  refine Od_unitsOf_run W Ta0 ?_
  replace W := W.lo (Nat.le_trans W.1.2.1 W.1.2.2) (Nat.le_refl (zn κ))
  unfold w_Od_unitsOf_0
  obtain ⟨X0, p1, p2⟩ := hp
  have kn := cnk p1
  obtain ⟨⟨x1, x2⟩, x3, ⟨⟨A1, A2, A3, A4, A5, A6⟩, x5⟩, x6, ⟨x7, _⟩, x8⟩ := X0
  obtain ⟨⟨f0, f1, f2⟩, nx, ⟨w1, w2⟩, _, _⟩ := A6 a1.toNatClampNeg (by omega)
  obtain ⟨v1, v2, v3⟩ := x6 a1.toNatClampNeg (by omega)
  have i1 := cn1 (x := a1) p1 (by omega)
  have a20 := A2.2.2
  refine ⟨?_, ?_⟩
  · rw [inb_iff]; omega  -- b1
  refine ex_some ?_ (fun u1 hu1 => ?_)
  · exact ⟨_, v1⟩  -- e2
  have eu : u1 = vU9 κ (zR κ odSolver a0) a1.toNatClampNeg := Option.some.inj (hu1.symm.trans v1)
  refine ⟨fun c2 => ?_, fun c2 => ?_⟩
  · skip
    refine h _ ?_
    · exact ⟨by decide, fun _ _ => by decide, fun z => absurd rfl z⟩  -- q3
  · skip
    refine ⟨?_, ?_⟩
    · rw [inb_iff, A1.1]; omega  -- b4
    intro x3 hx3
    unfold w_Od_unitsOf_29
    refine ⟨fun n l0 l1 l2 l3 l4 l6 τ => n = ((zA κ (zR κ atFirsts (zR κ odAtlas a0)) (a1.toNatClampNeg + 1)).toInt - l6.toInt).toNat ∧ (κ = τ ∧ a0 = l0 ∧ a1 = l1 ∧ a2 = l2 ∧ a3 = l3 ∧ ((zA κ (zR κ atFirsts (zR κ odAtlas a0)) a1.toNatClampNeg).toInt ≤ l6.toInt ∧ l6.toInt ≤ (zA κ (zR κ atFirsts (zR κ odAtlas a0)) (a1.toNatClampNeg + 1)).toInt) ∧ (-2147483648 * wSm (zA κ (zR κ atWeights (zR κ odAtlas a0))) ((zA κ (zR κ atFirsts (zR κ odAtlas a0)) a1.toNatClampNeg).toInt) l6.toInt ≤ l4.toInt ∧ l4.toInt ≤ 2147483648 * wSm (zA κ (zR κ atWeights (zR κ odAtlas a0))) ((zA κ (zR κ atFirsts (zR κ odAtlas a0)) a1.toNatClampNeg).toInt) l6.toInt) ∧ (0 ≤ a2.toInt → a2.toInt ≤ 7 → 0 ≤ l4.toInt)), ⟨_, rfl, ?_⟩, ?_⟩
    · refine ⟨rfl, rfl, rfl, rfl, rfl, ⟨by rw [hx3]; exact Int.le_refl _, by rw [hx3]; exact f1⟩, ⟨?_, ?_⟩, fun _ _ => by decide⟩
      · rw [hx3, wSm_0]; decide
      · rw [hx3, wSm_0]; decide
    rintro n29 _ _ _ _ x29_4 x29_6 _ W29 T29_0 ⟨hn29, rfl, rfl, rfl, rfl, rfl, i29⟩
    obtain ⟨⟨l1, l2⟩, ⟨l3, l4⟩, l5⟩ := i29
    have kl := cnk (x := x29_6) (by omega)
    have wr := wSm_r9 (Wt := zA κ (zR κ atWeights (zR κ odAtlas a0))) f0 l2 (fun i a b => (nx i a b).2.2)
    refine ⟨?_, ?_⟩
    · rw [inb_iff, i1.2, A1.1]; omega  -- b6
    refine ⟨fun c4 => ?_, fun c4 => ?_⟩
    · skip
      refine h _ ?_
      · exact ⟨⟨by omega, by omega⟩, l5, fun _ => by rw [← eu]; exact c2⟩  -- q7
    · skip
      intro T5
      rw [i1.1, lei] at c4
      have nxi := nx x29_6.toNatClampNeg (by omega) (by omega)
      have wx := wSm_ex (Wt := zA κ (zR κ atWeights (zR κ odAtlas a0))) (Wt' := zA κ (zR κ atWeights (zR κ odAtlas a0))) (lo := (zA κ (zR κ atFirsts (zR κ odAtlas a0)) a1.toNatClampNeg).toInt) (hi := x29_6.toInt) f0 l1 (fun _ _ => rfl)
      have kt : x29_6.toInt.toNat = x29_6.toNatClampNeg := rfl
      rw [kt] at wx
      have wr2 := wSm_r9 (Wt := zA κ (zR κ atWeights (zR κ odAtlas a0))) (x := x29_6.toInt + 1) f0 (by omega) (fun i a b => (nx i a b).2.2)
      have ix := cn1 (x := x29_6) (by omega) (by omega)
      have wn := nxi.2.2
      refine At_isTaken_c W29 T5  ?_ (fun r6 q8 => ?_)
      · exact ⟨A1, p1, by omega⟩  -- p8
      intro W9
      intro M10
      refine ⟨fun c11 => ?_, fun c11 => ?_⟩
      · skip
        intro x12 hx12
        refine ⟨_, ?_, rfl, ?_⟩
        · rw [hn29, hx12, ix.2]; omega  -- d9
        · refine ⟨rfl, rfl, rfl, rfl, rfl, ⟨by rw [hx12, ix.2]; omega, by rw [hx12, ix.2]; omega⟩, ⟨?_, ?_⟩, l5⟩
          · rw [hx12, ix.2, wx]; omega
          · rw [hx12, ix.2, wx]; omega
      · skip
        refine ⟨?_, ?_⟩
        · rw [inb_iff, A2.1.1]; omega  -- b11
        refine ⟨?_, ?_⟩
        · rw [inb_iff]; omega  -- b12
        intro T13
        refine Od_share_c W9 T13  ?_ (fun r14 q16 => ?_)
        · exact ⟨x7, x8⟩  -- p13
        intro W17
        intro M18
        refine ⟨?_, ?_⟩
        · rw [inb_iff, A2.1.2]; omega  -- b14
        intro x19 hx19
        intro x20 hx20
        have m := sw_9 (s := r14) (w := zA κ (zR κ atWeights (zR κ odAtlas a0)) x29_6.toNatClampNeg) q16.1.1 q16.1.2 wn
        obtain ⟨m1, m2, m3, m4⟩ := m
        have q16b := q16.2.1
        generalize r14.toInt * (zA κ (zR κ atWeights (zR κ odAtlas a0)) x29_6.toNatClampNeg).toInt = pr at *
        have ea : x19.toInt = x29_4.toInt + pr := by rw [hx19, jadd_i (by rw [m1]; omega) (by rw [m1]; omega), m1]
        refine ⟨_, ?_, rfl, ?_⟩
        · rw [hn29, hx20, ix.2]; omega  -- d15
        · refine ⟨rfl, rfl, rfl, rfl, rfl, ⟨by rw [hx20, ix.2]; omega, by rw [hx20, ix.2]; omega⟩, ⟨?_, ?_⟩, fun g1 g2 => ?_⟩
          · rw [hx20, ix.2, wx, ea]; omega
          · rw [hx20, ix.2, wx, ea]; omega
          · have y := m4 (q16b g1 g2).1
            have y2 := l5 g1 g2
            rw [ea]; omega

theorem Od_weighs_c {C : zC} {n0 : Nat} {a0 : Nat} {a1 : Int32} {κ : zS} {Q : Int32 → zS → Prop} (W : zW C n0 κ) (Ta0 : zT κ a0 = 9) (ρ : Nat → Nat) (n9 P9 : Nat) (hp : odX9 ρ κ a0 n9 P9) (h : ∀ (v : Int32), (nb v) → Q v κ) : zRun C 5 mOd_weighs [.ref a0, .int a1] κ (oI Q noX) := by
  refine Od_weighs_run W Ta0 ?_
  replace W := W.lo (Nat.le_trans W.1.2.1 W.1.2.2) (Nat.le_refl (zn κ))
  unfold w_Od_weighs_0
  have A := hp.2.2.1.1
  have hn := A.2.2.1
  have tot := A.2.2.2.1
  have hj20 : ∀ (l0 : Nat) (l1 : Int32) (l2 : Int32) (s0 : Int32) (τ : zS), zW C (zn κ) τ → zT τ l0 = 9 → (κ = τ ∧ a0 = l0 ∧ a1 = l1 ∧ nb s0 ∧ l2.toInt = (n9 : Int)) → w_Od_weighs_20 C (zn κ) Q  l0 l1 l2 s0 τ := by
    rintro _ _ y20_2 y20_s0 _ W20 T20_0 ⟨rfl, rfl, rfl, j20⟩
    unfold w_Od_weighs_20
    unfold w_Od_weighs_24
    refine ⟨fun n l0 l1 l2 l3 l4 τ => n = (l2.toInt - l4.toInt).toNat ∧ (κ = τ ∧ a0 = l0 ∧ a1 = l1 ∧ l2.toInt = (n9 : Int) ∧ nb l3 ∧ 0 ≤ l4.toInt), ⟨_, rfl, ?_⟩, ?_⟩
    · exact ⟨rfl, rfl, rfl, j20.2, j20.1, by decide⟩  -- j1
    rintro n24 _ _ x24_2 x24_3 x24_4 _ W24 T24_0 ⟨hn24, rfl, rfl, rfl, i24⟩
    obtain ⟨m1, m2, m3⟩ := i24
    have hj52 : ∀ (l0 : Nat) (l1 : Int32) (l2 : Int32) (l4 : Int32) (s0 : Int32) (τ : zS), zW C (zn κ) τ → zT τ l0 = 9 → (κ = τ ∧ a0 = l0 ∧ a1 = l1 ∧ nb s0 ∧ 0 ≤ l4.toInt ∧ l4.toInt < l2.toInt ∧ x24_4 = l4 ∧ x24_2 = l2) → w_Od_weighs_52 C (zn κ) Q (fun (l0' : Nat) (l1' : Int32) (l2' : Int32) (l3' : Int32) (l4' : Int32) (τ : zS) => ∃ k < n24, (fun (n : Nat) (l0 : Nat) (l1 : Int32) (l2 : Int32) (l3 : Int32) (l4 : Int32) (τ : zS) => n = (l2.toInt - l4.toInt).toNat ∧ (κ = τ ∧ a0 = l0 ∧ a1 = l1 ∧ l2.toInt = (n9 : Int) ∧ nb l3 ∧ 0 ≤ l4.toInt)) k l0' l1' l2' l3' l4' τ) l0 l1 l2 l4 s0 τ := by
      rintro _ _ y52_2 y52_4 y52_s0 _ W52 T52_0 ⟨rfl, rfl, rfl, j52⟩
      unfold w_Od_weighs_52
      intro x1 hx1
      obtain ⟨g0, g1, g2, g3, g4⟩ := j52
      subst g3
      subst g4
      have ix := cn1 g1 (by omega)
      refine ⟨_, ?_, rfl, ?_⟩
      · rw [hn24, hx1, ix.2]; omega  -- d2
      · exact ⟨rfl, rfl, rfl, m1, g0, by rw [hx1, ix.2]; omega⟩  -- i3
    refine ⟨fun c2 => ?_, fun c2 => ?_⟩
    · skip
      refine ⟨?_, h _ ?_⟩
      · exact m2  -- b4
      · exact m2  -- q5
    · skip
      refine ⟨fun c3 => ?_, fun c3 => ?_⟩
      · skip
        refine ⟨?_, h _ ?_⟩
        · exact m2  -- b6
        · exact m2  -- q7
      · skip
        intro T4
        refine Od_unitsOf_c W24 T4 ρ n9 P9 ?_ (fun r5 q7 => ?_)
        · rw [lei] at c2
          exact ⟨hp, m3, by omega⟩
        intro W8
        intro M9
        refine ⟨fun c10 => ?_, fun c10 => ?_⟩
        · skip
          refine hj52 _ _ _ _ _ _ W8 ?_ ?_
          · exact Ta0  -- t9
          · rw [lei] at c2
            exact ⟨rfl, rfl, rfl, nb_0, m3, by omega, rfl, rfl⟩
        · skip
          refine hj52 _ _ _ _ _ _ W8 ?_ ?_
          · exact Ta0  -- t11
          · rw [lei] at c2
            exact ⟨rfl, rfl, rfl, nb_1, m3, by omega, rfl, rfl⟩
  intro x11 hx11
  refine ⟨fun c12 => ?_, fun c12 => ?_⟩
  · skip
    refine hj20 _ _ _ _ _ W ?_ ?_
    · exact Ta0  -- t13
    · exact ⟨rfl, rfl, rfl, nb_0, by rw [hx11]; exact tot⟩  -- k14
  · skip
    refine hj20 _ _ _ _ _ W ?_ ?_
    · exact Ta0  -- t15
    · exact ⟨rfl, rfl, rfl, nb_1, by rw [hx11]; exact tot⟩  -- k16
