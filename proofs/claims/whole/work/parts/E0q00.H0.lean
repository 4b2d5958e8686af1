section
set_option maxHeartbeats 1600000
/-! the class: how often what a next leads to counts; units of a state, by the tables alone -/
def shN16 (l kind v s n : Int32) : Int :=
  if kind = 0 then (if s = 1 ∧ l = v then 1 else 0)
  else if kind = 1 ∨ kind = 3 then (if s = 2 ∧ n = v then 1 else 0)
  else if kind = 2 then (if s = 1 ∧ n = v then 1 else 0)
  else if kind = 4 then (if s = 3 then 1 else 0)
  else if kind = 5 then (if s = 0 then 0 else 1)
  else if kind = 6 then (if s = 1 ∨ s = 2 then 1 else 0)
  else if kind = 7 then (if s = 1 then 1 else 0)
  else (if s = 1 then l.toInt else 0)
theorem sh_016 {l v s n : Int32} : shN16 l 0 v s n = if s = 1 ∧ l = v then 1 else 0 := if_pos rfl
theorem sh_116 {l v s n : Int32} : shN16 l 1 v s n = if s = 2 ∧ n = v then 1 else 0 := (if_neg (by decide)).trans (if_pos (by decide))
theorem sh_216 {l v s n : Int32} : shN16 l 2 v s n = if s = 1 ∧ n = v then 1 else 0 := (if_neg (by decide)).trans ((if_neg (by decide)).trans (if_pos rfl))
theorem sh_316 {l v s n : Int32} : shN16 l 3 v s n = if s = 2 ∧ n = v then 1 else 0 := (if_neg (by decide)).trans (if_pos (by decide))
theorem sh_416 {l v s n : Int32} : shN16 l 4 v s n = if s = 3 then 1 else 0 := (if_neg (by decide)).trans ((if_neg (by decide)).trans ((if_neg (by decide)).trans (if_pos rfl)))
theorem sh_516 {l v s n : Int32} : shN16 l 5 v s n = if s = 0 then 0 else 1 := (if_neg (by decide)).trans ((if_neg (by decide)).trans ((if_neg (by decide)).trans ((if_neg (by decide)).trans (if_pos rfl))))
theorem sh_616 {l v s n : Int32} : shN16 l 6 v s n = if s = 1 ∨ s = 2 then 1 else 0 := (if_neg (by decide)).trans ((if_neg (by decide)).trans ((if_neg (by decide)).trans ((if_neg (by decide)).trans ((if_neg (by decide)).trans (if_pos rfl)))))
theorem sh_716 {l v s n : Int32} : shN16 l 7 v s n = if s = 1 then 1 else 0 := (if_neg (by decide)).trans ((if_neg (by decide)).trans ((if_neg (by decide)).trans ((if_neg (by decide)).trans ((if_neg (by decide)).trans ((if_neg (by decide)).trans (if_pos rfl))))))
theorem sh_e16 {l kind v s n : Int32} (h : kind.toInt < 0 ∨ 7 < kind.toInt) : shN16 l kind v s n = if s = 1 then l.toInt else 0 := by
  have ne : ∀ k : Int32, 0 ≤ k.toInt → k.toInt ≤ 7 → kind ≠ k := fun k h0 h1 e => by rw [e] at h; omega
  have n0 := ne 0 (by decide) (by decide)
  have n1 := ne 1 (by decide) (by decide)
  have n2 := ne 2 (by decide) (by decide)
  have n3 := ne 3 (by decide) (by decide)
  have n4 := ne 4 (by decide) (by decide)
  have n5 := ne 5 (by decide) (by decide)
  have n6 := ne 6 (by decide) (by decide)
  have n7 := ne 7 (by decide) (by decide)
  unfold shN16
  rw [if_neg n0, if_neg (fun z => z.elim n1 n3), if_neg n2, if_neg n4, if_neg n5, if_neg n6, if_neg n7]
theorem dm_16 {p q : Int} (h : q < p) : (p - (q + 1)).toNat < (p - q).toNat := by omega
theorem ik_16 {a k : Int32} (h : a.toInt = k.toInt) : a = k := Int32.toInt_inj.mp h
theorem Od_share_q6 {C : zC} {n0 : Nat} {a0 : Nat} {a1 : Int32} {a2 : Int32} {a3 : Int32} {a4 : Int32} {κ : zS} {Q : Int64 → zS → Prop} (W : zW C n0 κ) (Ta0 : zT κ a0 = 9) (l9 : Int32) (h9 : a3 = 1 → ∀ i : Int32, i.toInt = (zI κ coVars (zR κ atCode (zR κ odAtlas a0))).toInt + (zI κ coCells (zR κ atCode (zR κ odAtlas a0))).toInt → pV9 κ (zR κ atEndings (zR κ odAtlas a0)) a4 i = l9) (hp : coI κ (zR κ atCode (zR κ odAtlas a0)) ∧ hoI κ (zR κ atEndings (zR κ odAtlas a0)) 1000 35 2048) (h : ∀ (v : Int64), (((-2147483648 ≤ v.toInt ∧ v.toInt < 2147483648) ∧ (0 ≤ a1.toInt → a1.toInt ≤ 7 → 0 ≤ v.toInt ∧ v.toInt ≤ 1) ∧ (a4 = 0 → enZ9 κ (zR κ odAtlas a0) → 0 ≤ v.toInt)) ∧ (v.toInt = shN16 l9 a1 a2 a3 a4)) → Q v κ) : zRun C 3 mOd_share [.ref a0, .int a1, .int a2, .int a3, .int a4] κ (oJ Q noX) := by
  refine Od_share_run W Ta0 ?_
  replace W := W.lo (Nat.le_trans W.1.2.1 W.1.2.2) (Nat.le_refl (zn κ))
  unfold w_Od_share_0
  have z0 : (-2147483648 ≤ (0 : Int64).toInt ∧ (0 : Int64).toInt < 2147483648) ∧ (0 ≤ a1.toInt → a1.toInt ≤ 7 → 0 ≤ (0 : Int64).toInt ∧ (0 : Int64).toInt ≤ 1) ∧ (a4 = 0 → enZ9 κ (zR κ odAtlas a0) → 0 ≤ (0 : Int64).toInt) := ⟨by decide, fun _ _ => by decide, fun _ _ => by decide⟩
  have z1 : (-2147483648 ≤ (1 : Int64).toInt ∧ (1 : Int64).toInt < 2147483648) ∧ (0 ≤ a1.toInt → a1.toInt ≤ 7 → 0 ≤ (1 : Int64).toInt ∧ (1 : Int64).toInt ≤ 1) ∧ (a4 = 0 → enZ9 κ (zR κ odAtlas a0) → 0 ≤ (1 : Int64).toInt) := ⟨by decide, fun _ _ => by decide, fun _ _ => by decide⟩
  have hj10 : ∀ (l0 : Nat) (l1 : Int32) (l2 : Int32) (l3 : Int32) (l4 : Int32) (s0 : Int32) (τ : zS), zW C (zn κ) τ → zT τ l0 = 9 → ((κ = τ ∧ a0 = l0 ∧ a1 = l1 ∧ a2 = l2 ∧ a3 = l3 ∧ a4 = l4 ∧ True) ∧ (s0 ≠ 0 ↔ a3 = 1)) → w_Od_share_10 C (zn κ) Q  l0 l1 l2 l3 l4 s0 τ := by
    rintro _ _ _ _ _ y10_s0 _ W10 T10_0 ⟨⟨rfl, rfl, rfl, rfl, rfl, rfl, j10⟩, hE⟩
    unfold w_Od_share_10
    refine ⟨fun c1 => ?_, fun c1 => ?_, fun c1 => ?_, fun c1 => ?_, fun c1 => ?_, fun c1 => ?_, fun c1 => ?_, fun c1 => ?_, fun c1 => ?_⟩
    · skip
      refine ⟨fun c2 => ?_, fun c2 => ?_⟩
      · skip
        refine h _ ?_
        · refine and_5 ?_ (fun o9 => ?_)  -- q1
          · first | exact z0 | exact z1
          · rw [sh_e16 c1, if_neg (fun z => hE.mpr z c2)]; rfl
      · skip
        intro T3
        refine Od_lastOf_c W10 T3  ?_ (fun r4 q6 => ?_)
        · exact hp  -- p2
        intro W7
        intro M8
        refine h _ ?_
        · refine and_5 ?_ (fun o9 => ?_)  -- q3
          · have e := Int32.toInt_toInt64 r4
            have e1 := ilo r4
            have e2 := ihi r4
            refine ⟨⟨by omega, by omega⟩, fun g1 g2 => by omega, fun g1 g2 => ?_⟩
            obtain ⟨i, hi, hv⟩ := q6
            have q := g2 i hi
            rw [g1] at hv
            rw [e, hv]
            exact q
          · obtain ⟨i, hi, hv⟩ := q6
            rw [sh_e16 c1, if_pos (hE.mp c2), Int32.toInt_toInt64, hv, h9 (hE.mp c2) i hi]
    · skip
      refine ⟨fun c9 => ?_, fun c9 => ?_⟩
      · skip
        refine h _ ?_
        · refine and_5 ?_ (fun o9 => ?_)  -- q4
          · first | exact z0 | exact z1
          · rw [ik_16 (k := 0) c1, sh_016, if_neg (fun z => hE.mpr z.1 c9)]; rfl
      · skip
        intro T10
        refine Od_lastOf_c W10 T10  ?_ (fun r11 q13 => ?_)
        · exact hp  -- p5
        intro W14
        intro M15
        refine ⟨fun c16 => ?_, fun c16 => ?_⟩
        · skip
          refine h _ ?_
          · refine and_5 ?_ (fun o9 => ?_)  -- q6
            · first | exact z0 | exact z1
            · obtain ⟨i, hi, hv⟩ := q13
              rw [ik_16 (k := 0) c1, sh_016, if_neg (fun z => c16 (hv.trans ((h9 z.1 i hi).trans z.2)))]; rfl
        · skip
          refine h _ ?_
          · refine and_5 ?_ (fun o9 => ?_)  -- q7
            · first | exact z0 | exact z1
            · obtain ⟨i, hi, hv⟩ := q13
              rw [ik_16 (k := 0) c1, sh_016, if_pos ⟨hE.mp c9, (h9 (hE.mp c9) i hi).symm.trans (hv.symm.trans c16)⟩]; rfl
    · skip
      refine ⟨fun c17 => ?_, fun c17 => ?_⟩
      · skip
        refine h _ ?_
        · refine and_5 ?_ (fun o9 => ?_)  -- q8
          · first | exact z0 | exact z1
          · rw [ik_16 (k := 1) c1, sh_116, if_neg (fun z => c17 z.1)]; rfl
      · skip
        refine ⟨fun c18 => ?_, fun c18 => ?_⟩
        · skip
          refine h _ ?_
          · refine and_5 ?_ (fun o9 => ?_)  -- q9
            · first | exact z0 | exact z1
            · rw [ik_16 (k := 1) c1, sh_116, if_neg (fun z => c18 z.2)]; rfl
        · skip
          refine h _ ?_
          · refine and_5 ?_ (fun o9 => ?_)  -- q10
            · first | exact z0 | exact z1
            · rw [ik_16 (k := 1) c1, sh_116, if_pos ⟨c17, c18⟩]; rfl
    · skip
      refine ⟨fun c19 => ?_, fun c19 => ?_⟩
      · skip
        refine h _ ?_
        · refine and_5 ?_ (fun o9 => ?_)  -- q11
          · first | exact z0 | exact z1
          · rw [ik_16 (k := 2) c1, sh_216, if_neg (fun z => hE.mpr z.1 c19)]; rfl
      · skip
        refine ⟨fun c20 => ?_, fun c20 => ?_⟩
        · skip
          refine h _ ?_
          · refine and_5 ?_ (fun o9 => ?_)  -- q12
            · first | exact z0 | exact z1
            · rw [ik_16 (k := 2) c1, sh_216, if_neg (fun z => c20 z.2)]; rfl
        · skip
          refine h _ ?_
          · refine and_5 ?_ (fun o9 => ?_)  -- q13
            · first | exact z0 | exact z1
            · rw [ik_16 (k := 2) c1, sh_216, if_pos ⟨hE.mp c19, c20⟩]; rfl
    · skip
      refine ⟨fun c21 => ?_, fun c21 => ?_⟩
      · skip
        refine h _ ?_
        · refine and_5 ?_ (fun o9 => ?_)  -- q14
          · first | exact z0 | exact z1
          · rw [ik_16 (k := 3) c1, sh_316, if_neg (fun z => c21 z.1)]; rfl
      · skip
        refine ⟨fun c22 => ?_, fun c22 => ?_⟩
        · skip
          refine h _ ?_
          · refine and_5 ?_ (fun o9 => ?_)  -- q15
            · first | exact z0 | exact z1
            · rw [ik_16 (k := 3) c1, sh_316, if_neg (fun z => c22 z.2)]; rfl
        · skip
          refine h _ ?_
          · refine and_5 ?_ (fun o9 => ?_)  -- q16
            · first | exact z0 | exact z1
            · rw [ik_16 (k := 3) c1, sh_316, if_pos ⟨c21, c22⟩]; rfl
    · skip
      refine ⟨fun c23 => ?_, fun c23 => ?_⟩
      · skip
        refine h _ ?_
        · refine and_5 ?_ (fun o9 => ?_)  -- q17
          · first | exact z0 | exact z1
          · rw [ik_16 (k := 4) c1, sh_416, if_neg c23]; rfl
      · skip
        refine h _ ?_
        · refine and_5 ?_ (fun o9 => ?_)  -- q18
          · first | exact z0 | exact z1
          · rw [ik_16 (k := 4) c1, sh_416, if_pos c23]; rfl
    · skip
      refine ⟨fun c24 => ?_, fun c24 => ?_⟩
      · skip
        refine h _ ?_
        · refine and_5 ?_ (fun o9 => ?_)  -- q19
          · first | exact z0 | exact z1
          · rw [ik_16 (k := 5) c1, sh_516, if_pos c24]; rfl
      · skip
        refine h _ ?_
        · refine and_5 ?_ (fun o9 => ?_)  -- q20
          · first | exact z0 | exact z1
          · rw [ik_16 (k := 5) c1, sh_516, if_neg c24]; rfl
    · skip
      refine ⟨fun c25 => ?_, fun c25 => ?_⟩
      · skip
        refine h _ ?_
        · refine and_5 ?_ (fun o9 => ?_)  -- q21
          · first | exact z0 | exact z1
          · rw [ik_16 (k := 6) c1, sh_616, if_pos (Or.inl (hE.mp c25))]; rfl
      · skip
        refine ⟨fun c26 => ?_, fun c26 => ?_⟩
        · skip
          refine h _ ?_
          · refine and_5 ?_ (fun o9 => ?_)  -- q22
            · first | exact z0 | exact z1
            · rw [ik_16 (k := 6) c1, sh_616, if_neg (fun z => z.elim (fun y => hE.mpr y c25) c26)]; rfl
        · skip
          refine h _ ?_
          · refine and_5 ?_ (fun o9 => ?_)  -- q23
            · first | exact z0 | exact z1
            · rw [ik_16 (k := 6) c1, sh_616, if_pos (Or.inr c26)]; rfl
    · skip
      refine ⟨fun c27 => ?_, fun c27 => ?_⟩
      · skip
        refine h _ ?_
        · refine and_5 ?_ (fun o9 => ?_)  -- q24
          · first | exact z0 | exact z1
          · rw [ik_16 (k := 7) c1, sh_716, if_neg (fun z => hE.mpr z c27)]; rfl
      · skip
        refine h _ ?_
        · refine and_5 ?_ (fun o9 => ?_)  -- q25
          · first | exact z0 | exact z1
          · rw [ik_16 (k := 7) c1, sh_716, if_pos (hE.mp c27)]; rfl
  refine ⟨fun c28 => ?_, fun c28 => ?_⟩
  · skip
    refine hj10 _ _ _ _ _ _ _ W ?_ ?_
    · exact Ta0  -- t26
    · refine and_5 ?_ (fun o9 => ⟨fun z => absurd rfl z, fun z => absurd z c28⟩)  -- k27
      exact ⟨rfl, rfl, rfl, rfl, rfl, rfl, trivial⟩
  · skip
    refine hj10 _ _ _ _ _ _ _ W ?_ ?_
    · exact Ta0  -- t28
    · refine and_5 ?_ (fun o9 => ⟨fun _ => c28, fun _ => by decide⟩)  -- k29
      exact ⟨rfl, rfl, rfl, rfl, rfl, rfl, trivial⟩

/-- a next, a state's units -/
def si16 (σ : rS) (kind v : Int32) (i : Nat) : Int := shN16 (σ.2.2.1 75 (35 * σ.2.2.1 78 i).toNatClampNeg) kind v (σ.2.2.1 77 i) (σ.2.2.1 78 i)
def uI16 (σ : rS) (sh : Nat → Int) (k n : Nat) : Int := sI (fun d => twI σ k (loN σ k + d) * sh (loN σ k + d)) n
def uV16 (σ : rS) (V : Nat → Rat) (kind v : Int32) (k : Nat) : Int := if V k = 0 then 0 else uI16 σ (si16 σ kind v) k (leN σ k)
/-- the last numbers of endings, of both sides -/
def lst16 (κ : zS) (b : Nat) (σ : rS) : Prop := ∀ e i : Int32, 0 ≤ e.toInt → e < σ.1 71 → i.toInt = (zI κ coVars (zR κ atCode b)).toInt + (zI κ coCells (zR κ atCode b)).toInt → pV9 κ (zR κ atEndings b) e i = σ.2.2.1 75 (35 * e).toNatClampNeg
theorem uI_s16 {σ : rS} {sh : Nat → Int} {k n : Nat} : uI16 σ sh k (n + 1) = uI16 σ sh k n + twI σ k (loN σ k + n) * sh (loN σ k + n) := rfl
theorem tk_16 {κ : zS} {b n : Nat} {σ : rS} (h : tbl15 κ b n σ) {k : Nat} (hk : k < n) {i : Int32} (h1 : (zA κ (zR κ atFirsts b) k).toInt ≤ i.toInt) (h2 : i.toInt < (zA κ (zR κ atFirsts b) (k + 1)).toInt) : (¬ (zA κ (zR κ atChooses b) k = 0 ∨ i = zA κ (zR κ atFirsts b) k + zA κ (zR κ atPlan b) k) → twI σ k i.toNatClampNeg = 0) ∧ ((zA κ (zR κ atChooses b) k = 0 ∨ i = zA κ (zR κ atFirsts b) k + zA κ (zR κ atPlan b) k) → twI σ k i.toNatClampNeg = (zA κ (zR κ atWeights b) i.toNatClampNeg).toInt) := by
  have B := tb_n15 h
  have X := tb_k15 h hk
  have f := h.2.1 k hk
  have c := h.2.2.2.1 k hk
  have wt := (h.1.2.2.2.2.2.2.2 k hk).2.2.2.2
  rw [f.1] at h1 ⊢
  rw [f.2] at h2
  have ci := cnk (x := i) (by omega)
  have r := h.2.2.1 i.toNatClampNeg (by omega)
  rw [c.1, c.2.2]
  unfold twI
  by_cases z : σ.2.2.1 81 k = 0
  · rw [if_pos z, r.2.2]
    exact ⟨fun y => absurd (Or.inl z) y, fun _ => rfl⟩
  · rw [if_neg z]
    have ek : (Int32.ofNat k).toNatClampNeg = k := cl_5 (by omega)
    have ei : (Int32.ofNat k).toInt = (k : Int) := ofn_i (by omega)
    have as : (Int32.ofNat k + 1).toNatClampNeg = k + 1 := by rw [(cn1 (by rw [ei]; omega) (by rw [ei]; omega)).1, ek]
    have pl := h.1.1.2 (Int32.ofNat k) (by rw [lei, t0i, ei]; omega) (by rw [lti, ei]; omega) (by rw [rd, ek]; exact z)
    simp only [rd, ek, as] at pl
    have p0 := pl.1
    have p1 := pl.2
    rw [lei, t0i] at p0
    rw [lti, sub_i (by omega) (by omega)] at p1
    have pp : (0 : Int32) ≤ σ.2.2.1 76 k + σ.2.2.1 83 k := by
      rw [lei, t0i, add_i (by omega) (by omega)]
      omega
    constructor
    · intro y
      rw [if_neg (fun e => y (Or.inr (cj_15 (by rw [lei, t0i]; omega) pp e)))]
    · intro y
      rw [if_pos (by rw [y.resolve_left z])]
      have w := wt (by rw [c.1]; exact z) i.toNatClampNeg (by rw [f.1]; omega) (by rw [f.2]; omega)
      exact w.symm
theorem ls_16 {κ : zS} {b n : Nat} {σ : rS} (h : tbl15 κ b n σ) (hL : lst16 κ b σ) {k : Nat} (hk : k < n) {i : Int32} (h1 : (zA κ (zR κ atFirsts b) k).toInt ≤ i.toInt) (h2 : i.toInt < (zA κ (zR κ atFirsts b) (k + 1)).toInt) : zA κ (zR κ atSorts b) i.toNatClampNeg = 1 → ∀ j : Int32, j.toInt = (zI κ coVars (zR κ atCode b)).toInt + (zI κ coCells (zR κ atCode b)).toInt → pV9 κ (zR κ atEndings b) (zA κ (zR κ atNumbers b) i.toNatClampNeg) j = σ.2.2.1 75 (35 * σ.2.2.1 78 i.toNatClampNeg).toNatClampNeg := by
  have B := tb_n15 h
  have X := tb_k15 h hk
  have f := h.2.1 k hk
  rw [f.1] at h1
  rw [f.2] at h2
  have ci := cnk (x := i) (by omega)
  have r := h.2.2.1 i.toNatClampNeg (by omega)
  obtain ⟨_, lo⟩ := lo_r8 h.1.1.1 (x := k) (by rw [← h.1.2.1]; exact hk)
  rw [lei] at lo
  have c72 := cnk (x := σ.1 72) (by omega)
  have nx := (h.1.1.1.2.2.2.2 i.toNatClampNeg (by omega)).2.2
  rw [r.1, r.2.1]
  intro s j hj
  have y := nx s
  have y0 := y.1
  rw [lei, t0i] at y0
  exact hL _ j y0 y.2 hj
theorem Od_unitsOf_q6 {C : zC} {n0 : Nat} {a0 : Nat} {a1 : Int32} {a2 : Int32} {a3 : Int32} {κ : zS} {Q : Int64 → zS → Prop} (W : zW C n0 κ) (Ta0 : zT κ a0 = 9) (ρ : Nat → Nat) (n9 P9 : Nat) (σ9 : rS) (V9 : Nat → Rat) (hT9 : tbl15 κ (zR κ odAtlas a0) n9 σ9) (hL9 : lst16 κ (zR κ odAtlas a0) σ9) (hV9 : vV15 κ (zR κ odSolver a0) n9 V9) (hp : odX9 ρ κ a0 n9 P9 ∧ 0 ≤ a1.toInt ∧ a1.toInt < n9) (h : ∀ (v : Int64), (((-17179869184000000 ≤ v.toInt ∧ v.toInt ≤ 17179869184000000) ∧ (0 ≤ a2.toInt → a2.toInt ≤ 7 → 0 ≤ v.toInt) ∧ (v ≠ 0 → zI κ raSign (vU9 κ (zR κ odSolver a0) a1.toNatClampNeg) ≠ 0)) ∧ (v.toInt = uV16 σ9 V9 a2 a3 a1.toNatClampNeg)) → Q v κ) : zRun C 4 mOd_unitsOf [.ref a0, .int a1, .int a2, .int a3] κ (oJ Q noX) := by
  refine Od_unitsOf_run W Ta0 ?_
  replace W := W.lo (Nat.le_trans W.1.2.1 W.1.2.2) (Nat.le_refl (zn κ))
  unfold w_Od_unitsOf_0
  obtain ⟨X0, p1, p2⟩ := hp
  have kn := cnk p1
  obtain ⟨⟨x1, x2⟩, x3, ⟨⟨A1, A2, A3, A4, A5, A6⟩, x5⟩, x6, ⟨x7, _⟩, x8⟩ := X0
  obtain ⟨⟨f0, f1, f2⟩, nx, ⟨w1, w2⟩, _, _⟩ := A6 a1.toNatClampNeg (by omega)
  obtain ⟨v1, v2, v3⟩ := x6 a1.toNatClampNeg (by omega)
  have i1 := cn1 (x := a1) p1 (by omega)
  have a20 := A2.2.2
  refine ⟨?_, ?_⟩
  · rw [inb_iff]; omega  -- b1
  refine ex_some ?_ (fun u1 hu1 => ?_)
  · exact ⟨_, v1⟩  -- e2
  have eu : u1 = vU9 κ (zR κ odSolver a0) a1.toNatClampNeg := Option.some.inj (hu1.symm.trans v1)
  refine ⟨fun c2 => ?_, fun c2 => ?_⟩
  · skip
    refine h _ ?_
    · refine and_5 ?_ (fun o9 => ?_)  -- q3
      · exact ⟨by decide, fun _ _ => by decide, fun z => absurd rfl z⟩
      · have z : V9 a1.toNatClampNeg = 0 := Decidable.byContradiction (fun ne => (rq_015 (hV9 _ (show a1.toNatClampNeg < n9 by omega)).1).mpr ne (by rw [← eu]; exact c2))
        unfold uV16
        rw [if_pos z]
        rfl
  · skip
    refine ⟨?_, ?_⟩
    · rw [inb_iff, A1.1]; omega  -- b4
    intro x3 hx3
    unfold w_Od_unitsOf_29
    refine ⟨fun n l0 l1 l2 l3 l4 l6 τ => n = ((zA κ (zR κ atFirsts (zR κ odAtlas a0)) (a1.toNatClampNeg + 1)).toInt - l6.toInt).toNat ∧ ((κ = τ ∧ a0 = l0 ∧ a1 = l1 ∧ a2 = l2 ∧ a3 = l3 ∧ ((zA κ (zR κ atFirsts (zR κ odAtlas a0)) a1.toNatClampNeg).toInt ≤ l6.toInt ∧ l6.toInt ≤ (zA κ (zR κ atFirsts (zR κ odAtlas a0)) (a1.toNatClampNeg + 1)).toInt) ∧ (-2147483648 * wSm (zA κ (zR κ atWeights (zR κ odAtlas a0))) ((zA κ (zR κ atFirsts (zR κ odAtlas a0)) a1.toNatClampNeg).toInt) l6.toInt ≤ l4.toInt ∧ l4.toInt ≤ 2147483648 * wSm (zA κ (zR κ atWeights (zR κ odAtlas a0))) ((zA κ (zR κ atFirsts (zR κ odAtlas a0)) a1.toNatClampNeg).toInt) l6.toInt) ∧ (0 ≤ a2.toInt → a2.toInt ≤ 7 → 0 ≤ l4.toInt)) ∧ l4.toInt = uI16 σ9 (si16 σ9 a2 a3) a1.toNatClampNeg (l6.toNatClampNeg - loN σ9 a1.toNatClampNeg)), ⟨_, rfl, ?_⟩, ?_⟩
    · refine and_5 ?_ (fun o9 => ?_)  -- j5
      · refine ⟨rfl, rfl, rfl, rfl, rfl, ⟨by rw [hx3]; exact Int.le_refl _, by rw [hx3]; exact f1⟩, ⟨?_, ?_⟩, fun _ _ => by decide⟩
        · rw [hx3, wSm_0]; decide
        · rw [hx3, wSm_0]; decide
      · rw [hx3, (hT9.2.1 _ (show a1.toNatClampNeg < n9 by omega)).1, show (σ9.2.2.1 76 a1.toNatClampNeg).toNatClampNeg = loN σ9 a1.toNatClampNeg from rfl, Nat.sub_self]
        rfl
    rintro n29 _ _ _ _ x29_4 x29_6 _ W29 T29_0 ⟨hn29, ⟨rfl, rfl, rfl, rfl, rfl, i29⟩, hE⟩
    obtain ⟨⟨l1, l2⟩, ⟨l3, l4⟩, l5⟩ := i29
    have kl := cnk (x := x29_6) (by omega)
    have wr := wSm_r9 (Wt := zA κ (zR κ atWeights (zR κ odAtlas a0))) f0 l2 (fun i a b => (nx i a b).2.2)
    refine ⟨?_, ?_⟩
    · rw [inb_iff, i1.2, A1.1]; omega  -- b6
    refine ⟨fun c4 => ?_, fun c4 => ?_⟩
    · skip
      refine h _ ?_
      · refine and_5 ?_ (fun o9 => ?_)  -- q7
        · exact ⟨⟨by omega, by omega⟩, l5, fun _ => by rw [← eu]; exact c2⟩
        · have ne : V9 a1.toNatClampNeg ≠ 0 := (rq_015 (hV9 _ (show a1.toNatClampNeg < n9 by omega)).1).mp (by rw [← eu]; exact c2)
          have t := hT9.2.1 a1.toNatClampNeg (by omega)
          rw [i1.1, lei] at c4
          have e : x29_6.toNatClampNeg - loN σ9 a1.toNatClampNeg = leN σ9 a1.toNatClampNeg := by
            unfold leN
            have z : x29_6.toNatClampNeg = (σ9.2.2.1 76 (a1.toNatClampNeg + 1)).toNatClampNeg := by
              rw [← t.2]
              have c := cnk (x := zA κ (zR κ atFirsts (zR κ odAtlas a0)) (a1.toNatClampNeg + 1)) (by omega)
              omega
            rw [z]
          unfold uV16
          rw [if_neg ne, ← e]
          exact hE
    · skip
      intro T5
      rw [i1.1, lei] at c4
      have nxi := nx x29_6.toNatClampNeg (by omega) (by omega)
      have wx := wSm_ex (Wt := zA κ (zR κ atWeights (zR κ odAtlas a0))) (Wt' := zA κ (zR κ atWeights (zR κ odAtlas a0))) (lo := (zA κ (zR κ atFirsts (zR κ odAtlas a0)) a1.toNatClampNeg).toInt) (hi := x29_6.toInt) f0 l1 (fun _ _ => rfl)
      have kt : x29_6.toInt.toNat = x29_6.toNatClampNeg := rfl
      rw [kt] at wx
      have wr2 := wSm_r9 (Wt := zA κ (zR κ atWeights (zR κ odAtlas a0))) (x := x29_6.toInt + 1) f0 (by omega) (fun i a b => (nx i a b).2.2)
      have ix := cn1 (x := x29_6) (by omega) (by omega)
      have wn := nxi.2.2
      refine At_isTaken_c W29 T5  ?_ (fun r6 q8 => ?_)
      · exact ⟨A1, p1, by omega⟩  -- p8
      intro W9
      intro M10
      refine ⟨fun c11 => ?_, fun c11 => ?_⟩
      · skip
        intro x12 hx12
        refine lp_b5 ?_ (fun d9 => ⟨rfl, ?_⟩)
        · rw [hn29, hx12, ix.2]; omega  -- d9
        · refine and_5 ?_ (fun o9 => ?_)  -- i10
          · refine ⟨rfl, rfl, rfl, rfl, rfl, ⟨by rw [hx12, ix.2]; omega, by rw [hx12, ix.2]; omega⟩, ⟨?_, ?_⟩, l5⟩
            · rw [hx12, ix.2, wx]; omega
            · rw [hx12, ix.2, wx]; omega
          · have t := (tk_16 hT9 (show a1.toNatClampNeg < n9 by omega) l1 (by omega)).1 (fun y => q8.2.mpr y c11)
            have f0' := (hT9.2.1 _ (show a1.toNatClampNeg < n9 by omega)).1
            have cl := cnk f0
            rw [f0'] at cl
            have lo : (loN σ9 a1.toNatClampNeg : Int) = (zA κ (zR κ atFirsts (zR κ odAtlas a0)) a1.toNatClampNeg).toInt := by rw [f0']; exact cl
            rw [hx12, ix.1, show x29_6.toNatClampNeg + 1 - loN σ9 a1.toNatClampNeg = (x29_6.toNatClampNeg - loN σ9 a1.toNatClampNeg) + 1 by omega, uI_s16, show loN σ9 a1.toNatClampNeg + (x29_6.toNatClampNeg - loN σ9 a1.toNatClampNeg) = x29_6.toNatClampNeg by omega, t, Int.zero_mul, Int.add_zero]
            exact hE
      · skip
        refine ⟨?_, ?_⟩
        · rw [inb_iff, A2.1.1]; omega  -- b11
        refine ⟨?_, ?_⟩
        · rw [inb_iff]; omega  -- b12
        intro T13
        refine Od_share_q6 W9 T13 (σ9.2.2.1 75 (35 * σ9.2.2.1 78 x29_6.toNatClampNeg).toNatClampNeg) (ls_16 hT9 hL9 (show a1.toNatClampNeg < n9 by omega) l1 (by omega)) ?_ (fun r14 q16 => ?_)
        · exact ⟨x7, x8⟩  -- p13
        obtain ⟨q16, z9⟩ := q16
        have zp : r14.toInt * (zA κ (zR κ atWeights (zR κ odAtlas a0)) x29_6.toNatClampNeg).toInt = si16 σ9 a2 a3 x29_6.toNatClampNeg * twI σ9 a1.toNatClampNeg x29_6.toNatClampNeg := by
          have r := hT9.2.2.1 x29_6.toNatClampNeg (by have B := tb_k15 hT9 (show a1.toNatClampNeg < n9 by omega); rw [← (hT9.2.1 _ (show a1.toNatClampNeg < n9 by omega)).2] at B; omega)
          rw [(tk_16 hT9 (show a1.toNatClampNeg < n9 by omega) l1 (by omega)).2 (q8.2.mp c11), z9, r.1, r.2.1]
          rfl
        intro W17
        intro M18
        refine ⟨?_, ?_⟩
        · rw [inb_iff, A2.1.2]; omega  -- b14
        intro x19 hx19
        intro x20 hx20
        have m := sw_9 (s := r14) (w := zA κ (zR κ atWeights (zR κ odAtlas a0)) x29_6.toNatClampNeg) q16.1.1 q16.1.2 wn
        obtain ⟨m1, m2, m3, m4⟩ := m
        have q16b := q16.2.1
        generalize r14.toInt * (zA κ (zR κ atWeights (zR κ odAtlas a0)) x29_6.toNatClampNeg).toInt = pr at *
        have ea : x19.toInt = x29_4.toInt + pr := by rw [hx19, jadd_i (by rw [m1]; omega) (by rw [m1]; omega), m1]
        refine lp_b5 ?_ (fun d9 => ⟨rfl, ?_⟩)
        · rw [hn29, hx20, ix.2]; omega  -- d15
        · refine and_5 ?_ (fun o9 => ?_)  -- i16
          · refine ⟨rfl, rfl, rfl, rfl, rfl, ⟨by rw [hx20, ix.2]; omega, by rw [hx20, ix.2]; omega⟩, ⟨?_, ?_⟩, fun g1 g2 => ?_⟩
            · rw [hx20, ix.2, wx, ea]; omega
            · rw [hx20, ix.2, wx, ea]; omega
            · have y := m4 (q16b g1 g2).1
              have y2 := l5 g1 g2
              rw [ea]; omega
          · have f0' := (hT9.2.1 _ (show a1.toNatClampNeg < n9 by omega)).1
            have cl := cnk f0
            rw [f0'] at cl
            have lo : (loN σ9 a1.toNatClampNeg : Int) = (zA κ (zR κ atFirsts (zR κ odAtlas a0)) a1.toNatClampNeg).toInt := by rw [f0']; exact cl
            rw [hx20, ix.1, show x29_6.toNatClampNeg + 1 - loN σ9 a1.toNatClampNeg = (x29_6.toNatClampNeg - loN σ9 a1.toNatClampNeg) + 1 by omega, uI_s16, show loN σ9 a1.toNatClampNeg + (x29_6.toNatClampNeg - loN σ9 a1.toNatClampNeg) = x29_6.toNatClampNeg by omega, ← hE, ea, zp, Int.mul_comm]

theorem Od_weighs_q6 {C : zC} {n0 : Nat} {a0 : Nat} {a1 : Int32} {κ : zS} {Q : Int32 → zS → Prop} (W : zW C n0 κ) (Ta0 : zT κ a0 = 9) (ρ : Nat → Nat) (n9 P9 : Nat) (σ9 : rS) (V9 : Nat → Rat) (hT9 : tbl15 κ (zR κ odAtlas a0) n9 σ9) (hL9 : lst16 κ (zR κ odAtlas a0) σ9) (hV9 : vV15 κ (zR κ odSolver a0) n9 V9) (hp : odX9 ρ κ a0 n9 P9) (h : ∀ (v : Int32), ((nb v) ∧ ((v ≠ 0 ↔ n9 = 0 ∨ ∃ k, k < n9 ∧ uV16 σ9 V9 a1 0 k ≠ 0))) → Q v κ) : zRun C 5 mOd_weighs [.ref a0, .int a1] κ (oI Q noX) := by
  refine Od_weighs_run W Ta0 ?_
  replace W := W.lo (Nat.le_trans W.1.2.1 W.1.2.2) (Nat.le_refl (zn κ))
  unfold w_Od_weighs_0
  have A := hp.2.2.1.1
  have hn := A.2.2.1
  have tot := A.2.2.2.1
  have hj20 : ∀ (l0 : Nat) (l1 : Int32) (l2 : Int32) (s0 : Int32) (τ : zS), zW C (zn κ) τ → zT τ l0 = 9 → ((κ = τ ∧ a0 = l0 ∧ a1 = l1 ∧ nb s0 ∧ l2.toInt = (n9 : Int)) ∧ (s0 ≠ 0 ↔ n9 = 0)) → w_Od_weighs_20 C (zn κ) Q  l0 l1 l2 s0 τ := by
    rintro _ _ y20_2 y20_s0 _ W20 T20_0 ⟨⟨rfl, rfl, rfl, j20⟩, hE⟩
    unfold w_Od_weighs_20
    unfold w_Od_weighs_24
    refine ⟨fun n l0 l1 l2 l3 l4 τ => n = (l2.toInt - l4.toInt).toNat ∧ ((κ = τ ∧ a0 = l0 ∧ a1 = l1 ∧ l2.toInt = (n9 : Int) ∧ nb l3 ∧ 0 ≤ l4.toInt) ∧ l4.toNatClampNeg ≤ n9 ∧ (l3 ≠ 0 ↔ n9 = 0 ∨ ∃ k, k < l4.toNatClampNeg ∧ uV16 σ9 V9 a1 0 k ≠ 0)), ⟨_, rfl, ?_⟩, ?_⟩
    · refine and_5 ?_ (fun o9 => ⟨Nat.zero_le _, hE.trans ⟨Or.inl, fun z => z.resolve_right (fun ⟨k, hk, _⟩ => absurd hk (Nat.not_lt_zero k))⟩⟩)  -- j1
      exact ⟨rfl, rfl, rfl, j20.2, j20.1, by decide⟩
    rintro n24 _ _ x24_2 x24_3 x24_4 _ W24 T24_0 ⟨hn24, ⟨rfl, rfl, rfl, i24⟩, hE⟩
    obtain ⟨m1, m2, m3⟩ := i24
    have hj52 : ∀ (l0 : Nat) (l1 : Int32) (l2 : Int32) (l4 : Int32) (s0 : Int32) (τ : zS), zW C (zn κ) τ → zT τ l0 = 9 → ((κ = τ ∧ a0 = l0 ∧ a1 = l1 ∧ nb s0 ∧ 0 ≤ l4.toInt ∧ l4.toInt < l2.toInt ∧ x24_4 = l4 ∧ x24_2 = l2) ∧ (s0 ≠ 0 ↔ n9 = 0 ∨ ∃ k, k < l4.toNatClampNeg + 1 ∧ uV16 σ9 V9 a1 0 k ≠ 0)) → w_Od_weighs_52 C (zn κ) Q (fun (l0' : Nat) (l1' : Int32) (l2' : Int32) (l3' : Int32) (l4' : Int32) (τ : zS) => ∃ k < n24, (fun (n : Nat) (l0 : Nat) (l1 : Int32) (l2 : Int32) (l3 : Int32) (l4 : Int32) (τ : zS) => n = (l2.toInt - l4.toInt).toNat ∧ ((κ = τ ∧ a0 = l0 ∧ a1 = l1 ∧ l2.toInt = (n9 : Int) ∧ nb l3 ∧ 0 ≤ l4.toInt) ∧ l4.toNatClampNeg ≤ n9 ∧ (l3 ≠ 0 ↔ n9 = 0 ∨ ∃ k, k < l4.toNatClampNeg ∧ uV16 σ9 V9 a1 0 k ≠ 0))) k l0' l1' l2' l3' l4' τ) l0 l1 l2 l4 s0 τ := by
      rintro _ _ y52_2 y52_4 y52_s0 _ W52 T52_0 ⟨⟨rfl, rfl, rfl, j52⟩, hE⟩
      unfold w_Od_weighs_52
      intro x1 hx1
      obtain ⟨g0, g1, g2, g3, g4⟩ := j52
      subst g3
      subst g4
      have ix := cn1 g1 (by omega)
      refine lp_b5 ?_ (fun d9 => ⟨rfl, ?_⟩)
      · rw [hn24, hx1, ix.2]
        exact dm_16 g2
      · refine and_5 ?_ (fun o9 => ?_)  -- i3
        · exact ⟨rfl, rfl, rfl, m1, g0, by rw [hx1, ix.2]; omega⟩
        · rw [hx1, ix.1]
          exact ⟨by have c := cnk g1; omega, hE⟩
    refine ⟨fun c2 => ?_, fun c2 => ?_⟩
    · skip
      refine ⟨?_, h _ ?_⟩
      · exact m2  -- b4
      · refine and_5 ?_ (fun o9 => ?_)  -- q5
        · exact m2
        · rw [lei] at c2
          have c := cnk m3
          have b := hE.1
          have e : x24_4.toNatClampNeg = n9 := by omega
          have y := hE.2
          rw [e] at y
          exact y
    · skip
      refine ⟨fun c3 => ?_, fun c3 => ?_⟩
      · skip
        refine ⟨?_, h _ ?_⟩
        · exact m2  -- b6
        · refine and_5 ?_ (fun o9 => ?_)  -- q7
          · exact m2
          · have b := hE.1
            exact ⟨fun z => (hE.2.mp z).imp id (fun ⟨k, h1, h2⟩ => ⟨k, by omega, h2⟩), fun _ => c3⟩
      · skip
        intro T4
        refine Od_unitsOf_q6 W24 T4 ρ n9 P9 σ9 V9 hT9 hL9 hV9 ?_ (fun r5 q7 => ?_)
        · rw [lei] at c2
          exact ⟨hp, m3, by omega⟩
        obtain ⟨q7, z9⟩ := q7
        intro W8
        intro M9
        refine ⟨fun c10 => ?_, fun c10 => ?_⟩
        · skip
          refine hj52 _ _ _ _ _ _ W8 ?_ ?_
          · exact Ta0  -- t9
          · refine and_5 ?_ (fun o9 => ?_)  -- k10
            · rw [lei] at c2
              exact ⟨rfl, rfl, rfl, nb_0, m3, by omega, rfl, rfl⟩
            · have r0 : r5 = 0 := (lg_cmp_eq _ _).mp c10
              have u0 : uV16 σ9 V9 a1 0 x24_4.toNatClampNeg = 0 := by rw [← z9, r0]; rfl
              have nx : ¬ (n9 = 0 ∨ ∃ k, k < x24_4.toNatClampNeg ∧ uV16 σ9 V9 a1 0 k ≠ 0) := fun y => hE.2.mpr y c3
              refine ⟨fun z => absurd rfl z, fun z => ?_⟩
              rcases z with z | ⟨k, k1, k2⟩
              · exact absurd (Or.inl z) nx
              · by_cases e : k = x24_4.toNatClampNeg
                · rw [e] at k2; exact absurd u0 k2
                · exact absurd (Or.inr ⟨k, by omega, k2⟩) nx
        · skip
          refine hj52 _ _ _ _ _ _ W8 ?_ ?_
          · exact Ta0  -- t11
          · refine and_5 ?_ (fun o9 => ?_)  -- k12
            · rw [lei] at c2
              exact ⟨rfl, rfl, rfl, nb_1, m3, by omega, rfl, rfl⟩
            · refine ⟨fun _ => Or.inr ⟨x24_4.toNatClampNeg, Nat.lt_succ_self _, fun u => c10 ((lg_cmp_eq _ _).mpr (Int64.toInt_inj.mp (z9.trans u)))⟩, fun _ => by decide⟩
  intro x11 hx11
  refine ⟨fun c12 => ?_, fun c12 => ?_⟩
  · skip
    refine hj20 _ _ _ _ _ W ?_ ?_
    · exact Ta0  -- t13
    · refine and_5 ?_ (fun o9 => ⟨fun z => absurd rfl z, fun z => absurd (Int32.toInt_inj.mp (by rw [hx11, tot, z]; rfl)) c12⟩)  -- k14
      exact ⟨rfl, rfl, rfl, nb_0, by rw [hx11]; exact tot⟩
  · skip
    refine hj20 _ _ _ _ _ W ?_ ?_
    · exact Ta0  -- t15
    · refine and_5 ?_ (fun o9 => ?_)  -- k16
      · exact ⟨rfl, rfl, rfl, nb_1, by rw [hx11]; exact tot⟩
      · have y := tot
        rw [← hx11, c12, t0i] at y
        exact ⟨fun _ => by omega, fun _ => by decide⟩

end
section
set_option maxHeartbeats 1600000
/-! the class: weights by what is asked, by their values -/
def al16 (n : Nat) (kind v : Int32) : Int := if n = 0 then shN16 0 kind v 1 0 else 0
noncomputable def wK16 (κ : zS) (a : Nat) (σ : rS) (V : Nat → Rat) (kind v : Int32) (n : Nat) : Rat := smQ (fun k => un15 κ a V k * ((uV16 σ V kind v k : Int) : Rat)) n
theorem un_f16 {C : zC} {n0 a ca : Nat} {ρ : Nat → Nat} {R : Nat → Prop} {κ τ : zS} (W : zW C n0 κ) (Ta : zT κ a = 12) (Z : zF (soF ρ R ca) κ τ) (V : Nat → Rat) (s : Nat) : un15 τ a V s = un15 κ a V s := by
  have e2 : zR τ soAtlas a = zR κ soAtlas a := (soF_r9 Z (f := soAtlas) (by decide)).1
  unfold un15 dvN9
  rw [e2, dvA_f9 W soF_fr Z (ty_soAtlas W Ta)]
theorem wK_s16 {κ : zS} {a : Nat} {σ : rS} {V : Nat → Rat} {kind v : Int32} {n : Nat} : wK16 κ a σ V kind v (n + 1) = wK16 κ a σ V kind v n + un15 κ a V n * ((uV16 σ V kind v n : Int) : Rat) := rfl
/-- nothing below 0 where shares aren't -/
theorem sh_n16 {l kind v s n : Int32} (h0 : 0 ≤ kind.toInt) (h7 : kind.toInt ≤ 7) : 0 ≤ shN16 l kind v s n := by
  have k : kind = 0 ∨ kind = 1 ∨ kind = 2 ∨ kind = 3 ∨ kind = 4 ∨ kind = 5 ∨ kind = 6 ∨ kind = 7 := by
    have e : ∀ k : Int32, kind.toInt = k.toInt → kind = k := fun k => ik_16
    have : kind.toInt = 0 ∨ kind.toInt = 1 ∨ kind.toInt = 2 ∨ kind.toInt = 3 ∨ kind.toInt = 4 ∨ kind.toInt = 5 ∨ kind.toInt = 6 ∨ kind.toInt = 7 := by omega
    rcases this with z | z | z | z | z | z | z | z
    · exact Or.inl (e 0 z)
    · exact Or.inr (Or.inl (e 1 z))
    · exact Or.inr (Or.inr (Or.inl (e 2 z)))
    · exact Or.inr (Or.inr (Or.inr (Or.inl (e 3 z))))
    · exact Or.inr (Or.inr (Or.inr (Or.inr (Or.inl (e 4 z)))))
    · exact Or.inr (Or.inr (Or.inr (Or.inr (Or.inr (Or.inl (e 5 z))))))
    · exact Or.inr (Or.inr (Or.inr (Or.inr (Or.inr (Or.inr (Or.inl (e 6 z)))))))
    · exact Or.inr (Or.inr (Or.inr (Or.inr (Or.inr (Or.inr (Or.inr (e 7 z)))))))
  rcases k with z | z | z | z | z | z | z | z <;> subst z
  · rw [sh_016]; split <;> decide
  · rw [sh_116]; split <;> decide
  · rw [sh_216]; split <;> decide
  · rw [sh_316]; split <;> decide
  · rw [sh_416]; split <;> decide
  · rw [sh_516]; split <;> decide
  · rw [sh_616]; split <;> decide
  · rw [sh_716]; split <;> decide
theorem tn_016 {x : Rat} {t b D : Nat} {u : Int} (x0 : 0 ≤ x) (ht : t = x.num.natAbs) (hb : b = x.den) (d : b ∣ D) : (0 < u → (((t * u.natAbs * (D / b) : Nat)) : Rat) = x * (u : Rat) * (D : Rat)) ∧ (¬ 0 < u → (((t * u.natAbs * (D / b) : Nat)) : Rat) = -(x * (u : Rat) * (D : Rat))) := by
  have k := tn_15 (w := u.natAbs) x0 ht hb d
  constructor
  · intro z
    rw [k, ← Rat.intCast_natCast u.natAbs, Int.natAbs_of_nonneg (by omega)]
  · intro z
    have e : ((u.natAbs : Nat) : Int) = -u := by omega
    rw [k, ← Rat.intCast_natCast u.natAbs, e, Rat.intCast_neg]
    grind
theorem so_h16 {ρ : Nat → Nat} {R : Nat → Prop} {ca f h : Nat} (hf : f / 100 = 6) : ¬ soF ρ R ca f h := fun z => by
  rcases z with ⟨_, z | z | z⟩ | ⟨_, z | z | z | z⟩ <;> rw [z] at hf <;> exact absurd hf (by decide)
theorem pV_f16 {C : zC} {n0 h ca : Nat} {ρ : Nat → Nat} {R : Nat → Prop} {κ τ : zS} (W : zW C n0 κ) (Th : zT κ h = 6) (Z : zF (soF ρ R ca) κ τ) (e i : Int32) : pV9 τ h e i = pV9 κ h e i := by
  have s := (Z.row W (show zr hoStarts = some 20 by decide +kernel) (by decide) Th (so_h16 (by decide))).1
  have p := (Z.row W (show zr hoPool = some 20 by decide +kernel) (by decide) Th (so_h16 (by decide))).1
  unfold pV9
  rw [(soF_r9 Z (f := hoTotal) (by decide)).2, s, p]
theorem ls_f16 {C : zC} {n0 b ca : Nat} {ρ : Nat → Nat} {R : Nat → Prop} {κ τ : zS} {σ : rS} (W : zW C n0 κ) (Tb : zT κ b = 3) (Z : zF (soF ρ R ca) κ τ) (h : lst16 κ b σ) : lst16 τ b σ := by
  intro e i e0 e1 hi
  rw [(soF_r9 Z (f := atCode) (by decide)).1, (soF_r9 Z (f := coVars) (by decide)).2, (soF_r9 Z (f := coCells) (by decide)).2] at hi
  rw [(soF_r9 Z (f := atEndings) (by decide)).1, pV_f16 W (ty_atEndings W Tb) Z]
  exact h e i e0 e1 hi
/-- where there is no state the one ending has the number 0 -/
def lz16 (κ : zS) (b n : Nat) : Prop := n = 0 → ∀ i : Int32, i.toInt = (zI κ coVars (zR κ atCode b)).toInt + (zI κ coCells (zR κ atCode b)).toInt → pV9 κ (zR κ atEndings b) 0 i = 0
theorem lz_f16 {C : zC} {n0 b n ca : Nat} {ρ : Nat → Nat} {R : Nat → Prop} {κ τ : zS} (W : zW C n0 κ) (Tb : zT κ b = 3) (Z : zF (soF ρ R ca) κ τ) (h : lz16 κ b n) : lz16 τ b n := by
  intro z i hi
  rw [(soF_r9 Z (f := atCode) (by decide)).1, (soF_r9 Z (f := coVars) (by decide)).2, (soF_r9 Z (f := coCells) (by decide)).2] at hi
  rw [(soF_r9 Z (f := atEndings) (by decide)).1, pV_f16 W (ty_atEndings W Tb) Z]
  exact h z i hi
theorem wK_f16 {C : zC} {n0 a ca n : Nat} {ρ : Nat → Nat} {R : Nat → Prop} {κ τ : zS} {σ : rS} {V : Nat → Rat} {kind v : Int32} (W : zW C n0 κ) (Ta : zT κ a = 12) (Z : zF (soF ρ R ca) κ τ) : wK16 τ a σ V kind v n = wK16 κ a σ V kind v n := smQ_c (fun k _ => by rw [un_f16 W Ta Z])
theorem Od_weigh_q6 {C : zC} {n0 : Nat} {a0 : Nat} {a1 : Int32} {a2 : Int32} {κ : zS} {Q : zS → Prop} (W : zW C n0 κ) (Ta0 : zT κ a0 = 9) (ρ : Nat → Nat) (n9 P9 : Nat) (σ9 : rS) (V9 : Nat → Rat) (hT9 : tbl15 κ (zR κ odAtlas a0) n9 σ9) (hL9 : lst16 κ (zR κ odAtlas a0) σ9) (hV9 : vV15 κ (zR κ odSolver a0) n9 V9) (hZ9 : lz16 κ (zR κ odAtlas a0) n9) (hB9 : ∀ k, k < n9 → uV16 σ9 V9 a1 a2 k ≠ 0 → (un15 κ (zR κ odSolver a0) V9 k).den ∣ nuN κ (zR κ soWhole (zR κ odSolver a0))) (hp : (nmI ρ κ ∧ soI ρ κ (zR κ odSolver a0)) ∧ odX9 ρ κ a0 n9 P9 ∧ nuN κ (zR κ soWhole (zR κ odSolver a0)) < pB9 1490) (h : ∀ (κ' : zS), (((zF (soF ρ wgR9 (zR κ odCalc a0)) κ κ' ∧ nmI ρ κ' ∧ soI ρ κ' (zR κ odSolver a0)) ∧ nuN κ' (zR κ soSum (zR κ odSolver a0)) < pB9 1502 ∧ nuN κ' (zR κ soLess (zR κ odSolver a0)) < pB9 1502) ∧ (((nuN κ' (zR κ soSum (zR κ odSolver a0)) : Nat) : Rat) - ((nuN κ' (zR κ soLess (zR κ odSolver a0)) : Nat) : Rat) = ((al16 n9 a1 a2 : Int) : Rat) + wK16 κ (zR κ odSolver a0) σ9 V9 a1 a2 n9 * ((nuN κ (zR κ soWhole (zR κ odSolver a0)) : Nat) : Rat) ∧ (0 ≤ a1.toInt → a1.toInt ≤ 7 → nuN κ' (zR κ soLess (zR κ odSolver a0)) = 0))) → Q κ') : zRun C 5 mOd_weigh [.ref a0, .int a1, .int a2] κ (oV Q noX) := by
  refine Od_weigh_run W Ta0 ?_
  replace W := W.lo (Nat.le_trans W.1.2.1 W.1.2.2) (Nat.le_refl (zn κ))
  unfold w_Od_weigh_0
  obtain ⟨⟨N0, S0⟩, X0, W0⟩ := hp
  have ts := ty_odSolver W Ta0
  have A0 := X0.2.2.1.1
  have hn := A0.2.2.1
  have tot := A0.2.2.2.1
  have h8 := S0.1.2.2.2.2.2.1
  have h7 := S0.1.2.2.2.2.1
  have g7 := nm_g N0 (w := (zR κ soSum (zR κ odSolver a0))) h7 (Or.inl ⟨by decide, by decide⟩) (by decide)
  have hj34 : ∀ (l0 : Nat) (l1 : Int32) (l2 : Int32) (l3 : Int32) (s0 : Nat) (s1 : Int64) (τ : zS), zW C (zn κ) τ → zT τ l0 = 9 → zT τ s0 = 8 → ((κ = τ ∧ a0 = l0 ∧ a1 = l1 ∧ a2 = l2 ∧ l3.toInt = (n9 : Int) ∧ s0 = (zR κ soSum (zR κ odSolver a0)) ∧ 0 ≤ s1.toInt ∧ s1.toInt ≤ 2147483648) ∧ s1.toInt = al16 n9 a1 a2) → w_Od_weigh_34 C (zn κ) Q  l0 l1 l2 l3 s0 s1 τ := by
    rintro _ _ _ y34_3 y34_s0 y34_s1 _ W34 T34_0 T34_1 ⟨⟨rfl, rfl, rfl, rfl, j34⟩, hE⟩
    unfold w_Od_weigh_34
    intro T1
    obtain ⟨t3, rfl, p0, p1⟩ := j34
    refine Nu_put_c W34 T1 6500 ?_ (fun κ_2 q3 => ?_)
    · exact ⟨⟨p0, by omega⟩, g7.2.2⟩  -- p1
    obtain ⟨Fs, ⟨Rs, Ns⟩, Is, Vs⟩ := q3
    have Zs : zF (soF ρ wgR9 (zR κ odCalc a0)) κ κ_2 := soF_1 (by rw [h7]; exact Or.inl ⟨by decide, by decide⟩) Fs
    have N2 : nmI ρ κ_2 := nm_1 W N0 Fs (by rw [h7]; exact Is)
    have S2 : soI ρ κ_2 (zR κ odSolver a0) := so_1 W ts S0 Fs
    have gl := nm_g N2 (w := (zR κ soLess (zR κ odSolver a0))) h8 (Or.inl ⟨by decide, by decide⟩) (by decide)
    have el2 : zR κ_2 soLess (zR κ_2 odSolver a0) = (zR κ soLess (zR κ odSolver a0)) := by rw [Rs]
    intro W4
    intro M5
    intro T6
    refine Nu_put_c W4 T6 6500 ?_ (fun κ_7 q8 => ?_)
    · rw [el2]
      exact ⟨by decide, gl.2.2⟩
    intro W9
    intro M10
    rw [el2] at q8
    obtain ⟨Fl, ⟨Rl, Nl⟩, Il, Vl⟩ := q8
    have Zl0 : zF (soF ρ (fun r => r = 8) (zR κ odCalc a0)) κ_2 κ_7 := soF_1 h8 Fl
    have Zl : zF (soF ρ wgR9 (zR κ odCalc a0)) κ κ_7 := Zs.tr (soF_m (fun r z => Or.inl (by omega)) Zl0)
    have ts2 : zT κ_2 (zR κ odSolver a0) = 12 := Fs.t ts (by decide)
    have s7 := (soF_B (c := 0) (w := (zR κ soSum (zR κ odSolver a0))) W4 (Fs.t (ty_soSum W ts) (by decide)) Zl0 (by rw [h7]; decide)).2.1
    unfold w_Od_weigh_51
    refine ⟨fun n l0 l1 l2 l3 l4 τ => n = (l3.toInt - l4.toInt).toNat ∧ ((a0 = l0 ∧ a1 = l1 ∧ a2 = l2 ∧ (zF (soF ρ wgR9 (zR κ odCalc a0)) κ τ ∧ nmI ρ τ ∧ soI ρ τ (zR κ odSolver a0)) ∧ l3.toInt = (n9 : Int) ∧ (0 ≤ l4.toInt ∧ l4.toInt ≤ l3.toInt) ∧ nuN τ (zR κ soSum (zR κ odSolver a0)) ≤ uB9 (nuN κ (zR κ soWhole (zR κ odSolver a0))) l4.toNatClampNeg ∧ nuN τ (zR κ soLess (zR κ odSolver a0)) ≤ uB9 (nuN κ (zR κ soWhole (zR κ odSolver a0))) l4.toNatClampNeg) ∧ ((nuN τ (zR κ soSum (zR κ odSolver a0)) : Nat) : Rat) - ((nuN τ (zR κ soLess (zR κ odSolver a0)) : Nat) : Rat) = ((al16 n9 a1 a2 : Int) : Rat) + wK16 κ (zR κ odSolver a0) σ9 V9 a1 a2 l4.toNatClampNeg * ((nuN κ (zR κ soWhole (zR κ odSolver a0)) : Nat) : Rat) ∧ (0 ≤ a1.toInt → a1.toInt ≤ 7 → nuN τ (zR κ soLess (zR κ odSolver a0)) = 0)), ⟨_, rfl, ?_⟩, ?_⟩
    · refine and_5 ?_ (fun o9 => ?_)  -- j3
      · refine ⟨rfl, rfl, rfl, ⟨Zl, nm_1 W4 N2 Fl (by rw [h8]; exact Il), so_1 W4 ts2 S2 Fl⟩, t3, ⟨by decide, by rw [t0i]; omega⟩, ?_, ?_⟩
        · rw [s7, Vs]; exact uB_0 (by omega)
        · rw [Vl]; exact uB_0 (by decide)
      · have e : ((y34_s1.toInt.toNat : Nat) : Rat) = ((y34_s1.toInt : Int) : Rat) := by rw [← Rat.intCast_natCast, Int.toNat_of_nonneg p0]
        have z0 : (((0 : Int64).toInt.toNat : Nat) : Rat) = 0 := rfl
        have w0 : wK16 κ (zR κ odSolver a0) σ9 V9 a1 a2 (0 : Int32).toNatClampNeg = 0 := rfl
        refine ⟨?_, fun _ _ => by rw [Vl]; rfl⟩
        rw [s7, Vs, Vl, ← hE, e, z0, w0, Rat.zero_mul]
        grind
    rintro n51 _ _ _ x51_3 x51_4 κ51 W51 T51_0 ⟨hn51, ⟨rfl, rfl, rfl, i51⟩, hE⟩
    obtain ⟨⟨Z1, N1, S1⟩, e3, l4, B1, B2⟩ := i51
    obtain ⟨X1, e1, _, _⟩ := odX9_f W Ta0 N0 Z1 wgR9_l X0
    have kl := cnk l4.1
    have es : zR κ51 odSolver a0 = (zR κ odSolver a0) := e1 odSolver (Or.inl (by decide)) a0
    have ec : zR κ51 odCalc a0 = (zR κ odCalc a0) := e1 odCalc (Or.inl (by decide)) a0
    have ew : zR κ51 soWhole (zR κ odSolver a0) = (zR κ soWhole (zR κ odSolver a0)) := e1 soWhole (Or.inr (by decide)) _
    have eu : zR κ51 soSum (zR κ odSolver a0) = (zR κ soSum (zR κ odSolver a0)) := e1 soSum (Or.inr (by decide)) _
    have el : zR κ51 soLess (zR κ odSolver a0) = (zR κ soLess (zR κ odSolver a0)) := e1 soLess (Or.inr (by decide)) _
    have ep : zR κ51 soPart (zR κ odSolver a0) = (zR κ soPart (zR κ odSolver a0)) := e1 soPart (Or.inr (by decide)) _
    have nW := (soF_B (c := 0) W (ty_soWhole W ts) Z1 (by rw [S0.1.1]; exact wgR9_n.1)).2.1
    refine ⟨fun c11 => ?_, fun c11 => ?_⟩
    · skip
      refine h _ ?_
      · refine and_5 ?_ (fun o9 => ?_)  -- q4
        · exact ⟨⟨Z1, N1, S1⟩, uB_l W0 (by omega) B1, uB_l W0 (by omega) B2⟩
        · rw [lei] at c11
          have e : x51_4.toNatClampNeg = n9 := by omega
          have y := hE
          rw [e] at y
          exact y
    · skip
      intro T12
      rw [lei] at c11
      have ix := cn1 (x := x51_4) l4.1 (by omega)
      have Tb := ty_odAtlas W Ta0
      have ea : zR κ51 odAtlas a0 = zR κ odAtlas a0 := e1 odAtlas (Or.inl (by decide)) a0
      have hT51 : tbl15 κ51 (zR κ51 odAtlas a0) n9 σ9 := by rw [ea]; exact tb_f15 W soF_fr Z1 Tb hT9
      have hL51 : lst16 κ51 (zR κ51 odAtlas a0) σ9 := by rw [ea]; exact ls_f16 W Tb Z1 hL9
      have V51' : vV15 κ51 (zR κ odSolver a0) n9 V9 := vV_f15 W ts N0 Z1 hn wgR9_l X0.2.2.2.1 hV9
      have V51 : vV15 κ51 (zR κ51 odSolver a0) n9 V9 := by rw [es]; exact V51'
      refine Od_unitsOf_q6 W51 T12 ρ n9 P9 σ9 V9 hT51 hL51 V51 ?_ (fun r13 q15 => ?_)
      · exact ⟨X1, l4.1, by omega⟩  -- p5
      obtain ⟨q15, z9⟩ := q15
      have zo := z9
      intro W16
      intro M17
      refine ⟨fun c18 => ?_, fun c18 => ?_⟩
      · skip
        intro x19 hx19
        refine lp_b5 ?_ (fun d9 => ⟨rfl, ?_⟩)
        · rw [hn51, hx19, ix.2]; omega  -- d6
        · refine and_5 ?_ (fun o9 => ?_)  -- i7
          · exact ⟨rfl, rfl, rfl, ⟨Z1, N1, S1⟩, e3, ⟨by rw [hx19, ix.2]; omega, by rw [hx19, ix.2]; omega⟩, by rw [hx19, ix.1]; exact uB_m B1, by rw [hx19, ix.1]; exact uB_m B2⟩
          · have u0 : uV16 σ9 V9 a1 a2 x51_4.toNatClampNeg = 0 := by rw [← zo, (lg_cmp_eq _ _).mp c18]; rfl
            have i0 : ((0 : Int) : Rat) = 0 := rfl
            rw [hx19, ix.1, wK_s16, u0, i0, Rat.mul_zero, Rat.add_zero]
            exact hE
      · skip
        intro T20
        have sg := q15.2.2 (fun z => c18 ((lg_cmp_eq _ _).mpr z))
        have S1' : soI ρ κ51 (zR κ51 odSolver a0) := by rw [es]; exact S1
        refine So_unit_q6 W16 T20 ρ (vU9 κ51 (zR κ51 odSolver a0) x51_4.toNatClampNeg) ?_ (fun κ_21 q22 => ?_)
        · exact od_u9 N1 S1' X1 l4.1 (by omega) sg  -- p8
        obtain ⟨q22, z9⟩ := q22
        have zu := z9
        rw [es] at zu
        rw [ep] at zu
        have ru := zu _ (V51' _ (show x51_4.toNatClampNeg < n9 by omega)).1
        have eu' : V9 x51_4.toNatClampNeg * mkRat 1 (dvN9 κ51 (zR κ51 soAtlas (zR κ odSolver a0)) x51_4.toNatClampNeg) = un15 κ (zR κ odSolver a0) V9 x51_4.toNatClampNeg := un_f16 W ts Z1 V9 _
        rw [eu'] at ru
        obtain ⟨⟨Zu, Nu9, Su9⟩, tu, bu, _⟩ := od_v9 X1 l4.1 (by omega) sg q22
        rw [ec] at Zu
        rw [es] at Su9 tu bu
        rw [ep] at tu bu
        obtain ⟨X2, e2, _, _⟩ := odX9_f W51 T51_0 N1 Zu (fun r h z => by rcases z with z | z | z <;> omega) X1
        have es2 : zR κ_21 odSolver a0 = (zR κ odSolver a0) := (e2 odSolver (Or.inl (by decide)) a0).trans es
        have ew2 : zR κ_21 soWhole (zR κ odSolver a0) = (zR κ soWhole (zR κ odSolver a0)) := (e2 soWhole (Or.inr (by decide)) _).trans ew
        have eu2 : zR κ_21 soSum (zR κ odSolver a0) = (zR κ soSum (zR κ odSolver a0)) := (e2 soSum (Or.inr (by decide)) _).trans eu
        have el2 : zR κ_21 soLess (zR κ odSolver a0) = (zR κ soLess (zR κ odSolver a0)) := (e2 soLess (Or.inr (by decide)) _).trans el
        have ep2 : zR κ_21 soPart (zR κ odSolver a0) = (zR κ soPart (zR κ odSolver a0)) := (e2 soPart (Or.inr (by decide)) _).trans ep
        have eca2 : zR κ_21 soCalc (zR κ odSolver a0) = (zR κ odCalc a0) := by
          have y := X2.1.2
          rw [es2] at y
          rw [y]
          exact (e2 odCalc (Or.inl (by decide)) a0).trans ec
        have ts1 : zT κ51 (zR κ odSolver a0) = 12 := Z1.t ts (by decide)
        have u1 : zT κ51 (zR κ soWhole (zR κ odSolver a0)) = 8 := Z1.t (ty_soWhole W ts) (by decide)
        have u2 : zT κ51 (zR κ soSum (zR κ odSolver a0)) = 8 := Z1.t (ty_soSum W ts) (by decide)
        have u3 : zT κ51 (zR κ soLess (zR κ odSolver a0)) = 8 := Z1.t (ty_soLess W ts) (by decide)
        have w2 := (soF_B (c := 0) W51 u1 Zu (by rw [S0.1.1]; unfold unR9; decide)).2.1
        have s2 := (soF_B (c := 0) W51 u2 Zu (by rw [h7]; unfold unR9; decide)).2.1
        have l2 := (soF_B (c := 0) W51 u3 Zu (by rw [h8]; unfold unR9; decide)).2.1
        have et2 : zR κ_21 raTop (zR κ soPart (zR κ odSolver a0)) = zR κ51 raTop (zR κ soPart (zR κ odSolver a0)) := (soF_r9 Zu (by decide)).1
        have b4 : pB9 1502 ≤ pB9 4000 := pB9_l (by decide)
        intro W23
        intro M24
        intro T25
        refine So_addTerm_c W23 T25 ρ ?_ (fun κ_26 q27 => ?_)
        · rw [es2, ew2, eu2, el2, ep2]
          exact ⟨⟨Nu9, Su9⟩, ⟨by omega, by omega⟩, ⟨by rw [w2, nW]; exact Nat.lt_of_lt_of_le W0 (pB9_l (by decide)), by rw [et2]; exact Nat.lt_of_lt_of_le tu (by unfold pB9; decide), by rw [ru.2.2]; exact Nat.pos_of_ne_zero (Rat.den_nz _)⟩, by rw [s2]; exact Nat.lt_of_lt_of_le (uB_l W0 (by omega) B1) b4, by rw [l2]; exact Nat.lt_of_lt_of_le (uB_l W0 (by omega) B2) b4⟩
        intro W28
        intro M29
        intro x30 hx30
        rw [es2, ew2, eu2, el2, ep2, eca2, et2, w2, s2, l2, nW] at q27
        obtain ⟨Za, Na, A1, A2⟩ := q27
        have Zf : zF (soF ρ wgR9 (zR κ odCalc a0)) κ κ_26 := (Z1.tr (soF_m (fun r z => by unfold wgR9; rcases z with z | z | z <;> omega) Zu)).tr (soF_m (fun r z => by unfold wgR9; rcases z with z | z | z | z | z | z <;> omega) Za)
        have tmb : nuN κ_21 (zR κ51 raTop (zR κ soPart (zR κ odSolver a0))) * r13.toInt.natAbs * (nuN κ (zR κ soWhole (zR κ odSolver a0)) + 1) ≤ (nuN κ (zR κ soWhole (zR κ odSolver a0)) + 1) * sU9 := tm_u9 tu (by omega)
        refine lp_b5 ?_ (fun d9 => ⟨rfl, ?_⟩)
        · rw [hn51, hx30, ix.2]; omega  -- d10
        · refine and_5 ?_ (fun o9 => ?_)  -- i11
          · refine ⟨rfl, rfl, rfl, ⟨Zf, Na⟩, e3, ⟨by rw [hx30, ix.2]; omega, by rw [hx30, ix.2]; omega⟩, ?_, ?_⟩
            · rw [hx30, ix.1]
              by_cases z : 0 < r13.toInt
              · exact Nat.le_trans (Nat.le_of_eq (A1 z).1) (Nat.le_trans (Nat.add_le_add_left (Nat.mul_le_mul_left _ (Nat.le_succ_of_le (Nat.div_le_self _ _))) _) (uB_s B1 tmb))
              · rw [(A2 z).2]; exact uB_m B1
            · rw [hx30, ix.1]
              by_cases z : 0 < r13.toInt
              · rw [(A1 z).2]; exact uB_m B2
              · exact Nat.le_trans (Nat.le_of_eq (A2 z).1) (Nat.le_trans (Nat.add_le_add_left (Nat.mul_le_mul_left _ (Nat.le_succ_of_le (Nat.div_le_self _ _))) _) (uB_s B2 tmb))
          · have ne : r13.toInt ≠ 0 := fun e => c18 ((lg_cmp_eq _ _).mpr (Int64.toInt_inj.mp e))
            have dv := hB9 x51_4.toNatClampNeg (by omega) (by rw [← zo]; exact ne)
            have x0 : 0 ≤ un15 κ (zR κ odSolver a0) V9 x51_4.toNatClampNeg := un_p15 (hV9 _ (by omega)).2
            have T := tn_016 (u := r13.toInt) x0 rfl rfl dv
            have tn : nuN κ_21 (zR κ51 raTop (zR κ soPart (zR κ odSolver a0))) = (un15 κ (zR κ odSolver a0) V9 x51_4.toNatClampNeg).num.natAbs := by rw [← et2]; exact ru.2.1
            have y := hE.1
            rw [hx30, ix.1, wK_s16, ← zo, Rat.add_mul]
            by_cases z : 0 < r13.toInt
            · obtain ⟨C1, C2⟩ := A1 z
              rw [C1, C2, tn, ru.2.2, Rat.natCast_add, T.1 z]
              exact ⟨by grind, hE.2⟩
            · obtain ⟨C1, C2⟩ := A2 z
              rw [C1, C2, tn, ru.2.2, Rat.natCast_add, T.2 z]
              exact ⟨by grind, fun h0 h7 => absurd (q15.2.1 h0 h7) (by omega)⟩
  intro x31 hx31
  refine ⟨fun c32 => ?_, fun c32 => ?_⟩
  · skip
    refine hj34 _ _ _ _ _ _ _ W ?_ ?_ ?_
    · exact Ta0  -- t12
    · exact ty_soSum W ts  -- t13
    · refine and_5 ?_ (fun o9 => ?_)  -- k14
      · exact ⟨rfl, rfl, rfl, rfl, by rw [hx31]; exact tot, rfl, by decide, by decide⟩
      · unfold al16
        rw [if_neg (fun z => c32 (Int32.toInt_inj.mp (by rw [hx31, tot, z]; rfl)))]
        rfl
  · skip
    intro T33
    refine Od_share_q6 W T33 0 (fun _ => hZ9 (by have y := congrArg Int32.toInt c32; rw [hx31, t0i] at y; omega)) ?_ (fun r34 q36 => ?_)
    · exact ⟨X0.2.2.2.2.1.1, X0.2.2.2.2.2⟩  -- p15
    obtain ⟨q36, z9⟩ := q36
    intro W37
    intro M38
    refine hj34 _ _ _ _ _ _ _ W37 ?_ ?_ ?_
    · exact Ta0  -- t16
    · exact ty_soSum W ts  -- t17
    · refine and_5 ?_ (fun o9 => ?_)  -- k18
      · have z9 : n9 = 0 := by
          have y := congrArg Int32.toInt c32
          rw [hx31, t0i] at y
          omega
        exact ⟨rfl, rfl, rfl, rfl, by rw [hx31]; exact tot, rfl, q36.2.2 rfl (X0.2.2.2.2.1.2 z9), by omega⟩
      · unfold al16
        rw [if_pos (by have y := congrArg Int32.toInt c32; rw [hx31, t0i] at y; omega)]
        exact z9

end
section
set_option maxHeartbeats 1600000
/-! the class: show of weights, by its value -/
def aK16 (a : Int32) : Int32 := if (1 : Int32) < a then (if a = 10 then 7 else a) else 6
noncomputable def sK16 (κ : zS) (a : Nat) (σ : rS) (V : Nat → Rat) (kind v : Int32) (n : Nat) : Rat := ((al16 n kind v : Int) : Rat) + wK16 κ a σ V kind v n
noncomputable def tK16 (κ : zS) (a : Nat) (σ : rS) (V : Nat → Rat) (kind v : Int32) (n : Nat) : Rat := if kind = 5 then 1 - sK16 κ a σ V kind v n else sK16 κ a σ V kind v n
noncomputable def dK16 (κ : zS) (a : Nat) (σ : rS) (V : Nat → Rat) (kind v : Int32) (n : Nat) : Rat := if aK16 kind = kind then 1 else sK16 κ a σ V (aK16 kind) v n
theorem sK_w16 {κ : zS} {a n W : Nat} {σ : rS} {V : Nat → Rat} {kind v : Int32} (h : n = 0 → W = 1) : ((al16 n kind v : Int) : Rat) + wK16 κ a σ V kind v n * (W : Rat) = sK16 κ a σ V kind v n * (W : Rat) := by
  unfold sK16
  by_cases z : n = 0
  · have e : ((W : Nat) : Rat) = 1 := by rw [h z]; rfl
    rw [e, Rat.mul_one, Rat.mul_one]
  · have e : al16 n kind v = 0 := if_neg z
    have i0 : ((0 : Int) : Rat) = 0 := rfl
    rw [e, i0, Rat.zero_add, Rat.zero_add]
theorem iv_116 : (1 : Rat)⁻¹ = 1 := by
  have m := Rat.mul_inv_cancel (1 : Rat) (by decide)
  rwa [Rat.one_mul] at m
theorem fr_16 {S L B : Nat} {T D W : Rat} (hW : 0 < W) (h : (S : Rat) - (L : Rat) = T * W) (g : (B : Rat) = D * W) : mkRat ((S : Int) - (L : Int)) B = T * D⁻¹ := by
  have e : (((S : Int) - (L : Int) : Int) : Rat) = T * W := by rw [Rat.intCast_sub, Rat.intCast_natCast, Rat.intCast_natCast]; exact h
  have w := Rat.mul_inv_cancel W (by grind)
  rw [mk_d, e, g]
  by_cases z : D = 0
  · rw [z, Rat.zero_mul, Rat.inv_zero, Rat.mul_zero, Rat.mul_zero]
  · have d := Rat.mul_inv_cancel D z
    have x := Rat.mul_inv_cancel (D * W) (fun y => by rcases Rat.mul_eq_zero.mp y with q | q <;> grind)
    have k : (D * W)⁻¹ = D⁻¹ * W⁻¹ := by grind
    rw [k]
    grind
theorem aK_16 {a : Int32} (h : 0 ≤ a.toInt) (ne : aK16 a ≠ a) : ((a = 0 ∨ a = 1) ∧ aK16 a = 6) ∨ (a = 10 ∧ aK16 a = 7) := by
  unfold aK16 at ne ⊢
  have o : (1 : Int32).toInt = 1 := rfl
  by_cases c : (1 : Int32) < a
  · rw [if_pos c] at ne ⊢
    by_cases d : a = 10
    · rw [if_pos d]; exact Or.inr ⟨d, rfl⟩
    · rw [if_neg d] at ne; exact absurd rfl ne
  · rw [if_neg c]
    rw [lti, o] at c
    have y : a.toInt = 0 ∨ a.toInt = 1 := by omega
    exact Or.inl ⟨y.imp (fun z => ik_16 (k := 0) z) (fun z => ik_16 (k := 1) z), rfl⟩
theorem sI_n16 {f : Nat → Int} : ∀ {n : Nat}, (∀ i, i < n → 0 ≤ f i) → 0 ≤ sI f n
  | 0, _ => Int.le_refl 0
  | n + 1, h => by
    have a := sI_n16 (f := f) (n := n) (fun i hi => h i (by omega))
    have b := h n (by omega)
    show 0 ≤ sI f n + f n
    omega
theorem sI_g16 {f : Nat → Int} : ∀ {n : Nat}, (∀ i, i < n → 0 ≤ f i) → (∃ i, i < n ∧ 0 < f i) → 0 < sI f n
  | 0, _, ⟨i, hi, _⟩ => absurd hi (Nat.not_lt_zero i)
  | n + 1, h, ⟨i, hi, p⟩ => by
    have a := sI_n16 (f := f) (n := n) (fun i hi => h i (by omega))
    have b := h n (by omega)
    show 0 < sI f n + f n
    by_cases e : i = n
    · rw [e] at p; omega
    · have c := sI_g16 (f := f) (n := n) (fun i hi => h i (by omega)) ⟨i, by omega, p⟩
      omega
theorem sI_x16 {f : Nat → Int} : ∀ {n : Nat}, sI f n ≠ 0 → ∃ i, i < n ∧ f i ≠ 0
  | 0, h => absurd rfl h
  | n + 1, h => by
    by_cases c : f n = 0
    · have h : sI f n + f n ≠ 0 := h
      obtain ⟨i, i1, i2⟩ := sI_x16 (f := f) (n := n) (by omega)
      exact ⟨i, by omega, i2⟩
    · exact ⟨n, by omega, c⟩
theorem tw_n16 {κ : zS} {b n : Nat} {σ : rS} (h : tbl15 κ b n σ) {k d : Nat} (hk : k < n) (hd : d < leN σ k) : 0 ≤ twI σ k (loN σ k + d) := by
  have w := (st_z8 h.1.1.1 (x := k) (by rw [← h.1.2.1]; exact hk)).1 (loN σ k + d) (Nat.le_add_right _ _) (by unfold leN at hd; omega)
  rw [lei, t1i] at w
  unfold twI
  split
  · omega
  · split <;> decide
theorem kd_16 {κ : zS} {b n : Nat} {σ : rS} {V : Nat → Rat} {a v : Int32} (h : tbl15 κ b n σ) {k : Nat} (hk : k < n) (h0 : 0 ≤ a.toInt) (ne : aK16 a ≠ a) (u : uV16 σ V a v k ≠ 0) : uV16 σ V (aK16 a) v k ≠ 0 := by
  unfold uV16 at u ⊢
  by_cases z : V k = 0
  · rw [if_pos z] at u; exact absurd rfl u
  · rw [if_neg z] at u ⊢
    obtain ⟨d, d1, d2⟩ := sI_x16 u
    have w := tw_n16 h hk d1
    have s : si16 σ (aK16 a) v (loN σ k + d) = 1 := by
      have y : si16 σ a v (loN σ k + d) ≠ 0 := fun e => d2 (by rw [e, Int.mul_zero])
      unfold si16 at y ⊢
      rcases aK_16 h0 ne with ⟨e | e, e2⟩ | ⟨e, e2⟩ <;> rw [e2] <;> subst e
      · rw [sh_016] at y
        rw [sh_616, if_pos (Or.inl (Decidable.byContradiction (fun q => y (if_neg (fun p => q p.1)))))]
      · rw [sh_116] at y
        rw [sh_616, if_pos (Or.inr (Decidable.byContradiction (fun q => y (if_neg (fun p => q p.1)))))]
      · rw [sh_e16 (Or.inr (by decide))] at y
        rw [sh_716, if_pos (Decidable.byContradiction (fun q => y (if_neg q)))]
    have g : 0 < uI16 σ (si16 σ (aK16 a) v) k (leN σ k) := by
      refine sI_g16 (fun i hi => ?_) ⟨d, d1, ?_⟩
      · have q : 0 ≤ si16 σ (aK16 a) v (loN σ k + i) := by
          unfold si16
          rcases aK_16 h0 ne with ⟨_, e2⟩ | ⟨_, e2⟩ <;> rw [e2]
          · exact sh_n16 (by decide) (by decide)
          · exact sh_n16 (by decide) (by decide)
        exact Int.mul_nonneg (tw_n16 h hk hi) q
      · have q : twI σ k (loN σ k + d) ≠ 0 := fun e => d2 (by rw [e, Int.zero_mul])
        rw [s, Int.mul_one]
        omega
    omega
theorem Od_showWeight_q6 {C : zC} {n0 : Nat} {a0 : Nat} {a1 : Int32} {a2 : Int32} {a3 : Nat} {κ : zS} {Q : zS → Prop} (W : zW C n0 κ) (Ta0 : zT κ a0 = 9) (Ta3 : zT κ a3 = 11) (ρ : Nat → Nat) (n9 P9 : Nat) (σ9 : rS) (V9 : Nat → Rat) (hT9 : tbl15 κ (zR κ odAtlas a0) n9 σ9) (hL9 : lst16 κ (zR κ odAtlas a0) σ9) (hV9 : vV15 κ (zR κ odSolver a0) n9 V9) (hZ9 : lz16 κ (zR κ odAtlas a0) n9) (h09 : 0 ≤ a1.toInt) (hD9 : 0 < dK16 κ (zR κ odSolver a0) σ9 V9 a1 a2 n9) (hp : (nmI ρ κ ∧ soI ρ κ (zR κ odSolver a0)) ∧ odX9 ρ κ a0 n9 P9 ∧ (0 < P9 ∧ P9 < pB9 1490) ∧ ρ a3 = 30) (h : ∀ (κ' : zS), (((zF (soF ρ shR9 (zR κ odCalc a0)) κ κ' ∧ nmI ρ κ' ∧ soI ρ κ' (zR κ odSolver a0)) ∧ nuN κ' (zR κ soLess (zR κ odSolver a0)) < pB9 4000) ∧ (rqW8 κ' a3 (tK16 κ (zR κ odSolver a0) σ9 V9 a1 a2 n9 * (dK16 κ (zR κ odSolver a0) σ9 V9 a1 a2 n9)⁻¹))) → Q κ') : zRun C 7 mOd_showWeight [.ref a0, .int a1, .int a2, .ref a3] κ (oV Q noX) := by
  refine Od_showWeight_run W Ta0 Ta3 ?_
  replace W := W.lo (Nat.le_trans W.1.2.1 W.1.2.2) (Nat.le_refl (zn κ))
  unfold w_Od_showWeight_0
  obtain ⟨⟨N0, S0⟩, X0, ⟨P0, P1⟩, r30⟩ := hp
  have ts := ty_odSolver W Ta0
  have hn := X0.2.2.1.1.2.2.1
  have h1 := S0.1.1
  have h7 := S0.1.2.2.2.2.1
  have h8 := S0.1.2.2.2.2.2.1
  have h20 := S0.1.2.2.2.2.2.2
  have h15 := X0.2.1
  have g1 := nm_g N0 (w := (zR κ soWhole (zR κ odSolver a0))) h1 (Or.inl ⟨by decide, by decide⟩) (by decide)
  have o1 : (1 : Int64).toInt.toNat = 1 := rfl
  have b4 : pB9 1502 ≤ pB9 4000 := pB9_l (by decide)
  have b0 : pB9 1490 ≤ pB9 1502 := pB9_l (by decide)
  have tW := ty_soWhole W ts
  have tS := ty_soSum W ts
  have tL := ty_soLess W ts
  have tH := ty_odHeld W Ta0
  have hj192 : ∀ (l0 : Nat) (l3 : Nat) (τ : zS), zW C (zn κ) τ → zT τ l0 = 9 → zT τ l3 = 11 → ((a0 = l0 ∧ a3 = l3 ∧ (zF (soF ρ shR9 (zR κ odCalc a0)) κ τ ∧ nmI ρ τ ∧ soI ρ τ (zR κ odSolver a0)) ∧ nuN τ (zR κ odHeld a0) < pB9 1502 ∧ nuN τ (zR κ soSum (zR κ odSolver a0)) < pB9 1502 ∧ nuN τ (zR κ soLess (zR κ odSolver a0)) < pB9 1502) ∧ ∃ W9 : Rat, 0 < W9 ∧ ((nuN τ (zR κ soSum (zR κ odSolver a0)) : Nat) : Rat) - ((nuN τ (zR κ soLess (zR κ odSolver a0)) : Nat) : Rat) = tK16 κ (zR κ odSolver a0) σ9 V9 a1 a2 n9 * W9 ∧ ((nuN τ (zR κ odHeld a0) : Nat) : Rat) = dK16 κ (zR κ odSolver a0) σ9 V9 a1 a2 n9 * W9) → w_Od_showWeight_192 C (zn κ) Q  l0 l3 τ := by
    rintro _ _ τ192 W192 T192_0 T192_1 ⟨⟨rfl, rfl, j192⟩, hE⟩
    unfold w_Od_showWeight_192
    intro T1
    intro T2
    obtain ⟨⟨Z1, N1, S1⟩, B0, B1, B2⟩ := j192
    obtain ⟨X1, e1, _, _⟩ := odX9_f W Ta0 N0 Z1 shR9_l X0
    have es : zR τ192 odSolver a0 = (zR κ odSolver a0) := e1 odSolver (Or.inl (by decide)) a0
    have ec : zR τ192 odCalc a0 = (zR κ odCalc a0) := e1 odCalc (Or.inl (by decide)) a0
    have eh : zR τ192 odHeld a0 = (zR κ odHeld a0) := e1 odHeld (Or.inl (by decide)) a0
    have eu : zR τ192 soSum (zR κ odSolver a0) = (zR κ soSum (zR κ odSolver a0)) := e1 soSum (Or.inr (by decide)) _
    have el : zR τ192 soLess (zR κ odSolver a0) = (zR κ soLess (zR κ odSolver a0)) := e1 soLess (Or.inr (by decide)) _
    have ep : zR τ192 soPart (zR κ odSolver a0) = (zR κ soPart (zR κ odSolver a0)) := e1 soPart (Or.inr (by decide)) _
    have eca : zR τ192 soCalc (zR κ odSolver a0) = (zR κ odCalc a0) := by
      have y := X1.1.2
      rw [es, ec] at y
      exact y
    have ts1 : zT τ192 (zR κ odSolver a0) = 12 := Z1.t ts (by decide)
    refine So_settle_q6 W192 T1 T2 ρ 15 ?_ (fun κ_3 q4 => ?_)
    · rw [es, eh, eu, el]
      exact ⟨⟨N1, S1⟩, ⟨h15, Or.inr rfl⟩, Nat.lt_of_lt_of_le B0 b4, Nat.lt_of_lt_of_le B1 b4, Nat.lt_of_lt_of_le B2 b4⟩
    obtain ⟨q4, z9⟩ := q4
    have zs := z9
    rw [es, eh, eu, el, ep, eca] at q4
    obtain ⟨Zt, ⟨Nt, St⟩, O⟩ := q4
    have et := fun f (hf : f / 100 = 9 ∨ f / 100 = 12) b => (odX9_f W192 T192_0 N1 Zt (fun r h z => by rcases z with z | z | z | z <;> omega) X1).2.1 f hf b
    have es3 : zR κ_3 odSolver a0 = (zR κ odSolver a0) := (et odSolver (Or.inl (by decide)) a0).trans es
    have ep3 : zR κ_3 soPart (zR κ odSolver a0) = (zR κ soPart (zR κ odSolver a0)) := (et soPart (Or.inr (by decide)) _).trans ep
    have gp := ra_t9 Nt h20 (Or.inl rfl)
    have go := ra_t9 Nt r30 (Or.inr rfl)
    have lt4 : nuN κ_3 (zR κ_3 raTop (zR κ soPart (zR κ odSolver a0))) < pB9 4000 ∧ nuN κ_3 (zR κ_3 raBottom (zR κ soPart (zR κ odSolver a0))) < pB9 4000 := by
      rw [(soF_r9 Zt (f := raTop) (by decide)).1, (soF_r9 Zt (f := raBottom) (by decide)).1]
      have p4 : 1 < pB9 4000 := Nat.lt_of_lt_of_le (show 1 < pB9 1 by unfold pB9; decide) (pB9_l (by decide))
      rcases O with ⟨_, _, o1', o2'⟩ | ⟨_, _, o1', o2'⟩
      · rw [o1', o2']
        exact ⟨pB9_p, p4⟩
      · rw [o1', o2']
        refine ⟨Nat.lt_of_le_of_lt (Nat.div_le_self _ _) ?_, Nat.lt_of_le_of_lt (Nat.div_le_self _ _) (Nat.lt_of_lt_of_le B0 b4)⟩
        generalize pB9 1502 = B at *
        generalize pB9 4000 = B' at *
        omega
    have kt := nuK_lt gp.2.2.1 lt4.1
    have kb := nuK_lt gp.2.2.2.1 lt4.2
    intro W5
    intro M6
    intro T7
    intro T8
    refine Ra_copy_c W5 T7 T8 6500 ?_ (fun κ_9 q10 => ?_)
    · rw [es3, ep3]
      exact ⟨go.2.1, ⟨nuI_mono (by decide) gp.2.2.1, nuI_mono (by decide) gp.2.2.2.1, gp.2.2.2.2⟩, ⟨ro_n go.1.1 gp.1.1 (by decide), ro_n go.1.1 gp.1.2 (by decide), ro_n go.1.2 gp.1.1 (by decide), ro_n go.1.2 gp.1.2 (by decide)⟩, ⟨by omega, by omega⟩, by decide⟩
    intro W11
    intro M12
    refine h _ ?_
    · refine and_5 ?_ (fun o9 => ?_)  -- q3
      · rw [es3, ep3] at q10
        obtain ⟨Zc, Jc, Vc⟩ := q10
        have R5 := ra_s9 W5 (Zt.t ts1 (by decide)) Nt St r30 (Or.inr rfl) Zc Jc
        have Z5 := R5.2 (zR κ odCalc a0)
        have l3 := soF_B (c := 0) (w := (zR κ soLess (zR κ odSolver a0))) W192 (Z1.t tL (by decide)) Zt (by rw [h8]; unfold stR9; decide)
        have l9 := soF_B (c := 0) (w := (zR κ soLess (zR κ odSolver a0))) W5 (Zt.t (Z1.t tL (by decide)) (by decide)) Z5 (by rw [h8]; decide)
        refine ⟨⟨(Z1.tr (soF_m (fun r z => by unfold shR9; rcases z with z | z | z | z <;> omega) Zt)).tr (soF_m (fun r z => by unfold shR9; omega) Z5), R5.1⟩, ?_⟩
        rw [l9.2.1, l3.2.1]
        exact Nat.lt_of_lt_of_le B2 b4
      · rw [es3, ep3] at q10
        obtain ⟨Zc, Jc, Vc⟩ := q10
        obtain ⟨W9, w1, w2, w3⟩ := hE
        rw [es, eu, el, ep] at zs
        have p := Rat.mul_pos hD9 w1
        rw [← w3] at p
        have Bp : 0 < nuN τ192 (zR κ odHeld a0) := Nat.pos_of_ne_zero (fun z => by rw [z] at p; exact Rat.lt_irrefl p)
        have O' : stO τ192 κ_3 (zR κ soPart (zR κ odSolver a0)) (zR κ_3 raTop (zR κ soPart (zR κ odSolver a0))) (zR κ_3 raBottom (zR κ soPart (zR κ odSolver a0))) (nuN τ192 (zR κ soSum (zR κ odSolver a0))) (nuN τ192 (zR κ soLess (zR κ odSolver a0))) (nuN τ192 (zR κ odHeld a0)) := by
          rw [(soF_r9 Zt (f := raTop) (by decide)).1, (soF_r9 Zt (f := raBottom) (by decide)).1]
          exact O
        have R := st_q8 Bp O' zs
        rw [fr_16 w1 w2 w3] at R
        exact ⟨Vc.1.trans R.1, Vc.2.1.trans R.2.1, Vc.2.2.trans R.2.2⟩
  have hj147 : ∀ (l0 : Nat) (l1 : Int32) (l2 : Int32) (l3 : Nat) (τ : zS), zW C (zn κ) τ → zT τ l0 = 9 → zT τ l3 = 11 → ((a0 = l0 ∧ a1 = l1 ∧ a2 = l2 ∧ a3 = l3 ∧ (zF (soF ρ shR9 (zR κ odCalc a0)) κ τ ∧ nmI ρ τ ∧ soI ρ τ (zR κ odSolver a0)) ∧ nuN τ (zR κ soWhole (zR κ odSolver a0)) < pB9 1490 ∧ nuN τ (zR κ odHeld a0) < pB9 1502) ∧ (n9 = 0 → nuN τ (zR κ soWhole (zR κ odSolver a0)) = 1) ∧ 0 < nuN τ (zR κ soWhole (zR κ odSolver a0)) ∧ (∀ k, k < n9 → uV16 σ9 V9 a1 a2 k ≠ 0 → (un15 κ (zR κ odSolver a0) V9 k).den ∣ nuN τ (zR κ soWhole (zR κ odSolver a0))) ∧ ((nuN τ (zR κ odHeld a0) : Nat) : Rat) = dK16 κ (zR κ odSolver a0) σ9 V9 a1 a2 n9 * ((nuN τ (zR κ soWhole (zR κ odSolver a0)) : Nat) : Rat)) → w_Od_showWeight_147 C (zn κ) Q  l0 l1 l2 l3 τ := by
    rintro _ _ _ _ τ147 W147 T147_0 T147_1 ⟨⟨rfl, rfl, rfl, rfl, j147⟩, hE⟩
    unfold w_Od_showWeight_147
    intro T13
    obtain ⟨⟨Z1, N1, S1⟩, Bw, B0⟩ := j147
    obtain ⟨X1, e1, _, _⟩ := odX9_f W Ta0 N0 Z1 shR9_l X0
    have es : zR τ147 odSolver a0 = (zR κ odSolver a0) := e1 odSolver (Or.inl (by decide)) a0
    have ec : zR τ147 odCalc a0 = (zR κ odCalc a0) := e1 odCalc (Or.inl (by decide)) a0
    have eu : zR τ147 soSum (zR κ odSolver a0) = (zR κ soSum (zR κ odSolver a0)) := e1 soSum (Or.inr (by decide)) _
    have el : zR τ147 soLess (zR κ odSolver a0) = (zR κ soLess (zR κ odSolver a0)) := e1 soLess (Or.inr (by decide)) _
    have ew : zR τ147 soWhole (zR κ odSolver a0) = (zR κ soWhole (zR κ odSolver a0)) := e1 soWhole (Or.inr (by decide)) _
    refine Od_weigh_q6 W147 T13 ρ n9 P9 σ9 V9 (by rw [e1 odAtlas (Or.inl (by decide)) a0]; exact tb_f15 W soF_fr Z1 (ty_odAtlas W Ta0) hT9) (by rw [e1 odAtlas (Or.inl (by decide)) a0]; exact ls_f16 W (ty_odAtlas W Ta0) Z1 hL9) (by rw [es]; exact vV_f15 W ts N0 Z1 hn shR9_l X0.2.2.2.1 hV9) (by rw [e1 odAtlas (Or.inl (by decide)) a0]; exact lz_f16 W (ty_odAtlas W Ta0) Z1 hZ9) (by rw [es, ew]; intro k hk u; rw [un_f16 W ts Z1]; exact hE.2.2.1 k hk u) ?_ (fun κ_14 q15 => ?_)
    · rw [es, ew]
      exact ⟨⟨N1, S1⟩, X1, Bw⟩
    obtain ⟨q15, z9⟩ := q15
    have zg := z9
    rw [es, eu, el, ew, wK_f16 W ts Z1] at zg
    rw [es, ec, eu, el] at q15
    obtain ⟨⟨Zg, Ng, Sg⟩, Bs, Bl⟩ := q15
    have Z14 : zF (soF ρ shR9 (zR κ odCalc a0)) κ κ_14 := Z1.tr (soF_m (fun r z => by unfold shR9; unfold wgR9 at z; omega) Zg)
    have h14 := (soF_B (c := 0) W147 (Z1.t tH (by decide)) Zg (by rw [h15]; exact wgR9_n.2.1)).2.1
    have w14 := (soF_B (c := 0) W147 (Z1.t tW (by decide)) Zg (by rw [h1]; exact wgR9_n.1)).2.1
    have T14 : zT κ_14 a0 = 9 := Z14.t Ta0 (by decide)
    have e2 := (odX9_f W Ta0 N0 Z14 shR9_l X0).2.1
    have es2 : zR κ_14 odSolver a0 = (zR κ odSolver a0) := e2 odSolver (Or.inl (by decide)) a0
    have eu2 : zR κ_14 soSum (zR κ odSolver a0) = (zR κ soSum (zR κ odSolver a0)) := e2 soSum (Or.inr (by decide)) _
    have el2 : zR κ_14 soLess (zR κ odSolver a0) = (zR κ soLess (zR κ odSolver a0)) := e2 soLess (Or.inr (by decide)) _
    have ts14 : zT κ_14 (zR κ odSolver a0) = 12 := Z14.t ts (by decide)
    intro W16
    intro M17
    refine ⟨fun c18 => ?_, fun c18 => ?_⟩
    · skip
      refine hj192 _ _ _ W16 ?_ ?_ ?_
      · exact T14  -- t5
      · exact Z14.t Ta3 (by decide)  -- t6
      · refine and_5 ?_ (fun o9 => ?_)  -- k7
        · exact ⟨rfl, rfl, ⟨Z14, Ng, Sg⟩, by rw [h14]; exact B0, Bs, Bl⟩
        · refine ⟨((nuN τ147 (zR κ soWhole (zR κ odSolver a0)) : Nat) : Rat), nq0 hE.2.1, ?_, ?_⟩
          · rw [zg.1, sK_w16 hE.1]
            unfold tK16
            rw [if_neg c18]
          · rw [h14]; exact hE.2.2.2
    · skip
      intro T19
      intro T20
      refine Nu_copy_c W16 T19 T20 6500 6500 ?_ (fun κ_21 q22 => ?_)
      · rw [es2, eu2, el2]
        exact cp_p9 Ng h8 h7 ⟨nmR_s9.1.2.2, by decide, by decide⟩ ⟨nmR_s9.1.2.1, by decide, by decide⟩ (by decide) (Nat.lt_of_lt_of_le Bs b4)
      rw [es2, eu2, el2] at q22
      obtain ⟨⟨Na, Sa⟩, Va, Za⟩ := cp_q9 W16 ts14 Ng Sg h8 h7 (by decide) ⟨nmR_s9.1.2.1, by decide⟩ q22
      have Za0 := Za (zR κ odCalc a0)
      have Z21 : zF (soF ρ shR9 (zR κ odCalc a0)) κ κ_21 := Z14.tr (soF_m (fun r z => by unfold shR9; omega) Za0)
      have e3 := (odX9_f W Ta0 N0 Z21 shR9_l X0).2.1
      have es3 : zR κ_21 odSolver a0 = (zR κ odSolver a0) := e3 odSolver (Or.inl (by decide)) a0
      have eu3 : zR κ_21 soSum (zR κ odSolver a0) = (zR κ soSum (zR κ odSolver a0)) := e3 soSum (Or.inr (by decide)) _
      have ew3 : zR κ_21 soWhole (zR κ odSolver a0) = (zR κ soWhole (zR κ odSolver a0)) := e3 soWhole (Or.inr (by decide)) _
      have w21 := (soF_B (c := 0) W16 (Z14.t tW (by decide)) Za0 (by rw [h1]; decide)).2.1
      have h21 := (soF_B (c := 0) W16 (Z14.t tH (by decide)) Za0 (by rw [h15]; decide)).2.1
      intro W23
      intro M24
      intro T25
      intro T26
      refine Nu_copy_c W23 T25 T26 6500 6500 ?_ (fun κ_27 q28 => ?_)
      · rw [es3, eu3, ew3]
        exact cp_p9 Na h7 h1 ⟨nmR_s9.1.2.1, by decide, by decide⟩ ⟨nmR_s9.1.1, by decide, by decide⟩ (by decide) (by rw [w21, w14]; exact Nat.lt_of_lt_of_le Bw (pB9_l (by decide)))
      intro W29
      intro M30
      rw [es3, eu3, ew3] at q28
      obtain ⟨⟨Nb, Sb⟩, Vb, Zb⟩ := cp_q9 W23 (Z21.t ts (by decide)) Na Sa h7 h1 (by decide) ⟨nmR_s9.1.1, by decide⟩ q28
      have Zb0 := Zb (zR κ odCalc a0)
      have Z27 : zF (soF ρ shR9 (zR κ odCalc a0)) κ κ_27 := Z21.tr (soF_m (fun r z => by unfold shR9; omega) Zb0)
      have l27 := (soF_B (c := 0) W23 (Z21.t tL (by decide)) Zb0 (by rw [h8]; decide)).2.1
      have h27 := (soF_B (c := 0) W23 (Z21.t tH (by decide)) Zb0 (by rw [h15]; decide)).2.1
      refine hj192 _ _ _ W29 ?_ ?_ ?_
      · exact Z27.t Ta0 (by decide)  -- t10
      · exact Z27.t Ta3 (by decide)  -- t11
      · refine and_5 ?_ (fun o9 => ?_)  -- k12
        · exact ⟨rfl, rfl, ⟨Z27, Nb, Sb⟩, by rw [h27, h21, h14]; exact B0, by rw [Vb, w21, w14]; exact Nat.lt_of_lt_of_le Bw b0, by rw [l27, Va]; exact Bs⟩
        · have y := zg.1
          have y2 := zg.2 h09 (by rw [c18]; decide)
          have z0 : ((0 : Nat) : Rat) = 0 := rfl
          rw [y2, sK_w16 hE.1, z0] at y
          refine ⟨((nuN τ147 (zR κ soWhole (zR κ odSolver a0)) : Nat) : Rat), nq0 hE.2.1, ?_, ?_⟩
          · rw [Vb, w21, w14, l27, Va]
            unfold tK16
            rw [if_pos c18]
            grind
          · rw [h27, h21, h14]; exact hE.2.2.2
  have hj22 : ∀ (l0 : Nat) (l1 : Int32) (l2 : Int32) (l3 : Nat) (s0 : Int32) (τ : zS), zW C (zn κ) τ → zT τ l0 = 9 → zT τ l3 = 11 → ((κ = τ ∧ a0 = l0 ∧ a1 = l1 ∧ a2 = l2 ∧ a3 = l3 ∧ True) ∧ s0 = aK16 a1) → w_Od_showWeight_22 C (zn κ) Q  l0 l1 l2 l3 s0 τ := by
    rintro _ _ _ _ y22_s0 _ W22 T22_0 T22_1 ⟨⟨rfl, rfl, rfl, rfl, rfl, j22⟩, hE⟩
    unfold w_Od_showWeight_22
    intro T31
    refine Nu_put_c W22 T31 6500 ?_ (fun κ_32 q33 => ?_)
    · exact ⟨by decide, g1.2.2⟩  -- p13
    intro W34
    intro M35
    obtain ⟨Fp, ⟨Rp, Np⟩, Ip, Vp⟩ := q33
    have Zp : zF (soF ρ shR9 (zR κ odCalc a0)) κ κ_32 := soF_1 (by rw [h1]; unfold shR9; decide) Fp
    unfold w_Od_showWeight_38
    refine ⟨fun n l0 l1 l2 l3 l4 l5 τ => n = ((n9 : Int) - l5.toInt).toNat ∧ ((a0 = l0 ∧ a1 = l1 ∧ a2 = l2 ∧ a3 = l3 ∧ (zF (soF ρ shR9 (zR κ odCalc a0)) κ τ ∧ nmI ρ τ ∧ soI ρ τ (zR κ odSolver a0)) ∧ dz9 (nuN τ (zR κ soWhole (zR κ odSolver a0))) P9 ∧ (0 ≤ l5.toInt ∧ l5.toInt ≤ n9)) ∧ l4 = aK16 a1 ∧ (n9 = 0 → nuN τ (zR κ soWhole (zR κ odSolver a0)) = 1) ∧ 0 < nuN τ (zR κ soWhole (zR κ odSolver a0)) ∧ ∀ k, k < l5.toNatClampNeg → uV16 σ9 V9 l4 a2 k ≠ 0 → (un15 κ (zR κ odSolver a0) V9 k).den ∣ nuN τ (zR κ soWhole (zR κ odSolver a0))), ⟨_, rfl, ?_⟩, ?_⟩
    · refine and_5 ?_ (fun o9 => ⟨hE, fun _ => by rw [Vp, o1], by rw [Vp, o1]; decide, fun k hk => absurd hk (Nat.not_lt_zero k)⟩)  -- j14
      exact ⟨rfl, rfl, rfl, rfl, ⟨Zp, nm_1 W N0 Fp (by rw [h1]; exact Ip), so_1 W ts S0 Fp⟩, by rw [Vp, o1]; exact Or.inr (Nat.one_dvd _), ⟨by decide, by rw [t0i]; omega⟩⟩
    rintro n38 _ _ _ _ x38_4 x38_5 κ38 W38 T38_0 T38_1 ⟨hn38, ⟨rfl, rfl, rfl, rfl, i38⟩, hE⟩
    obtain ⟨⟨Z1, N1, S1⟩, D1, l5⟩ := i38
    obtain ⟨X1, e1, _, _⟩ := odX9_f W Ta0 N0 Z1 shR9_l X0
    have es : zR κ38 odSolver a0 = (zR κ odSolver a0) := e1 odSolver (Or.inl (by decide)) a0
    have ec : zR κ38 odCalc a0 = (zR κ odCalc a0) := e1 odCalc (Or.inl (by decide)) a0
    have eh : zR κ38 odHeld a0 = (zR κ odHeld a0) := e1 odHeld (Or.inl (by decide)) a0
    have ew : zR κ38 soWhole (zR κ odSolver a0) = (zR κ soWhole (zR κ odSolver a0)) := e1 soWhole (Or.inr (by decide)) _
    have ep : zR κ38 soPart (zR κ odSolver a0) = (zR κ soPart (zR κ odSolver a0)) := e1 soPart (Or.inr (by decide)) _
    have tot1 := X1.2.2.1.1.2.2.2.1
    have lw1 : nuN κ38 (zR κ soWhole (zR κ odSolver a0)) < pB9 1490 := Nat.lt_of_le_of_lt (dz9_le D1 P0) P1
    have ts1 : zT κ38 (zR κ odSolver a0) = 12 := Z1.t ts (by decide)
    have kl := cnk l5.1
    refine ⟨fun c36 => ?_, fun c36 => ?_⟩
    · skip
      intro T37
      intro T38
      refine Nu_copy_c W38 T37 T38 6500 6500 ?_ (fun κ_39 q40 => ?_)
      · rw [es, eh, ew]
        exact cp_p9 N1 h15 h1 ⟨nmR_s9.2.1, by decide, by decide⟩ ⟨nmR_s9.1.1, by decide, by decide⟩ (by decide) (Nat.lt_of_lt_of_le lw1 (pB9_l (by decide)))
      have nk38 : x38_5.toNatClampNeg = n9 := by have y := c36; rw [lei, tot1] at y; omega
      rw [es, eh, ew] at q40
      obtain ⟨⟨Na, Sa⟩, Va, Za⟩ := cp_q9 W38 ts1 N1 S1 h15 h1 (by decide) ⟨nmR_s9.1.1, by decide⟩ q40
      have Za0 := Za (zR κ odCalc a0)
      have Z39 : zF (soF ρ shR9 (zR κ odCalc a0)) κ κ_39 := Z1.tr (soF_m (fun r z => by unfold shR9; omega) Za0)
      obtain ⟨X2, e2, _, _⟩ := odX9_f W Ta0 N0 Z39 shR9_l X0
      have w39 := (soF_B (c := 0) W38 (Z1.t tW (by decide)) Za0 (by rw [h1]; decide)).2.1
      have T39 : zT κ_39 a0 = 9 := Z39.t Ta0 (by decide)
      have es2 : zR κ_39 odSolver a0 = (zR κ odSolver a0) := e2 odSolver (Or.inl (by decide)) a0
      have ec2 : zR κ_39 odCalc a0 = (zR κ odCalc a0) := e2 odCalc (Or.inl (by decide)) a0
      have ew2 : zR κ_39 soWhole (zR κ odSolver a0) = (zR κ soWhole (zR κ odSolver a0)) := e2 soWhole (Or.inr (by decide)) _
      have eu2 : zR κ_39 soSum (zR κ odSolver a0) = (zR κ soSum (zR κ odSolver a0)) := e2 soSum (Or.inr (by decide)) _
      have el2 : zR κ_39 soLess (zR κ odSolver a0) = (zR κ soLess (zR κ odSolver a0)) := e2 soLess (Or.inr (by decide)) _
      intro W41
      intro M42
      refine ⟨fun c43 => ?_, fun c43 => ?_⟩
      · skip
        refine hj147 _ _ _ _ _ W41 ?_ ?_ ?_
        · exact T39  -- t16
        · exact Z39.t Ta3 (by decide)  -- t17
        · refine and_5 ?_ (fun o9 => ?_)  -- k18
          · exact ⟨rfl, rfl, rfl, rfl, ⟨Z39, Na, Sa⟩, by rw [w39]; exact lw1, by rw [Va]; exact Nat.lt_of_lt_of_le lw1 b0⟩
          · refine ⟨fun z => by rw [w39]; exact hE.2.1 z, by rw [w39]; exact hE.2.2.1, fun k hk u => by rw [w39]; exact hE.2.2.2 k (by omega) (by rw [c43]; exact u), ?_⟩
            rw [Va, w39]
            unfold dK16
            rw [if_pos (hE.1.symm.trans c43), Rat.one_mul]
      · skip
        intro T44
        refine Od_weigh_q6 W41 T44 ρ n9 P9 σ9 V9 (by rw [e2 odAtlas (Or.inl (by decide)) a0]; exact tb_f15 W soF_fr Z39 (ty_odAtlas W Ta0) hT9) (by rw [e2 odAtlas (Or.inl (by decide)) a0]; exact ls_f16 W (ty_odAtlas W Ta0) Z39 hL9) (by rw [es2]; exact vV_f15 W ts N0 Z39 hn shR9_l X0.2.2.2.1 hV9) (by rw [e2 odAtlas (Or.inl (by decide)) a0]; exact lz_f16 W (ty_odAtlas W Ta0) Z39 hZ9) (by rw [es2, ew2, w39]; intro k hk u; rw [un_f16 W ts Z39]; exact hE.2.2.2 k (by omega) u) ?_ (fun κ_45 q46 => ?_)
        · rw [es2, ew2, w39]
          exact ⟨⟨Na, Sa⟩, X2, lw1⟩
        obtain ⟨q46, z9⟩ := q46
        have zh := z9
        rw [es2, eu2, el2, ew2, w39, wK_f16 W ts Z39] at zh
        rw [es2, ec2, eu2, el2] at q46
        obtain ⟨⟨Zg, Ng, Sg⟩, Bs, Bl⟩ := q46
        have Z45 : zF (soF ρ shR9 (zR κ odCalc a0)) κ κ_45 := Z39.tr (soF_m (fun r z => by unfold shR9; unfold wgR9 at z; omega) Zg)
        have e3 := (odX9_f W Ta0 N0 Z45 shR9_l X0).2.1
        have es3 : zR κ_45 odSolver a0 = (zR κ odSolver a0) := e3 odSolver (Or.inl (by decide)) a0
        have eu3 : zR κ_45 soSum (zR κ odSolver a0) = (zR κ soSum (zR κ odSolver a0)) := e3 soSum (Or.inr (by decide)) _
        have eh3 : zR κ_45 odHeld a0 = (zR κ odHeld a0) := e3 odHeld (Or.inl (by decide)) a0
        have w45 := (soF_B (c := 0) W41 (Z39.t tW (by decide)) Zg (by rw [h1]; exact wgR9_n.1)).2.1
        intro W47
        intro M48
        intro T49
        intro T50
        refine Nu_copy_c W47 T49 T50 6500 6500 ?_ (fun κ_51 q52 => ?_)
        · rw [es3, eu3, eh3]
          exact cp_p9 Ng h15 h7 ⟨nmR_s9.2.1, by decide, by decide⟩ ⟨nmR_s9.1.2.1, by decide, by decide⟩ (by decide) (Nat.lt_of_lt_of_le Bs b4)
        intro W53
        intro M54
        rw [es3, eu3, eh3] at q52
        obtain ⟨⟨Nb, Sb⟩, Vb, Zb⟩ := cp_q9 W47 (Z45.t ts (by decide)) Ng Sg h15 h7 (by decide) ⟨nmR_s9.1.2.1, by decide⟩ q52
        have Zb0 := Zb (zR κ odCalc a0)
        have Z51 : zF (soF ρ shR9 (zR κ odCalc a0)) κ κ_51 := Z45.tr (soF_m (fun r z => by unfold shR9; omega) Zb0)
        have w51 := (soF_B (c := 0) W47 (Z45.t tW (by decide)) Zb0 (by rw [h1]; decide)).2.1
        refine hj147 _ _ _ _ _ W53 ?_ ?_ ?_
        · exact Z51.t Ta0 (by decide)  -- t21
        · exact Z51.t Ta3 (by decide)  -- t22
        · refine and_5 ?_ (fun o9 => ?_)  -- k23
          · exact ⟨rfl, rfl, rfl, rfl, ⟨Z51, Nb, Sb⟩, by rw [w51, w45, w39]; exact lw1, by rw [Vb]; exact Bs⟩
          · have ne : aK16 a1 ≠ a1 := fun e => c43 (hE.1.trans e)
            have r := aK_16 h09 ne
            have l0 := zh.2 (by rw [hE.1]; rcases r with ⟨_, e⟩ | ⟨_, e⟩ <;> rw [e] <;> decide) (by rw [hE.1]; rcases r with ⟨_, e⟩ | ⟨_, e⟩ <;> rw [e] <;> decide)
            have y := zh.1
            have z0 : ((0 : Nat) : Rat) = 0 := rfl
            rw [l0, sK_w16 hE.2.1, z0] at y
            refine ⟨fun z => by rw [w51, w45, w39]; exact hE.2.1 z, by rw [w51, w45, w39]; exact hE.2.2.1, fun k hk u => by rw [w51, w45, w39]; exact hE.2.2.2 k (by omega) (by rw [hE.1]; exact kd_16 hT9 hk h09 ne u), ?_⟩
            rw [Vb, w51, w45, w39]
            unfold dK16
            rw [if_neg ne, ← hE.1]
            grind
    · skip
      intro T55
      rw [lei, tot1] at c36
      have ix := cn1 (x := x38_5) l5.1 (by omega)
      refine Od_unitsOf_q6 W38 T55 ρ n9 P9 σ9 V9 (by rw [e1 odAtlas (Or.inl (by decide)) a0]; exact tb_f15 W soF_fr Z1 (ty_odAtlas W Ta0) hT9) (by rw [e1 odAtlas (Or.inl (by decide)) a0]; exact ls_f16 W (ty_odAtlas W Ta0) Z1 hL9) (by rw [es]; exact vV_f15 W ts N0 Z1 hn shR9_l X0.2.2.2.1 hV9) ?_ (fun r56 q58 => ?_)
      · exact ⟨X1, l5.1, by omega⟩  -- p24
      obtain ⟨q58, z9⟩ := q58
      have zo := z9
      intro W59
      intro M60
      refine ⟨fun c61 => ?_, fun c61 => ?_⟩
      · skip
        intro x62 hx62
        refine lp_b5 ?_ (fun d9 => ⟨rfl, ?_⟩)
        · rw [hn38, hx62, ix.2]; omega  -- d25
        · refine and_5 ?_ (fun o9 => ?_)  -- i26
          · exact ⟨rfl, rfl, rfl, rfl, ⟨Z1, N1, S1⟩, D1, ⟨by rw [hx62, ix.2]; omega, by rw [hx62, ix.2]; omega⟩⟩
          · refine ⟨hE.1, hE.2.1, hE.2.2.1, fun k hk u => ?_⟩
            rw [hx62, ix.1] at hk
            by_cases e : k = x38_5.toNatClampNeg
            · rw [e, ← zo, (lg_cmp_eq _ _).mp c61] at u
              exact absurd rfl u
            · exact hE.2.2.2 k (by omega) u
      · skip
        intro T63
        have sg := q58.2.2 (fun z => c61 ((lg_cmp_eq _ _).mpr z))
        have S1' : soI ρ κ38 (zR κ38 odSolver a0) := by rw [es]; exact S1
        refine So_unit_q6 W59 T63 ρ (vU9 κ38 (zR κ38 odSolver a0) x38_5.toNatClampNeg) ?_ (fun κ_64 q65 => ?_)
        · exact od_u9 N1 S1' X1 l5.1 (by omega) sg  -- p27
        obtain ⟨q65, z9⟩ := q65
        have zu := z9
        obtain ⟨⟨Zu, Nu9, Su9⟩, tu, bu, du⟩ := od_v9 X1 l5.1 (by omega) sg q65
        rw [ec] at Zu
        rw [es] at Su9 tu bu du
        rw [ep] at tu bu du
        have Z64 : zF (soF ρ shR9 (zR κ odCalc a0)) κ κ_64 := Z1.tr (soF_m (fun r z => by unfold shR9; rcases z with z | z | z <;> omega) Zu)
        obtain ⟨X2, e2, _, _⟩ := odX9_f W Ta0 N0 Z64 shR9_l X0
        have es2 : zR κ_64 odSolver a0 = (zR κ odSolver a0) := e2 odSolver (Or.inl (by decide)) a0
        have ec2 : zR κ_64 odCalc a0 = (zR κ odCalc a0) := e2 odCalc (Or.inl (by decide)) a0
        have ew2 : zR κ_64 soWhole (zR κ odSolver a0) = (zR κ soWhole (zR κ odSolver a0)) := e2 soWhole (Or.inr (by decide)) _
        have ep2 : zR κ_64 soPart (zR κ odSolver a0) = (zR κ soPart (zR κ odSolver a0)) := e2 soPart (Or.inr (by decide)) _
        have eca : zR κ_64 soCalc (zR κ odSolver a0) = (zR κ odCalc a0) := by
          have y := X2.1.2
          rw [es2, ec2] at y
          exact y
        have eb2 : zR κ_64 raBottom (zR κ soPart (zR κ odSolver a0)) = zR κ38 raBottom (zR κ soPart (zR κ odSolver a0)) := (soF_r9 Zu (by decide)).1
        have w64 := (soF_B (c := 0) W38 (Z1.t tW (by decide)) Zu (by rw [h1]; unfold unR9; decide)).2.1
        have b22 : ρ (zR κ_64 raBottom (zR κ soPart (zR κ odSolver a0))) = 22 := (ra_t9 Nu9 h20 (Or.inl rfl)).1.2
        intro W66
        intro M67
        intro T68
        intro T69
        intro T70
        refine Ca_join_c W66 T68 T69 T70 6500 2000 6500 6500 ?_ (fun κ_71 q72 => ?_)
        · have J := jn_p (w := zR κ_64 raBottom (zR κ soPart (zR κ odSolver a0))) Nu9 Su9 b22 (Or.inr (Or.inr (Or.inl rfl))) ⟨by decide, by decide, by decide⟩ (by rw [ew2, w64]; exact Nat.lt_of_lt_of_le lw1 (pB9_l (by decide))) (by rw [eb2]; exact bu)
          rw [es2, ec2, ep2, ← eca]
          exact J
        intro W73
        intro M74
        intro x75 hx75
        rw [es2, ec2, ep2, ← eca] at q72
        have J := jn_q W66 Nu9 Su9 q72
        have Vj := q72.2.2.2
        rw [ew2, w64, eb2] at Vj
        rw [eca] at J
        refine lp_b5 ?_ (fun d9 => ⟨rfl, ?_⟩)
        · rw [hn38, hx75, ix.2]; omega  -- d29
        · refine and_5 ?_ (fun o9 => ?_)  -- i30
          · refine ⟨rfl, rfl, rfl, rfl, ⟨Z64.tr (soF_m (fun r z => by unfold shR9; rcases z with z | z | z <;> omega) J.2.1), J.1⟩, ?_, ⟨by rw [hx75, ix.2]; omega, by rw [hx75, ix.2]; omega⟩⟩
            rw [Vj]
            exact dz9_lcm D1 du
          · rw [es] at zu
            rw [ep] at zu
            have V38 : vV15 κ38 (zR κ odSolver a0) n9 V9 := vV_f15 W ts N0 Z1 hn shR9_l X0.2.2.2.1 hV9
            have ru := zu _ (V38 _ (show x38_5.toNatClampNeg < n9 by omega)).1
            have eu' : V9 x38_5.toNatClampNeg * mkRat 1 (dvN9 κ38 (zR κ38 soAtlas (zR κ odSolver a0)) x38_5.toNatClampNeg) = un15 κ (zR κ odSolver a0) V9 x38_5.toNatClampNeg := un_f16 W ts Z1 V9 _
            rw [eu'] at ru
            have dn := ru.2.2
            rw [eb2] at dn
            have dp : 0 < (un15 κ (zR κ odSolver a0) V9 x38_5.toNatClampNeg).den := Nat.pos_of_ne_zero (Rat.den_nz _)
            rw [dn] at Vj
            refine ⟨hE.1, fun z => by omega, by rw [Vj]; exact Nat.lcm_pos hE.2.2.1 dp, fun k hk u => ?_⟩
            rw [hx75, ix.1] at hk
            rw [Vj]
            by_cases e : k = x38_5.toNatClampNeg
            · rw [e]
              exact Nat.dvd_lcm_right _ _
            · exact Nat.dvd_trans (hE.2.2.2 k (by omega) u) (Nat.dvd_lcm_left _ _)
  refine ⟨fun c76 => ?_, fun c76 => ?_⟩
  · skip
    refine ⟨fun c77 => ?_, fun c77 => ?_⟩
    · skip
      refine hj22 _ _ _ _ _ _ W ?_ ?_ ?_
      · exact Ta0  -- t31
      · exact Ta3  -- t32
      · refine and_5 ?_ (fun o9 => ?_)  -- k33
        · exact ⟨rfl, rfl, rfl, rfl, rfl, trivial⟩
        · unfold aK16
          rw [if_pos c76, if_neg c77]
    · skip
      refine hj22 _ _ _ _ _ _ W ?_ ?_ ?_
      · exact Ta0  -- t34
      · exact Ta3  -- t35
      · refine and_5 ?_ (fun o9 => ?_)  -- k36
        · exact ⟨rfl, rfl, rfl, rfl, rfl, trivial⟩
        · unfold aK16
          rw [if_pos c76, if_pos c77]
  · skip
    refine hj22 _ _ _ _ _ _ W ?_ ?_ ?_
    · exact Ta0  -- t37
    · exact Ta3  -- t38
    · refine and_5 ?_ (fun o9 => ?_)  -- k39
      · exact ⟨rfl, rfl, rfl, rfl, rfl, trivial⟩
      · unfold aK16
        rw [if_neg c76]

end
section
set_option maxHeartbeats 1600000
/-! the class: show of visits, by its value -/
def gv16 (g : Nat → Int32) (kind : Int32) (k : Nat) : Int := if kind = 9 then 1 else (g k).toInt
noncomputable def vs16 (V : Nat → Rat) (g : Nat → Int32) (kind : Int32) (n : Nat) : Rat := smQ (fun k => V k * ((gv16 g kind k : Int) : Rat)) n
theorem vs_s16 {V : Nat → Rat} {g : Nat → Int32} {kind : Int32} {n : Nat} : vs16 V g kind (n + 1) = vs16 V g kind n + V n * ((gv16 g kind n : Int) : Rat) := rfl
/-- gains stay -/
abbrev gg16 (κ : zS) (a : Nat) : Nat → Int32 := zA κ (zR κ atGains (zR κ soAtlas a))
theorem gg_f16 {C : zC} {n0 a ca : Nat} {ρ : Nat → Nat} {R : Nat → Prop} {κ τ : zS} (W : zW C n0 κ) (Ta : zT κ a = 12) (Z : zF (soF ρ R ca) κ τ) : gg16 τ a = gg16 κ a := by
  unfold gg16
  rw [(soF_r9 Z (f := soAtlas) (by decide)).1, (at_f9 W soF_fr Z (ty_soAtlas W Ta) (f := atGains) (by decide)).2.1]
theorem So_showVisits_q6 {C : zC} {n0 : Nat} {a0 : Nat} {a1 : Int32} {a2 : Int32} {a3 : Nat} {κ : zS} {Q : zS → Prop} (W : zW C n0 κ) (Ta0 : zT κ a0 = 12) (Ta3 : zT κ a3 = 11) (ρ : Nat → Nat) (n9 P9 : Nat) (V9 : Nat → Rat) (hV9 : vV15 κ a0 n9 V9) (hp : (nmI ρ κ ∧ soI ρ κ a0) ∧ suX9 κ a0 n9 ∧ vsI9 ρ κ a0 n9 P9 ∧ (0 < P9 ∧ P9 < pB9 1490) ∧ ρ a3 = 30 ∧ (a1 = 8 → 0 ≤ a2.toInt ∧ a2.toInt < n9)) (h : ∀ (κ' : zS), (((zF (soF ρ shR9 (zR κ soCalc a0)) κ κ' ∧ nmI ρ κ' ∧ soI ρ κ' a0) ∧ (nuN κ' (zR κ soLess a0) < pB9 4000 ∨ nuN κ' (zR κ soLess a0) = nuN κ (zR κ soLess a0))) ∧ (rqW8 κ' a3 (if a1 = 8 then V9 a2.toNatClampNeg else vs16 V9 (gg16 κ a0) a1 n9))) → Q κ') : zRun C 7 mSo_showVisits [.ref a0, .int a1, .int a2, .ref a3] κ (oV Q noX) := by
  refine So_showVisits_run W Ta0 Ta3 ?_
  replace W := W.lo (Nat.le_trans W.1.2.1 W.1.2.2) (Nat.le_refl (zn κ))
  unfold w_So_showVisits_0
  obtain ⟨⟨N0, S0⟩, X0, V0, ⟨P0, P1⟩, r30, p8⟩ := hp
  have hn := X0.1.2.2.1
  have xv0 := X0.2
  have g1 := nm_g N0 S0.1.1 (Or.inl ⟨by decide, by decide⟩) (by decide)
  have o1 : (1 : Int64).toInt.toNat = 1 := rfl
  have h8 := S0.1.2.2.2.2.2.1
  have h7 := S0.1.2.2.2.2.1
  have h20 := S0.1.2.2.2.2.2.2
  have h256 : 2 ^ 256 ≤ pB9 100 := by unfold pB9; decide
  have l20 : pB9 1490 ≤ pB9 2000 := pB9_l (by decide)
  refine ⟨fun c1 => ?_, fun c1 => ?_⟩
  · skip
    intro T2
    refine Nu_put_c W T2 6500 ?_ (fun κ_3 q4 => ?_)
    · exact ⟨by decide, g1.2.2⟩  -- p1
    intro W5
    intro M6
    intro x7 hx7
    obtain ⟨Fp, ⟨Rp, Np⟩, Ip, Vp⟩ := q4
    have Zp : zF (soF ρ shR9 (zR κ soCalc a0)) κ κ_3 := soF_1 (by rw [S0.1.1]; unfold shR9; decide) Fp
    have X3 := suX9_f W Ta0 Zp X0
    have tot : x7.toInt = (n9 : Int) := by rw [hx7]; exact X3.1.1.2.2.2.1
    unfold w_So_showVisits_40
    refine ⟨fun n l0 l1 l3 l4 l5 τ => n = (l4.toInt - l5.toInt).toNat ∧ ((a0 = l0 ∧ a1 = l1 ∧ a3 = l3 ∧ (zF (soF ρ shR9 (zR κ soCalc a0)) κ τ ∧ nmI ρ τ ∧ soI ρ τ a0) ∧ (dz9 (nuN τ (zR κ soWhole a0)) P9) ∧ l4.toInt = (n9 : Int) ∧ (0 ≤ l5.toInt ∧ l5.toInt ≤ l4.toInt)) ∧ 0 < nuN τ (zR κ soWhole a0) ∧ ∀ k, k < l5.toNatClampNeg → V9 k ≠ 0 → gv16 (gg16 κ a0) a1 k ≠ 0 → (V9 k).den ∣ nuN τ (zR κ soWhole a0)), ⟨_, rfl, ?_⟩, ?_⟩
    · refine and_5 ?_ (fun o9 => ⟨by rw [Vp, o1]; decide, fun k hk => absurd hk (Nat.not_lt_zero k)⟩)  -- j2
      exact ⟨rfl, rfl, rfl, ⟨Zp, nm_1 W N0 Fp (by rw [S0.1.1]; exact Ip), so_1 W Ta0 S0 Fp⟩, by rw [Vp, o1]; exact Or.inr (Nat.one_dvd _), tot, ⟨by decide, by rw [t0i]; omega⟩⟩
    rintro n40 _ _ _ x40_4 x40_5 κ40 W40 T40_0 T40_1 ⟨hn40, ⟨rfl, rfl, rfl, i40⟩, hE⟩
    obtain ⟨⟨Z1, N1, S1⟩, D1, e4, l5⟩ := i40
    have X1 := suX9_f W Ta0 Z1 X0
    have V1 := vsI9_f W Ta0 N0 Z1 hn shR9_l V0
    have kc := cnk l5.1
    have ew1 : zR κ40 soWhole a0 = (zR κ soWhole a0) := (soF_r9 Z1 (by decide)).1
    have es1 : zR κ40 soSum a0 = (zR κ soSum a0) := (soF_r9 Z1 (by decide)).1
    have ec1 : zR κ40 soCalc a0 = (zR κ soCalc a0) := (soF_r9 Z1 (by decide)).1
    have xv1 := X1.1.2
    have gM1 := X1.1.1.1
    have lw1 : nuN κ40 (zR κ soWhole a0) < pB9 1490 := Nat.lt_of_le_of_lt (dz9_le D1 P0) P1
    have hj79 : ∀ (l0 : Nat) (l1 : Int32) (l3 : Nat) (l4 : Int32) (l5 : Int32) (τ : zS), zW C (zn κ) τ → zT τ l0 = 12 → zT τ l3 = 11 → ((a0 = l0 ∧ a1 = l1 ∧ a3 = l3 ∧ (zF (soF ρ shR9 (zR κ soCalc a0)) κ τ ∧ nmI ρ τ ∧ soI ρ τ a0) ∧ (κ40 = τ ∧ x40_5 = l5 ∧ x40_4 = l4) ∧ l5.toInt < l4.toInt ∧ zI τ raSign (vU9 τ a0 l5.toNatClampNeg) ≠ 0) ∧ 0 < nuN τ (zR κ soWhole a0) ∧ ∀ k, k < l5.toNatClampNeg → V9 k ≠ 0 → gv16 (gg16 κ a0) a1 k ≠ 0 → (V9 k).den ∣ nuN τ (zR κ soWhole a0)) → w_So_showVisits_79 C (zn κ) Q (fun (l0' : Nat) (l1' : Int32) (l3' : Nat) (l4' : Int32) (l5' : Int32) (τ : zS) => ∃ k < n40, (fun (n : Nat) (l0 : Nat) (l1 : Int32) (l3 : Nat) (l4 : Int32) (l5 : Int32) (τ : zS) => n = (l4.toInt - l5.toInt).toNat ∧ ((a0 = l0 ∧ a1 = l1 ∧ a3 = l3 ∧ (zF (soF ρ shR9 (zR κ soCalc a0)) κ τ ∧ nmI ρ τ ∧ soI ρ τ a0) ∧ (dz9 (nuN τ (zR κ soWhole a0)) P9) ∧ l4.toInt = (n9 : Int) ∧ (0 ≤ l5.toInt ∧ l5.toInt ≤ l4.toInt)) ∧ 0 < nuN τ (zR κ soWhole a0) ∧ ∀ k, k < l5.toNatClampNeg → V9 k ≠ 0 → gv16 (gg16 κ a0) a1 k ≠ 0 → (V9 k).den ∣ nuN τ (zR κ soWhole a0))) k l0' l1' l3' l4' l5' τ) l0 l1 l3 l4 l5 τ := by
      rintro _ _ _ y79_4 y79_5 τ79 W79 T79_0 T79_1 ⟨⟨rfl, rfl, rfl, j79⟩, hE⟩
      unfold w_So_showVisits_79
      obtain ⟨_, ⟨e79, e795, e794⟩, lt79, sg79⟩ := j79
      subst e79
      subst e795
      subst e794
      obtain ⟨v1, v2, v3⟩ := V1 x40_5.toNatClampNeg (by omega)
      obtain ⟨v5, v6, v7⟩ := v3 sg79
      refine ⟨?_, ?_⟩
      · rw [inb_iff]; omega  -- b3
      refine ex_some ?_ (fun u8 hu8 => ?_)
      · exact ⟨_, v1⟩  -- e4
      intro T9
      intro T10
      intro T11
      have eu : u8 = vU9 κ40 a0 x40_5.toNatClampNeg := Option.some.inj (hu8.symm.trans v1)
      subst eu
      have gs := ra_g9 N1 v2 (by omega) (by omega) (by omega)
      have bz : dz9 (nuN κ40 (zR κ40 raBottom (vU9 κ40 a0 x40_5.toNatClampNeg))) P9 := dz9_of v7 (Nat.dvd_mul_right _ _) (Nat.le_mul_of_pos_right _ dvN9_p)
      refine Ca_join_c W79 T9 T10 T11 6500 2000 6500 6500 ?_ (fun κ_12 q13 => ?_)
      · exact jn_p N1 S1 gs.2.1.2 (raR_n gs.1.2).2 ⟨by omega, by omega, by omega⟩ (by rw [ew1]; exact Nat.lt_of_lt_of_le lw1 l20) (Nat.lt_of_lt_of_le v6 h256)  -- p5
      intro W14
      intro M15
      intro x16 hx16
      have J := jn_q W40 N1 S1 q13
      have Vj := q13.2.2.2
      rw [ew1] at Vj
      rw [ec1] at J
      have ix := cn1 (x := x40_5) (by omega) (by omega)
      refine lp_b5 ?_ (fun d9 => ⟨rfl, ?_⟩)
      · rw [hn40, hx16, ix.2]; omega  -- d6
      · refine and_5 ?_ (fun o9 => ?_)  -- i7
        · refine ⟨rfl, rfl, rfl, ⟨Z1.tr (soF_m (fun r z => by unfold shR9; rcases z with z | z | z <;> omega) J.2.1), J.1⟩, ?_, e4, ⟨by rw [hx16, ix.2]; omega, by rw [hx16, ix.2]; omega⟩⟩
          rw [Vj]
          exact dz9_lcm D1 bz
        · have V40 := vV_f15 W Ta0 N0 Z1 hn shR9_l V0 hV9
          have dn := (V40 _ (show x40_5.toNatClampNeg < n9 by omega)).1.2.2
          rw [dn] at Vj
          rw [Vj]
          refine ⟨Nat.lcm_pos hE.1 (Nat.pos_of_ne_zero (Rat.den_nz _)), fun k hk n1 n2 => ?_⟩
          rw [hx16, ix.1] at hk
          by_cases e : k = x40_5.toNatClampNeg
          · rw [e]
            exact Nat.dvd_lcm_right _ _
          · exact Nat.dvd_trans (hE.2 k (by omega) n1 n2) (Nat.dvd_lcm_left _ _)
    have gs1 := nm_g N1 (w := (zR κ soSum a0)) h7 (Or.inl ⟨by decide, by decide⟩) (by decide)
    refine ⟨fun c17 => ?_, fun c17 => ?_⟩
    · skip
      intro T18
      refine Nu_put_c W40 T18 6500 ?_ (fun κ_19 q20 => ?_)
      · rw [es1]
        exact ⟨by decide, gs1.2.2⟩
      rw [es1] at q20
      obtain ⟨Fs, ⟨Rs, Ns⟩, Is, Vs⟩ := q20
      have Zs0 : zF (soF ρ (fun r => r = 7) (zR κ soCalc a0)) κ40 κ_19 := soF_1 h7 Fs
      have Zs : zF (soF ρ shR9 (zR κ soCalc a0)) κ κ_19 := Z1.tr (soF_m (fun r z => by unfold shR9; omega) Zs0)
      have N19 : nmI ρ κ_19 := nm_1 W40 N1 Fs (by rw [h7]; exact Is)
      have S19 : soI ρ κ_19 a0 := so_1 W40 T40_0 S1 Fs
      have el19 : zR κ_19 soLess a0 = (zR κ soLess a0) := (soF_r9 Zs (by decide)).1
      have gl19 := nm_g N19 (w := (zR κ soLess a0)) h8 (Or.inl ⟨by decide, by decide⟩) (by decide)
      have T19 : zT κ_19 a0 = 12 := Fs.t T40_0 (by decide)
      intro W21
      intro M22
      intro T23
      refine Nu_put_c W21 T23 6500 ?_ (fun κ_24 q25 => ?_)
      · rw [el19]
        exact ⟨by decide, gl19.2.2⟩
      intro W26
      intro M27
      rw [el19] at q25
      obtain ⟨Fl, ⟨Rl, Nl⟩, Il, Vl⟩ := q25
      have Zl0 : zF (soF ρ (fun r => r = 8) (zR κ soCalc a0)) κ_19 κ_24 := soF_1 h8 Fl
      have Zl : zF (soF ρ shR9 (zR κ soCalc a0)) κ κ_24 := Zs.tr (soF_m (fun r z => by unfold shR9; omega) Zl0)
      have w19 := soF_B (c := 0) (w := (zR κ soWhole a0)) W40 (by rw [← ew1]; exact ty_soWhole W40 T40_0) Zs0 (by rw [S0.1.1]; decide)
      have w24 := soF_B (c := 0) (w := (zR κ soWhole a0)) W21 (Fs.t (by rw [← ew1]; exact ty_soWhole W40 T40_0) (by decide)) Zl0 (by rw [S0.1.1]; decide)
      have s24 := soF_B (c := 0) (w := (zR κ soSum a0)) W21 (Fs.t (by rw [← es1]; exact ty_soSum W40 T40_0) (by decide)) Zl0 (by rw [h7]; decide)
      unfold w_So_showVisits_125
      refine ⟨fun n l0 l1 l3 l4 l5 τ => n = (l4.toInt - l5.toInt).toNat ∧ ((a0 = l0 ∧ a1 = l1 ∧ a3 = l3 ∧ (zF (soF ρ shR9 (zR κ soCalc a0)) κ τ ∧ nmI ρ τ ∧ soI ρ τ a0) ∧ (nuN τ (zR κ soWhole a0) < pB9 1490 ∧ l4.toInt = (n9 : Int)) ∧ (0 ≤ l5.toInt ∧ l5.toInt ≤ l4.toInt) ∧ nuN τ (zR κ soSum a0) ≤ (nuN τ (zR κ soWhole a0) + 1) * (1 + l5.toNatClampNeg * sM9) ∧ nuN τ (zR κ soLess a0) ≤ (nuN τ (zR κ soWhole a0) + 1) * (1 + l5.toNatClampNeg * sM9)) ∧ 0 < nuN τ (zR κ soWhole a0) ∧ (∀ k, k < n9 → V9 k ≠ 0 → gv16 (gg16 κ a0) a1 k ≠ 0 → (V9 k).den ∣ nuN τ (zR κ soWhole a0)) ∧ ((nuN τ (zR κ soSum a0) : Nat) : Rat) - ((nuN τ (zR κ soLess a0) : Nat) : Rat) = vs16 V9 (gg16 κ a0) a1 l5.toNatClampNeg * ((nuN τ (zR κ soWhole a0) : Nat) : Rat)), ⟨_, rfl, ?_⟩, ?_⟩
      · refine and_5 ?_ (fun o9 => ?_)  -- j10
        · refine ⟨rfl, rfl, rfl, ⟨Zl, nm_1 W21 N19 Fl (by rw [h8]; exact Il), so_1 W21 T19 S19 Fl⟩, ⟨by rw [w24.2.1, w19.2.1]; exact lw1, e4⟩, ⟨by decide, by rw [t0i]; omega⟩, ?_, ?_⟩
          · rw [s24.2.1, Vs]; exact Nat.zero_le _
          · rw [Vl]; exact Nat.zero_le _
        · have e : x40_5.toNatClampNeg = n9 := by
            have y := c17
            rw [lei] at y
            omega
          have z0 : (((0 : Int64).toInt.toNat : Nat) : Rat) = 0 := rfl
          have w0 : vs16 V9 (gg16 κ a0) a1 (0 : Int32).toNatClampNeg = 0 := rfl
          refine ⟨by rw [w24.2.1, w19.2.1]; exact hE.1, fun k hk n1 n2 => by rw [w24.2.1, w19.2.1]; exact hE.2 k (by omega) n1 n2, ?_⟩
          rw [s24.2.1, Vs, Vl, z0, w0, Rat.zero_mul]
          grind
      rintro n125 _ _ _ x125_4 x125_5 κ125 W125 T125_0 T125_1 ⟨hn125, ⟨rfl, rfl, rfl, i125⟩, hE⟩
      obtain ⟨⟨Z2, N2, S2⟩, ⟨lw2, e42⟩, l52, B1, B2⟩ := i125
      have X2 := suX9_f W Ta0 Z2 X0
      have V2 := vsI9_f W Ta0 N0 Z2 hn shR9_l V0
      have kd := cnk l52.1
      have ew2 : zR κ125 soWhole a0 = (zR κ soWhole a0) := (soF_r9 Z2 (by decide)).1
      have es2 : zR κ125 soSum a0 = (zR κ soSum a0) := (soF_r9 Z2 (by decide)).1
      have el2 : zR κ125 soLess a0 = (zR κ soLess a0) := (soF_r9 Z2 (by decide)).1
      have ep2 : zR κ125 soPart a0 = (zR κ soPart a0) := (soF_r9 Z2 (by decide)).1
      have ec2 : zR κ125 soCalc a0 = (zR κ soCalc a0) := (soF_r9 Z2 (by decide)).1
      have xv2 := X2.1.2
      have gM2 := X2.1.1.1
      have b11 : ∀ x, x ≤ (nuN κ125 (zR κ soWhole a0) + 1) * (1 + x125_5.toNatClampNeg * sM9) → x < pB9 4000 := fun x h => sB_9 lw2 (by omega) h
      have hj153 : ∀ (l0 : Nat) (l1 : Int32) (l3 : Nat) (l4 : Int32) (l5 : Int32) (s0 : Int64) (τ : zS), zW C (zn κ) τ → zT τ l0 = 12 → zT τ l3 = 11 → ((a0 = l0 ∧ a1 = l1 ∧ a3 = l3 ∧ (zF (soF ρ shR9 (zR κ soCalc a0)) κ τ ∧ nmI ρ τ ∧ soI ρ τ a0) ∧ (κ125 = τ ∧ x125_5 = l5 ∧ x125_4 = l4) ∧ l5.toInt < l4.toInt ∧ (-2147483648 ≤ s0.toInt ∧ s0.toInt < 2147483648)) ∧ s0.toInt = gv16 (gg16 κ a0) a1 l5.toNatClampNeg ∧ 0 < nuN τ (zR κ soWhole a0) ∧ (∀ k, k < n9 → V9 k ≠ 0 → gv16 (gg16 κ a0) a1 k ≠ 0 → (V9 k).den ∣ nuN τ (zR κ soWhole a0)) ∧ ((nuN τ (zR κ soSum a0) : Nat) : Rat) - ((nuN τ (zR κ soLess a0) : Nat) : Rat) = vs16 V9 (gg16 κ a0) a1 l5.toNatClampNeg * ((nuN τ (zR κ soWhole a0) : Nat) : Rat)) → w_So_showVisits_153 C (zn κ) Q (fun (l0' : Nat) (l1' : Int32) (l3' : Nat) (l4' : Int32) (l5' : Int32) (τ : zS) => ∃ k < n125, (fun (n : Nat) (l0 : Nat) (l1 : Int32) (l3 : Nat) (l4 : Int32) (l5 : Int32) (τ : zS) => n = (l4.toInt - l5.toInt).toNat ∧ ((a0 = l0 ∧ a1 = l1 ∧ a3 = l3 ∧ (zF (soF ρ shR9 (zR κ soCalc a0)) κ τ ∧ nmI ρ τ ∧ soI ρ τ a0) ∧ (nuN τ (zR κ soWhole a0) < pB9 1490 ∧ l4.toInt = (n9 : Int)) ∧ (0 ≤ l5.toInt ∧ l5.toInt ≤ l4.toInt) ∧ nuN τ (zR κ soSum a0) ≤ (nuN τ (zR κ soWhole a0) + 1) * (1 + l5.toNatClampNeg * sM9) ∧ nuN τ (zR κ soLess a0) ≤ (nuN τ (zR κ soWhole a0) + 1) * (1 + l5.toNatClampNeg * sM9)) ∧ 0 < nuN τ (zR κ soWhole a0) ∧ (∀ k, k < n9 → V9 k ≠ 0 → gv16 (gg16 κ a0) a1 k ≠ 0 → (V9 k).den ∣ nuN τ (zR κ soWhole a0)) ∧ ((nuN τ (zR κ soSum a0) : Nat) : Rat) - ((nuN τ (zR κ soLess a0) : Nat) : Rat) = vs16 V9 (gg16 κ a0) a1 l5.toNatClampNeg * ((nuN τ (zR κ soWhole a0) : Nat) : Rat))) k l0' l1' l3' l4' l5' τ) l0 l1 l3 l4 l5 s0 τ := by
        rintro _ _ _ y153_4 y153_5 y153_s0 τ153 W153 T153_0 T153_1 ⟨⟨rfl, rfl, rfl, j153⟩, hE⟩
        unfold w_So_showVisits_153
        obtain ⟨_, ⟨e153, e1535, e1534⟩, lt153, ⟨s01, s02⟩⟩ := j153
        subst e153
        subst e1535
        subst e1534
        obtain ⟨v1, v2, v3⟩ := V2 x125_5.toNatClampNeg (by omega)
        have ix := cn1 (x := x125_5) (by omega) (by omega)
        refine ⟨?_, ?_⟩
        · rw [inb_iff]; omega  -- b11
        refine ex_some ?_ (fun u28 hu28 => ?_)
        · exact ⟨_, v1⟩  -- e12
        refine ⟨fun c29 => ?_, fun c29 => ?_⟩
        · skip
          intro x30 hx30
          refine lp_b5 ?_ (fun d9 => ⟨rfl, ?_⟩)
          · rw [hn125, hx30, ix.2]; omega  -- d13
          · refine and_5 ?_ (fun o9 => ?_)  -- i14
            · exact ⟨rfl, rfl, rfl, ⟨Z2, N2, S2⟩, ⟨lw2, e42⟩, ⟨by rw [hx30, ix.2]; omega, by rw [hx30, ix.2]; omega⟩, by rw [hx30, ix.1]; exact sm_m9 B1, by rw [hx30, ix.1]; exact sm_m9 B2⟩
            · have V125 := vV_f15 W Ta0 N0 Z2 hn shR9_l V0 hV9
              have ev : u28 = vU9 κ125 a0 x125_5.toNatClampNeg := Option.some.inj (hu28.symm.trans v1)
              rw [ev] at c29
              have z : V9 x125_5.toNatClampNeg = 0 := Decidable.byContradiction (fun ne => (rq_015 (V125 _ (show x125_5.toNatClampNeg < n9 by omega)).1).mpr ne c29)
              refine ⟨hE.2.1, hE.2.2.1, ?_⟩
              rw [hx30, ix.1, vs_s16, z, Rat.zero_mul, Rat.add_zero]
              exact hE.2.2.2
        · skip
          refine ⟨fun c31 => ?_, fun c31 => ?_⟩
          · skip
            intro x32 hx32
            refine lp_b5 ?_ (fun d9 => ⟨rfl, ?_⟩)
            · rw [hn125, hx32, ix.2]; omega  -- d15
            · refine and_5 ?_ (fun o9 => ?_)  -- i16
              · exact ⟨rfl, rfl, rfl, ⟨Z2, N2, S2⟩, ⟨lw2, e42⟩, ⟨by rw [hx32, ix.2]; omega, by rw [hx32, ix.2]; omega⟩, by rw [hx32, ix.1]; exact sm_m9 B1, by rw [hx32, ix.1]; exact sm_m9 B2⟩
              · have u0 : gv16 (gg16 κ a0) a1 x125_5.toNatClampNeg = 0 := by rw [← hE.1, (lg_cmp_eq _ _).mp c31]; rfl
                have i0 : ((0 : Int) : Rat) = 0 := rfl
                refine ⟨hE.2.1, hE.2.2.1, ?_⟩
                rw [hx32, ix.1, vs_s16, u0, i0, Rat.mul_zero, Rat.add_zero]
                exact hE.2.2.2
          · skip
            refine ⟨?_, ?_⟩
            · rw [inb_iff]; omega  -- b17
            refine ex_some ?_ (fun u33 hu33 => ?_)
            · exact ⟨_, v1⟩  -- e18
            intro T34
            intro T35
            have eu : u33 = vU9 κ125 a0 x125_5.toNatClampNeg := Option.some.inj (hu33.symm.trans v1)
            subst eu
            have ev : u28 = vU9 κ125 a0 x125_5.toNatClampNeg := Option.some.inj (hu28.symm.trans v1)
            rw [ev] at c29
            obtain ⟨v5, v6, v7⟩ := v3 c29
            have gs := ra_g9 N2 v2 (by omega) (by omega) (by omega)
            have h20' : ρ (zR κ125 soPart a0) = 20 := by rw [ep2]; exact h20
            have gp := ra_t9 N2 h20' (Or.inl rfl)
            have kt := k256 gs.2.2.2.1 v5
            have kb := k256 gs.2.2.2.2.1 v6
            refine Ra_copy_c W153 T34 T35 6500 ?_ (fun κ_36 q37 => ?_)
            · exact ⟨gp.2.1, ⟨nuI_mono (by decide) gs.2.2.2.1, nuI_mono (by decide) gs.2.2.2.2.1, gs.2.2.2.2.2⟩, ⟨ro_n gp.1.1 gs.2.1.1 (by omega), ro_n gp.1.1 gs.2.1.2 (by omega), ro_n gp.1.2 gs.2.1.1 (by omega), ro_n gp.1.2 gs.2.1.2 (by omega)⟩, ⟨by omega, by omega⟩, by decide⟩  -- p19
            obtain ⟨Zc, Jc, Vc⟩ := q37
            have R6 := ra_s9 W125 T125_0 N2 S2 h20' (Or.inl rfl) Zc Jc
            have Z6 := R6.2 (zR κ soCalc a0)
            have T36 : zT κ_36 a0 = 12 := Z6.t T125_0 (by decide)
            have ep6 : zR κ_36 soPart a0 = zR κ125 soPart a0 := (soF_r9 Z6 (by decide)).1
            have ew6 : zR κ_36 soWhole a0 = (zR κ soWhole a0) := (soF_r9 Z6 (by decide)).1.trans ew2
            have es6 : zR κ_36 soSum a0 = (zR κ soSum a0) := (soF_r9 Z6 (by decide)).1.trans es2
            have el6 : zR κ_36 soLess a0 = (zR κ soLess a0) := (soF_r9 Z6 (by decide)).1.trans el2
            have ec6 : zR κ_36 soCalc a0 = (zR κ soCalc a0) := (soF_r9 Z6 (by decide)).1.trans ec2
            have w6 := soF_B (c := 0) (w := (zR κ soWhole a0)) W125 (by rw [← ew2]; exact ty_soWhole W125 T125_0) Z6 (by rw [S0.1.1]; decide)
            have s6 := soF_B (c := 0) (w := (zR κ soSum a0)) W125 (by rw [← es2]; exact ty_soSum W125 T125_0) Z6 (by rw [h7]; decide)
            have l6 := soF_B (c := 0) (w := (zR κ soLess a0)) W125 (by rw [← el2]; exact ty_soLess W125 T125_0) Z6 (by rw [h8]; decide)
            intro W38
            intro M39
            intro T40
            refine So_addTerm_c W38 T40 ρ ?_ (fun κ_41 q42 => ?_)
            · have V125 := vV_f15 W Ta0 N0 Z2 hn shR9_l V0 hV9
              rw [ep6, ew6, es6, el6, w6.2.1, s6.2.1, l6.2.1, Vc.2.1, Vc.2.2]
              exact ⟨R6.1, ⟨by omega, by omega⟩, ⟨Nat.lt_of_lt_of_le lw2 l20, Nat.lt_of_lt_of_le v5 h256, by rw [(V125 _ (show x125_5.toNatClampNeg < n9 by omega)).1.2.2]; exact Nat.pos_of_ne_zero (Rat.den_nz _)⟩, b11 _ B1, b11 _ B2⟩
            intro W43
            intro M44
            intro x45 hx45
            rw [ep6, ew6, es6, el6, ec6, w6.2.1, s6.2.1, l6.2.1, Vc.2.1] at q42
            obtain ⟨Za, Na, A1, A2⟩ := q42
            have Zf : zF (soF ρ shR9 (zR κ soCalc a0)) κ κ_41 := (Z2.tr (soF_m (fun r z => by unfold shR9; omega) Z6)).tr (soF_m (fun r z => by unfold shR9; rcases z with z | z | z | z | z | z <;> omega) Za)
            have w41 := soF_B (c := 0) (w := (zR κ soWhole a0)) W38 (by rw [← ew6]; exact ty_soWhole W38 T36) Za (by rw [S0.1.1]; unfold adR9; decide)
            have tmb : nuN κ125 (zR κ125 raTop (vU9 κ125 a0 x125_5.toNatClampNeg)) * y153_s0.toInt.natAbs * (nuN κ125 (zR κ soWhole a0) + 1) ≤ (nuN κ125 (zR κ soWhole a0) + 1) * sM9 := tm_c9 v5 (by omega)
            refine lp_b5 ?_ (fun d9 => ⟨rfl, ?_⟩)
            · rw [hn125, hx45, ix.2]; omega  -- d21
            · refine and_5 ?_ (fun o9 => ?_)  -- i22
              · refine ⟨rfl, rfl, rfl, ⟨Zf, Na⟩, ⟨by rw [w41.2.1, w6.2.1]; exact lw2, e42⟩, ⟨by rw [hx45, ix.2]; omega, by rw [hx45, ix.2]; omega⟩, ?_, ?_⟩
                · rw [hx45, ix.1, w41.2.1, w6.2.1]
                  by_cases z : 0 < y153_s0.toInt
                  · exact Nat.le_trans (Nat.le_of_eq (A1 z).1) (Nat.le_trans (Nat.add_le_add_left (Nat.mul_le_mul_left _ (Nat.le_succ_of_le (Nat.div_le_self _ _))) _) (sm_s9 B1 tmb))
                  · rw [(A2 z).2]; exact sm_m9 B1
                · rw [hx45, ix.1, w41.2.1, w6.2.1]
                  by_cases z : 0 < y153_s0.toInt
                  · rw [(A1 z).2]; exact sm_m9 B2
                  · exact Nat.le_trans (Nat.le_of_eq (A2 z).1) (Nat.le_trans (Nat.add_le_add_left (Nat.mul_le_mul_left _ (Nat.le_succ_of_le (Nat.div_le_self _ _))) _) (sm_s9 B2 tmb))
              · have V125 := vV_f15 W Ta0 N0 Z2 hn shR9_l V0 hV9
                have H := V125 _ (show x125_5.toNatClampNeg < n9 by omega)
                have vn : V9 x125_5.toNatClampNeg ≠ 0 := (rq_015 H.1).mp c29
                have ne : y153_s0.toInt ≠ 0 := fun e => c31 ((lg_cmp_eq _ _).mpr (Int64.toInt_inj.mp e))
                have dv := hE.2.2.1 x125_5.toNatClampNeg (by omega) vn (by rw [← hE.1]; exact ne)
                have dv' : nuN κ_36 (zR κ_36 raBottom (zR κ125 soPart a0)) ∣ nuN κ125 (zR κ soWhole a0) := by
                  rw [Vc.2.2, H.1.2.2]
                  exact dv
                have T := tn_016 (u := y153_s0.toInt) H.2 H.1.2.1 (Vc.2.2.trans H.1.2.2) dv'
                have y := hE.2.2.2
                refine ⟨by rw [w41.2.1, w6.2.1]; exact hE.2.1, fun k hk n1 n2 => by rw [w41.2.1, w6.2.1]; exact hE.2.2.1 k hk n1 n2, ?_⟩
                rw [hx45, ix.1, vs_s16, w41.2.1, w6.2.1, Rat.add_mul, ← hE.1]
                by_cases z : 0 < y153_s0.toInt
                · obtain ⟨C1, C2⟩ := A1 z
                  rw [C1, C2, Rat.natCast_add, T.1 z]
                  grind
                · obtain ⟨C1, C2⟩ := A2 z
                  rw [C1, C2, Rat.natCast_add, T.2 z]
                  grind
      refine ⟨fun c46 => ?_, fun c46 => ?_⟩
      · skip
        intro T47
        intro T48
        refine So_settle_q6 W125 T47 T48 ρ 1 ?_ (fun κ_49 q50 => ?_)
        · rw [ew2, es2, el2]
          exact ⟨⟨N2, S2⟩, ⟨S0.1.1, Or.inl rfl⟩, Nat.lt_of_lt_of_le lw2 (pB9_l (by decide)), b11 _ B1, b11 _ B2⟩
        obtain ⟨q50, z9⟩ := q50
        have zs := z9
        rw [ew2, es2, el2, ec2] at q50
        obtain ⟨Zt, ⟨Nt, St⟩, O⟩ := q50
        have T49 : zT κ_49 a0 = 12 := Zt.t T125_0 (by decide)
        have ep49 : zR κ_49 soPart a0 = zR κ125 soPart a0 := (soF_r9 Zt (by decide)).1
        have h20' : ρ (zR κ_49 soPart a0) = 20 := by rw [ep49, ep2]; exact h20
        have gp := ra_t9 Nt h20' (Or.inl rfl)
        have go := ra_t9 Nt r30 (Or.inr rfl)
        have et49 : zR κ_49 raTop (zR κ_49 soPart a0) = zR κ125 raTop (zR κ125 soPart a0) := by rw [ep49, (soF_r9 Zt (f := raTop) (by decide)).1]
        have eb49 : zR κ_49 raBottom (zR κ_49 soPart a0) = zR κ125 raBottom (zR κ125 soPart a0) := by rw [ep49, (soF_r9 Zt (f := raBottom) (by decide)).1]
        have lt4 : nuN κ_49 (zR κ_49 raTop (zR κ_49 soPart a0)) < pB9 4000 ∧ nuN κ_49 (zR κ_49 raBottom (zR κ_49 soPart a0)) < pB9 4000 := by
          rw [et49, eb49]
          have p4 : 1 < pB9 4000 := Nat.lt_of_lt_of_le (show 1 < pB9 1 by unfold pB9; decide) (pB9_l (by decide))
          rcases O with ⟨_, _, o1', o2'⟩ | ⟨_, _, o1', o2'⟩
          · rw [o1', o2']
            exact ⟨pB9_p, p4⟩
          · rw [o1', o2']
            refine ⟨Nat.lt_of_le_of_lt (Nat.div_le_self _ _) ?_, Nat.lt_of_le_of_lt (Nat.div_le_self _ _) (Nat.lt_of_lt_of_le lw2 (pB9_l (by decide)))⟩
            have q1 := b11 _ B1
            have q2 := b11 _ B2
            generalize pB9 4000 = B at *
            omega
        have kt := nuK_lt gp.2.2.1 lt4.1
        have kb := nuK_lt gp.2.2.2.1 lt4.2
        intro W51
        intro M52
        intro T53
        intro T54
        refine Ra_copy_c W51 T53 T54 6500 ?_ (fun κ_55 q56 => ?_)
        · exact ⟨go.2.1, ⟨nuI_mono (by decide) gp.2.2.1, nuI_mono (by decide) gp.2.2.2.1, gp.2.2.2.2⟩, ⟨ro_n go.1.1 gp.1.1 (by decide), ro_n go.1.1 gp.1.2 (by decide), ro_n go.1.2 gp.1.1 (by decide), ro_n go.1.2 gp.1.2 (by decide)⟩, ⟨by omega, by omega⟩, by decide⟩  -- p24
        intro W57
        intro M58
        refine h _ ?_
        · refine and_5 ?_ (fun o9 => ?_)  -- q25
          · obtain ⟨Zc, Jc, Vc⟩ := q56
            have R5 := ra_s9 W51 T49 Nt St r30 (Or.inr rfl) Zc Jc
            have Z5 := R5.2 (zR κ soCalc a0)
            have l49 := soF_B (c := 0) (w := (zR κ soLess a0)) W125 (by rw [← el2]; exact ty_soLess W125 T125_0) Zt (by rw [h8]; unfold stR9; decide)
            have l55 := soF_B (c := 0) (w := (zR κ soLess a0)) W51 (Zt.t (by rw [← el2]; exact ty_soLess W125 T125_0) (by decide)) Z5 (by rw [h8]; decide)
            refine ⟨⟨(Z2.tr (soF_m (fun r z => by unfold shR9; rcases z with z | z | z | z <;> omega) Zt)).tr (soF_m (fun r z => by unfold shR9; omega) Z5), R5.1⟩, Or.inl ?_⟩
            rw [l55.2.1, l49.2.1]
            exact b11 _ B2
          · obtain ⟨Zc, Jc, Vc⟩ := q56
            rw [es2, el2] at zs
            rw [ep49] at Vc
            have e : x125_5.toNatClampNeg = n9 := by
              have y := c46
              rw [lei] at y
              omega
            have O' : stO κ125 κ_49 (zR κ125 soPart a0) (zR κ_49 raTop (zR κ125 soPart a0)) (zR κ_49 raBottom (zR κ125 soPart a0)) (nuN κ125 (zR κ soSum a0)) (nuN κ125 (zR κ soLess a0)) (nuN κ125 (zR κ soWhole a0)) := by
              rw [(soF_r9 Zt (f := raTop) (by decide)).1, (soF_r9 Zt (f := raBottom) (by decide)).1]
              exact O
            have R := st_q8 hE.1 O' zs
            have i1 := iv_116
            rw [fr_16 (D := 1) (nq0 hE.1) hE.2.2 (by rw [Rat.one_mul]), i1, Rat.mul_one, e] at R
            rw [if_neg c1]
            exact ⟨Vc.1.trans R.1, Vc.2.1.trans R.2.1, Vc.2.2.trans R.2.2⟩
      · skip
        refine ⟨fun c59 => ?_, fun c59 => ?_⟩
        · skip
          refine ⟨?_, ?_⟩
          · rw [lei] at c46
            rw [inb_iff, gM2.2.2.1]; omega
          refine hj153 _ _ _ _ _ _ _ W125 ?_ ?_ ?_
          · assumption  -- t27
          · assumption  -- t28
          · refine and_5 ?_ (fun o9 => ?_)  -- k29
            · rw [lei] at c46
              have e := Int32.toInt_toInt64 (zA κ125 (zR κ125 atGains (zR κ125 soAtlas a0)) x125_5.toNatClampNeg)
              have e1 := ilo (zA κ125 (zR κ125 atGains (zR κ125 soAtlas a0)) x125_5.toNatClampNeg)
              have e2 := ihi (zA κ125 (zR κ125 atGains (zR κ125 soAtlas a0)) x125_5.toNatClampNeg)
              exact ⟨rfl, rfl, rfl, ⟨Z2, N2, S2⟩, ⟨rfl, rfl, rfl⟩, by omega, by omega, by omega⟩
            · refine ⟨?_, hE⟩
              have eg := gg_f16 W Ta0 Z2
              unfold gv16
              rw [if_neg c59, Int32.toInt_toInt64, ← eg]
        · skip
          refine hj153 _ _ _ _ _ _ _ W125 ?_ ?_ ?_
          · assumption  -- t30
          · assumption  -- t31
          · refine and_5 ?_ (fun o9 => ?_)  -- k32
            · rw [lei] at c46
              exact ⟨rfl, rfl, rfl, ⟨Z2, N2, S2⟩, ⟨rfl, rfl, rfl⟩, by omega, by decide⟩
            · refine ⟨?_, hE⟩
              unfold gv16
              rw [if_pos c59]
              rfl
    · skip
      rw [lei] at c17
      obtain ⟨v1, v2, v3⟩ := V1 x40_5.toNatClampNeg (by omega)
      have ix := cn1 (x := x40_5) (by omega) (by omega)
      refine ⟨?_, ?_⟩
      · rw [inb_iff]; omega  -- b33
      refine ex_some ?_ (fun u60 hu60 => ?_)
      · exact ⟨_, v1⟩  -- e34
      have eu : u60 = vU9 κ40 a0 x40_5.toNatClampNeg := Option.some.inj (hu60.symm.trans v1)
      subst eu
      refine ⟨fun c61 => ?_, fun c61 => ?_⟩
      · skip
        intro x62 hx62
        refine lp_b5 ?_ (fun d9 => ⟨rfl, ?_⟩)
        · rw [hn40, hx62, ix.2]; omega  -- d35
        · refine and_5 ?_ (fun o9 => ?_)  -- i36
          · exact ⟨rfl, rfl, rfl, ⟨Z1, N1, S1⟩, D1, e4, ⟨by rw [hx62, ix.2]; omega, by rw [hx62, ix.2]; omega⟩⟩
          · have V40 := vV_f15 W Ta0 N0 Z1 hn shR9_l V0 hV9
            have z : V9 x40_5.toNatClampNeg = 0 := Decidable.byContradiction (fun ne => (rq_015 (V40 _ (show x40_5.toNatClampNeg < n9 by omega)).1).mpr ne c61)
            refine ⟨hE.1, fun k hk n1 n2 => ?_⟩
            rw [hx62, ix.1] at hk
            by_cases e : k = x40_5.toNatClampNeg
            · rw [e] at n1; exact absurd z n1
            · exact hE.2 k (by omega) n1 n2
      · skip
        refine ⟨fun c63 => ?_, fun c63 => ?_⟩
        · skip
          refine hj79 _ _ _ _ _ _ W40 ?_ ?_ ?_
          · assumption  -- t37
          · assumption  -- t38
          · refine and_5 ?_ (fun o9 => hE)  -- k39
            exact ⟨rfl, rfl, rfl, ⟨Z1, N1, S1⟩, ⟨rfl, rfl, rfl⟩, by omega, c61⟩
        · skip
          refine ⟨?_, ?_⟩
          · rw [inb_iff, gM1.2.2.1]; omega  -- b40
          refine ⟨fun c64 => ?_, fun c64 => ?_⟩
          · skip
            intro x65 hx65
            refine lp_b5 ?_ (fun d9 => ⟨rfl, ?_⟩)
            · rw [hn40, hx65, ix.2]; omega  -- d41
            · refine and_5 ?_ (fun o9 => ?_)  -- i42
              · exact ⟨rfl, rfl, rfl, ⟨Z1, N1, S1⟩, D1, e4, ⟨by rw [hx65, ix.2]; omega, by rw [hx65, ix.2]; omega⟩⟩
              · have eg := gg_f16 W Ta0 Z1
                refine ⟨hE.1, fun k hk n1 n2 => ?_⟩
                rw [hx65, ix.1] at hk
                by_cases e : k = x40_5.toNatClampNeg
                · rw [e] at n2
                  unfold gv16 at n2
                  rw [if_neg c63, ← eg] at n2
                  exact absurd (by rw [show gg16 κ40 a0 x40_5.toNatClampNeg = 0 from c64]; rfl) n2
                · exact hE.2 k (by omega) n1 n2
          · skip
            refine hj79 _ _ _ _ _ _ W40 ?_ ?_ ?_
            · assumption  -- t43
            · assumption  -- t44
            · refine and_5 ?_ (fun o9 => hE)  -- k45
              exact ⟨rfl, rfl, rfl, ⟨Z1, N1, S1⟩, ⟨rfl, rfl, rfl⟩, by omega, c61⟩
  · skip
    refine ⟨?_, ?_⟩
    · have q := p8 c1
      rw [inb_iff]; omega
    refine ex_some ?_ (fun u66 hu66 => ?_)
    · have q := p8 c1
      have k := cnk q.1
      exact ⟨_, (V0 a2.toNatClampNeg (by omega)).1⟩
    intro T67
    intro T68
    have q := p8 c1
    have k := cnk q.1
    obtain ⟨v1, v2, v3⟩ := V0 a2.toNatClampNeg (by omega)
    have eu : u66 = vU9 κ a0 a2.toNatClampNeg := Option.some.inj (hu66.symm.trans v1)
    subst eu
    have gs := ra_g9 N0 v2 (by omega) (by omega) (by omega)
    have go := ra_t9 N0 r30 (Or.inr rfl)
    have kt := nuK_c9 gs.2.2.2.1
    have kb := nuK_c9 gs.2.2.2.2.1
    refine Ra_copy_c W T67 T68 6500 ?_ (fun κ_69 q70 => ?_)
    · exact ⟨go.2.1, ⟨nuI_mono (by decide) gs.2.2.2.1, nuI_mono (by decide) gs.2.2.2.2.1, gs.2.2.2.2.2⟩, ⟨ro_n go.1.1 gs.2.1.1 (by omega), ro_n go.1.1 gs.2.1.2 (by omega), ro_n go.1.2 gs.2.1.1 (by omega), ro_n go.1.2 gs.2.1.2 (by omega)⟩, ⟨by omega, by omega⟩, by decide⟩  -- p48
    intro W71
    intro M72
    refine h _ ?_
    · refine and_5 ?_ (fun o9 => ?_)  -- q49
      · obtain ⟨Zc, Jc, Vc⟩ := q70
        have R5 := ra_s9 W Ta0 N0 S0 r30 (Or.inr rfl) Zc Jc
        have Z5 := R5.2 (zR κ soCalc a0)
        have l5 := soF_B (c := 0) W (ty_soLess W Ta0) Z5 (by rw [h8]; decide)
        exact ⟨⟨soF_m (fun r z => by unfold shR9; omega) Z5, R5.1⟩, Or.inr l5.2.1⟩
      · obtain ⟨Zc, Jc, Vc⟩ := q70
        have H := (hV9 a2.toNatClampNeg (by omega)).1
        rw [if_pos c1]
        exact ⟨Vc.1.trans H.1, Vc.2.1.trans H.2.1, Vc.2.2.trans H.2.2⟩

end
