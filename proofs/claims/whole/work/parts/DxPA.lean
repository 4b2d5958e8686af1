section
set_option maxHeartbeats 1600000
/-! both machines: a number set -/
theorem a55f_6 {m : Nat} {a1 : Int32} {e : E5} (hl : e.2.2 707 = 16) (hf : ¬ e.1 713 = 0) : f5_Ma_act_55 (m + 1) a1 1 0 e = f5_Ma_act_92 a1 e := by
  have hl : e.2.2 maWorked = 16 := hl
  have hf : ¬ e.1 maFailure = 0 := hf
  rw [f5_Ma_act_55, if_neg (show ¬ (1 : Int32) ≤ 0 by decide), hl, if_neg (show ¬ Int32.ofNat 16 ≤ 0 by decide), if_neg hf]
section
variable {T : T5} {X : X5} {Bk N nv na f s w d : Nat} {Z : Int32} {e e' e'' : E5} {σ σ' σ'' : rS}
theorem ac2_6 {j x pc p1 p' a' : Nat} {e2 : E5} {σ2 : rS} (H : TR5 T X Bk N Z) (hE : T.2.1 (N - 1) = 142) (F : FN6 T Bk N nv na f s e σ) (M : MB6 nv w s d e σ) (d0 : 0 < d) (hw : (w : Int) = nv + (e.1 511).toInt) (hj : j < s) (at1 : e.2.1 701 (w + 9 * (d - 1)) = Int32.ofNat j) (at2 : σ.2.2.1 59 (d - 1) = Int32.ofNat j) (h711 : e.1 711 = 0) (hst : e.2.2 705 = 256) (hwk : e.2.2 707 = 16) (hsx : sx5 σ = X)
    (h32 : σ.2.2.1 32 j = Int32.ofNat (Bk + x)) (h3 : e.2.1 506 (11 * j + 3) = Int32.ofNat pc) (hk : σ.2.2.1 30 j = 1 ∨ σ.2.2.1 30 j = 2) (h0 : e.2.1 506 (11 * j) = 0) (h4 : e.2.1 506 (11 * j + 4) = 1) (am : f5_Ma_aim (Int32.ofNat j) (ab6 (Int32.ofNat pc) e) = .inl (e2, ())) (fp : g5_findPlace (Int32.ofNat j) (ar6b σ) = σ2) (A : AM6 nv w d p1 (ab6 (Int32.ofNat pc) e) e2 (ar6b σ) σ2) (hx : xe6 T Bk nv na e (σ.2.2.1 39) p1 x p' a') (aN : a' < N) : ∃ e' σ' r, f5_Ma_act e = .inl (e', ()) ∧ g5_act σ = (σ', r) ∧ FM6 e e' σ σ' ∧ e'.1 715 = -1 ∧ AE6 nv w s e' σ' r := by
  have MT0 : MT6 nv w s d e σ := ⟨M, j, hj, at1, at2⟩
  have hh := H.1
  have s150 := F.1.2.2.2.1.2
  have xa := hx.2.2
  have cj : (Int32.ofNat j).toNatClampNeg = j := cl_5 (by omega)
  obtain ⟨A1, A2, A3⟩ := A
  have F1 : FM6 e (ab6 (Int32.ofNat pc) e) σ (ar6b σ) := FM_b6 F.2.1.1
  have ME1 : ME6 e (ab6 (Int32.ofNat pc) e) σ (ar6b σ) := ME_b6
  have F2 : FM6 e e2 σ σ2 := FM_t6 F1 (FM_a6 A1 A2)
  have ME2 : ME6 e e2 σ σ2 := ME_t6 ME1 (ME_a6 A1 A2)
  have M2 : MB6 nv w s d e2 σ2 := MB_a6 (MB_b6 M) A1 A2
  have FN2 := FN_m6 F F2
  have est2 : e2.1 coStatements = Int32.ofNat s := FN2.1.2.2.2.1.1
  have r506 : e2.2.1 506 = e.2.1 506 := A1.2.1 506 (by decide) (by decide)
  have rl : e2.2.2 = e.2.2 := A1.2.2
  have f714 : e2.1 714 = 0 := A1.1 714 (by decide) (by decide) (by decide)
  have f715 : e2.1 715 = -1 := A1.1 715 (by decide) (by decide) (by decide)
  have f711 : e2.1 711 = 0 := (A1.1 711 (by decide) (by decide) (by decide)).trans h711
  have c4 : cl5 (Int32.ofNat j) 4 e2 = 1 := (cl_55 (s := j) (c := 4) est2 (by omega) (by omega) (by decide)).trans (by rw [r506]; exact h4)
  have eC : f5_Ma_act e = f5_Ma_act_55 fu5 (Int32.ofNat j) 1 0 e2 := by
    rw [acC_6 F M hj at1 h3, am, rdl_5, pb_e5, c4]
  have n5 : ¬ σ.2.2.1 30 j = 5 := by rcases hk with q | q <;> rw [q] <;> decide
  have n4 : ¬ 4 < σ.2.2.1 30 j := by rcases hk with q | q <;> rw [q] <;> decide
  have m3 : ¬ σ.2.2.1 30 j = 3 := by rcases hk with q | q <;> rw [q] <;> decide
  have m4 : ¬ σ.2.2.1 30 j = 4 := by rcases hk with q | q <;> rw [q] <;> decide
  have eR := acR_6 M d0 (by omega) at2
  rw [if_neg n5, if_neg n4, pb_e5, fp] at eR
  have s62 : σ2.1 62 = 0 := A2.1 62 (by decide) (by decide) (by decide) (by decide) (by decide) (by decide)
  have s46 : σ2.1 46 = 1 := A2.1 46 (by decide) (by decide) (by decide) (by decide) (by decide) (by decide)
  have w32 : σ2.2.2.1 32 (Int32.ofNat j).toNatClampNeg = Int32.ofNat (Bk + x) := by rw [cj, A2.2.2.1 32 (by decide) (by decide) (by decide)]; exact h32
  have hsx2 : sx5 σ2 = X := sx_a6 A2 hsx
  -- a failure y: both fail
  have bad : ∀ (e4 : E5) (σ3 : rS) (y : Int32), (y = 1 ∨ y = 2) → FM6 e e4 σ σ3 → ME6 e e4 σ σ3 → e4.1 713 = y → e4.1 714 = 0 → e4.1 715 = -1 → σ3.1 47 = y → f5_Ma_act e = f5_Ma_act_92 (Int32.ofNat j) e4 → g5_act σ = pm5 (g5_fail (σ3.1 47) σ3) (fun a b => (a, b)) → ∃ e' σ' r, f5_Ma_act e = .inl (e', ()) ∧ g5_act σ = (σ', r) ∧ FM6 e e' σ σ' ∧ e'.1 715 = -1 ∧ AE6 nv w s e' σ' r := fun e4 σ3 y hy FM4 ME4 g713 g714 g715 w5 eC eR => by
    have nf : ¬ e4.1 maFailure = 0 := fun q => by
      have q : e4.1 713 = 0 := q
      rw [g713] at q
      rcases hy with t | t <;> rw [t] at q <;> exact absurd q (by decide)
    unfold f5_Ma_act_92 at eC
    rw [if_neg nf, st_f6, rdl_5] at eC
    unfold g5_fail at eR
    rw [pb_e5, pm_e5] at eR
    refine ⟨_, _, _, eC, eR, FM_t6 FM4 ⟨⟨fun g q => fl_o6 (show g ≠ 711 by omega), fun _ _ => rfl, rfl⟩, fun g q => by rw [si1, if_neg (by omega)], fun _ _ => rfl, rfl⟩, ?_, Or.inr (Or.inr (Or.inl ⟨rfl, fl_s6, ?_, ?_, ?_, d, MT_e6 MT0 (ME_t6 ME4 (ME_t6 (ME_k6 (by decide)) (ME_s6 (by decide))))⟩))⟩
    · exact (fl_o6 (show (715 : Nat) ≠ 711 by decide)).trans g715
    · exact ((fl_o6 (show (713 : Nat) ≠ 711 by decide)).trans g713).trans (w5.symm.trans rfl)
    · exact (fl_o6 (show (714 : Nat) ≠ 711 by decide)).trans g714
    · rw [fl_o6 (show (713 : Nat) ≠ 711 by decide), g713]
      exact n1_6 hy
  rcases A3 with ⟨i, i1, i2, i3, i4, i5, i6⟩ | ⟨y, y1, y2, y3⟩
  · rw [if_pos (show σ2.1 47 ≤ 0 by rw [i5]; decide)] at eR
    unfold g5_act_81 at eR
    rw [if_neg m3, if_neg m4, w32] at eR
    have a55 : f5_Ma_act_55 fu5 (Int32.ofNat j) 1 0 e2 = rdB5 (f5_Ma_work e2) (fun e1 v => f5_Ma_act_92 (Int32.ofNat j) (wo6 v e1)) := a55_6 (m := fu5 - 2) (by rw [rl]; exact hwk) i4
    rw [a55] at eC
    have hw2 : (w : Int) = nv + (e2.1 511).toInt := by rw [F2.1.1 511 (by decide)]; exact hw
    have xw := xw_6 H hE FN2 M2 d0 hw2 (xe_n6 hx F2) aN i3 (by rw [rl]; exact hst) ⟨FN2.2.1.1, s46, i5⟩ i6 hsx2
    rcases xw with ⟨e3, σ3, v, w1, w2, w3, w4, w5, w6, w7, w8, w9⟩ | ⟨e3, σ3, v, y, w1, w2, w3, w4, w5, w6, w7⟩
    · have l0 : σ3.1 47 ≤ 0 := by rw [w7]; decide
      rw [w1, rdl_5] at eC
      rw [w2, pm_e5] at eR
      dsimp only at eR
      have k1 : (σ.2.2.1 30 j).toInt = 1 ∨ (σ.2.2.1 30 j).toInt = 2 := by rcases hk with q | q <;> rw [q] <;> decide
      rw [if_pos l0, cj, if_neg (by omega), if_neg (by omega), if_neg (by omega), if_neg (by omega), if_neg (by omega), pb_e5] at eR
      have WA4 : WA6 e2 (wo6 v e3) := WA_t6 (WA_w6 w5) WA_o6
      have FM4 : FM6 e2 (wo6 v e3) σ2 σ3 := FM_a6 WA4 (FA_f6 w9)
      have ME4 : ME6 e2 (wo6 v e3) σ2 σ3 := ME_a6 WA4 (FA_f6 w9)
      have FN4 := FN_m6 FN2 FM4
      have M4 := MB_a6 M2 WA4 (FA_f6 w9)
      have v707 : (wo6 v e3).2.1 707 0 = v := by
        show (if 707 = 707 ∧ 0 = 0 then v else e3.2.1 707 0) = v
        rw [if_pos ⟨rfl, rfl⟩]
      have g708 : (wo6 v e3).1 708 = Int32.ofNat i := (w5.1 708 (by decide) (by decide)).trans i1
      have g713 : (wo6 v e3).1 713 = 0 := w4.trans i4
      have g714 : (wo6 v e3).1 714 = 0 := (WA4.1 714 (by decide) (by decide) (by decide)).trans f714
      have g715 : (wo6 v e3).1 715 = -1 := (WA4.1 715 (by decide) (by decide) (by decide)).trans f715
      have g711 : (wo6 v e3).1 711 = 0 := (WA4.1 711 (by decide) (by decide) (by decide)).trans f711
      have k30 : (wo6 v e3).2.1 506 (11 * j) = 0 := by rw [WA4.2.1 506 (by decide) (by decide), r506]; exact h0
      have t62 : σ3.1 62 = 0 := (w9.1 62 (by decide) (by decide) (by decide) (by decide) (by decide)).trans s62
      have t67 : σ3.1 67 = σ2.1 67 := w9.1 67 (by decide) (by decide) (by decide) (by decide) (by decide)
      generalize wo6 v e3 = e4 at eC WA4 FM4 ME4 FN4 M4 v707 g708 g713 g714 g715 g711 k30
      rw [a92_6 FN4 hj g713, k30] at eC
      obtain ⟨e5, he5⟩ : ∃ e5, e5 = fl6 710 0 (fl6 709 (σ3.2.2.1 37 j) e4) := ⟨_, rfl⟩
      have FM5 : FM6 e4 e5 σ3 σ3 := by rw [he5]; exact FM_t6 (FM_k6 (by decide)) (FM_k6 (by decide))
      have ME5 : ME6 e4 e5 σ3 σ3 := by rw [he5]; exact ME_t6 (ME_k6 (by decide)) (ME_k6 (by decide))
      have FN5 := FN_m6 FN4 FM5
      have M5 : MB6 nv w s d e5 σ3 := by rw [he5]; exact MB_k6 (by decide) (MB_k6 (by decide) M4)
      have b708 : e5.1 maTarget = Int32.ofNat i := by rw [he5]; exact g708
      have b709 : e5.1 709 = σ3.2.2.1 37 j := by rw [he5]; rfl
      have b710 : e5.1 710 = 0 := by rw [he5]; rfl
      have b711 : e5.1 711 = 0 := by rw [he5]; exact g711
      have b714 : e5.1 714 = 0 := by rw [he5]; exact g714
      have b715 : e5.1 715 = -1 := by rw [he5]; exact g715
      have bv : e5.2.1 maWorked (0 : Int32).toNatClampNeg = v := by rw [he5]; exact v707
      rw [← he5] at eC
      clear he5
      obtain ⟨q1, q2, q3, _, q5, q6, _⟩ := tst_6 (x := v) M5 d0 (show tg6 nv w d i (σ3.1 67) by rw [t67]; exact i2)
      have ob : f5_Ma_obey (Int32.ofNat j) 0 e5 = .inl (me6 i v e5, ()) := by
        unfold f5_Ma_obey
        rw [pb_e5, bv, if_pos (show (0 : Int32).toInt = 0 from rfl), b708, pu_6 M5.2.1.2.2.2.2 q1, rdl_5]
        rfl
      rw [ob, rdl_5] at eC
      generalize g5_store (σ3.1 67) v σ3 = σ4 at eR q2 q3 q5 q6
      have q37 : σ4.2.2.1 37 j = σ3.2.2.1 37 j := by rw [q6 37 (by decide) (by decide)]
      rw [q37] at eR
      obtain ⟨e', σ', r, u1, u2, u3⟩ := tal_6 (by omega) (by omega) (FN_m6 FN5 q3) q2 d0 (show (me6 i v e5).1 709 = σ3.2.2.1 37 j from b709) b710 b715 b711 (FN5.2.2.2.1 j hj).2.2.1.2
      obtain ⟨y1, y2⟩ := AE_x6 u3 b711 (show (me6 i v e5).1 714 = σ4.1 62 by rw [q5, t62]; exact b714)
      exact ⟨e', σ', r, eC.trans u1, eR.trans u2, FM_t6 (FM_t6 (FM_t6 F2 FM4) FM5) (FM_t6 q3 u3.1), y2.trans b715, y1⟩
    · have nl : ¬ σ3.1 47 ≤ 0 := by
        rw [w5]
        rcases w3 with q | q <;> rw [q] <;> decide
      rw [w1, rdl_5] at eC
      rw [w2, pm_e5] at eR
      dsimp only at eR
      rw [if_neg nl] at eR
      have WA4 : WA6 e2 (wo6 0 e3) := WA_t6 (WA_w6 w6) WA_o6
      exact bad _ σ3 y w3 (FM_t6 F2 (FM_a6 WA4 (FA_f6 w7))) (ME_t6 ME2 (ME_a6 WA4 (FA_f6 w7))) w4 ((WA4.1 714 (by decide) (by decide) (by decide)).trans f714) ((WA4.1 715 (by decide) (by decide) (by decide)).trans f715) w5 eC eR
  · have nl : ¬ σ2.1 47 ≤ 0 := by
      rw [y3]
      rcases y1 with q | q <;> rw [q] <;> decide
    rw [if_neg nl] at eR
    have a55 : f5_Ma_act_55 fu5 (Int32.ofNat j) 1 0 e2 = f5_Ma_act_92 (Int32.ofNat j) e2 := a55f_6 (m := fu5 - 1) (by rw [rl]; exact hwk) (by rw [y2]; rcases y1 with q | q <;> rw [q] <;> decide)
    exact bad e2 σ2 y y1 F2 ME2 y2 f714 f715 y3 (eC.trans a55) eR
end

end
section
set_option maxHeartbeats 1600000
/-! both machines: the ways of a choice -/
def WY6 (n : Nat) (e : E5) (σ : rS) : Prop := ∀ i, i < n → e.2.1 718 i = σ.2.2.1 64 i ∧ e.2.1 719 i = σ.2.2.1 65 i
def WW6 (e e' : E5) : Prop := (∀ g, g < 715 → e'.1 g = e.1 g) ∧ (∀ g, g ≠ 718 → g ≠ 719 → e'.2.1 g = e.2.1 g) ∧ e'.2.2 = e.2.2
def FW6 (σ σ' : rS) : Prop := (∀ g, g ≠ 63 → g ≠ 66 → σ'.1 g = σ.1 g) ∧ σ'.2.1 = σ.2.1 ∧ (∀ g, g ≠ 64 → g ≠ 65 → σ'.2.2.1 g = σ.2.2.1 g) ∧ σ'.2.2.2 = σ.2.2.2
theorem WW_r6 {e : E5} : WW6 e e := ⟨fun _ _ => rfl, fun _ _ _ => rfl, rfl⟩
theorem FW_r6 {σ : rS} : FW6 σ σ := ⟨fun _ _ _ => rfl, rfl, fun _ _ _ => rfl, rfl⟩
theorem WW_t6 {a b c : E5} (h : WW6 a b) (k : WW6 b c) : WW6 a c := ⟨fun g x => (k.1 g x).trans (h.1 g x), fun g x y => (k.2.1 g x y).trans (h.2.1 g x y), k.2.2.trans h.2.2⟩
theorem FW_t6 {a b c : rS} (h : FW6 a b) (k : FW6 b c) : FW6 a c := ⟨fun g x y => (k.1 g x y).trans (h.1 g x y), k.2.1.trans h.2.1, fun g x y => (k.2.2.1 g x y).trans (h.2.2.1 g x y), k.2.2.2.trans h.2.2.2⟩
/-- a way told on both sides -/
def wa6 (n : Nat) (x y : Int32) (e : E5) : E5 := (e.1, fun g j => if g = 719 ∧ j = n then y else if g = 718 ∧ j = n then x else e.2.1 g j, e.2.2)
theorem WW_a6 {n : Nat} {x y : Int32} {e : E5} : WW6 e (wa6 n x y e) := ⟨fun _ _ => rfl, fun g q1 q2 => by
  funext j
  show (if g = 719 ∧ j = n then y else if g = 718 ∧ j = n then x else e.2.1 g j) = _
  rw [if_neg (fun z => q2 z.1), if_neg (fun z => q1 z.1)], rfl⟩
theorem out_6 {n : Nat} {x y : Int32} {e : E5} {σ : rS} (h63 : σ.1 63 = Int32.ofNat n) (hn : n ≤ 1000) (W : WY6 n e σ) : WY6 (n + 1) (wa6 n x y e) (g5_outcome x y σ) ∧ (g5_outcome x y σ).1 63 = Int32.ofNat (n + 1) ∧ FW6 σ (g5_outcome x y σ) ∧ (g5_outcome x y σ).1 66 = σ.1 66 := by
  have cn : (σ.1 63).toNatClampNeg = n := cln_6 h63 (by omega)
  have eo : g5_outcome x y σ = siU (riU (riU σ 64 (σ.1 63).toNatClampNeg x) 65 (σ.1 63).toNatClampNeg y) 63 (σ.1 63 + 1) := rfl
  rw [eo, cn]
  have o64 : ∀ i, (siU (riU (riU σ 64 n x) 65 n y) 63 (σ.1 63 + 1)).2.2.1 64 i = if i = n then x else σ.2.2.1 64 i := fun i => by
    show (riU (riU σ 64 n x) 65 n y).2.2.1 64 i = _
    rw [ri_o6 (by decide), ri_s6]
  have o65 : ∀ i, (siU (riU (riU σ 64 n x) 65 n y) 63 (σ.1 63 + 1)).2.2.1 65 i = if i = n then y else σ.2.2.1 65 i := fun i => by
    show (riU (riU σ 64 n x) 65 n y).2.2.1 65 i = _
    rw [ri_s6, ri_o6 (by decide)]
  refine ⟨fun i hi => ?_, ?_, ⟨fun g q _ => ?_, rfl, fun g q1 q2 => ?_, rfl⟩, ?_⟩
  · rw [o64, o65]
    show (if 718 = 719 ∧ i = n then y else if 718 = 718 ∧ i = n then x else e.2.1 718 i) = _ ∧ (if 719 = 719 ∧ i = n then y else if 719 = 718 ∧ i = n then x else e.2.1 719 i) = _
    by_cases q : i = n
    · refine ⟨?_, ?_⟩
      · rw [if_neg (show ¬ (718 = 719 ∧ i = n) from fun z => absurd z.1 (by decide)), if_pos (show 718 = 718 ∧ i = n from ⟨rfl, q⟩), if_pos q]
      · rw [if_pos (show 719 = 719 ∧ i = n from ⟨rfl, q⟩), if_pos q]
    · have w := W i (by omega)
      refine ⟨?_, ?_⟩
      · rw [if_neg (show ¬ (718 = 719 ∧ i = n) from fun z => q z.2), if_neg (show ¬ (718 = 718 ∧ i = n) from fun z => q z.2), if_neg q]; exact w.1
      · rw [if_neg (show ¬ (719 = 719 ∧ i = n) from fun z => q z.2), if_neg (show ¬ (719 = 718 ∧ i = n) from fun z => q z.2), if_neg q]; exact w.2
  · rw [si1, if_pos rfl, h63, on_15 (by omega)]
  · rw [si1, if_neg q]
    rfl
  · show (riU (riU σ 64 n x) 65 n y).2.2.1 g = _
    rw [ri_o6 q2, ri_o6 q1]
  · rw [si1, if_neg (by decide)]
    rfl
/-- a choice's ways -/
theorem of_6 {k : Nat} (hk : k ≤ 64) : ∀ (m mr n : Nat) (e : E5) (σ : rS), n ≤ k → k - n < m → k - n < mr → WY6 n e σ → σ.1 63 = Int32.ofNat n → ∃ e' σ', f5_Ma_offer_29 m (Int32.ofNat k) (Int32.ofNat n) e = .inl (e', ()) ∧ g5_choose_58 mr (Int32.ofNat k) (Int32.ofNat n) σ = (σ', 5) ∧ WW6 e e' ∧ FW6 σ σ' ∧ e'.1 715 = 4 ∧ (∀ g, g ≠ 715 → e'.1 g = e.1 g) ∧ σ'.1 63 = Int32.ofNat k ∧ σ'.1 66 = 0 ∧ WY6 k e' σ'
  | 0, _, _, _, _, _, h, _, _, _ => by omega
  | m + 1, 0, _, _, _, _, _, h, _, _ => by omega
  | m + 1, mr + 1, n, e, σ, hn, hm, hmr, W, h63 => by
    have lk := ofn_i (n := k) (by omega)
    have ln := ofn_i (n := n) (by omega)
    rw [f5_Ma_offer_29, g5_choose_58]
    by_cases c : k = n
    · have q : Int32.ofNat k ≤ Int32.ofNat n := by rw [lei]; omega
      rw [if_pos q, if_pos q, st_f6, rdl_5, pb_e5]
      refine ⟨_, _, rfl, rfl, ⟨fun g z => fl_o6 (show g ≠ 715 by omega), fun _ _ _ => rfl, rfl⟩, ⟨fun g _ z => by rw [si1, if_neg z], rfl, fun _ _ _ => rfl, rfl⟩, rfl, fun g z => fl_o6 z, ?_, rfl, ?_⟩
      · rw [si1, if_neg (by decide), h63, c]
      · rw [c]; exact W
    · have q : ¬ Int32.ofNat k ≤ Int32.ofNat n := by rw [lei]; omega
      have cn : (Int32.ofNat n).toNatClampNeg = n := cl_5 (by omega)
      have z : ∀ e : E5, rdB5 (sa5 maValues n (Int32.ofNat n) e) (fun e2 _ => rdB5 (sa5 maWeights n 1 e2) (fun e4 _ => f5_Ma_offer_29 m (Int32.ofNat k) (Int32.ofNat (n + 1)) e4)) = f5_Ma_offer_29 m (Int32.ofNat k) (Int32.ofNat (n + 1)) (wa6 n (Int32.ofNat n) 1 e) := fun e => rfl
      rw [if_neg q, if_neg q, cn, pb_e5, pb_e5, on_15 (by omega)]
      obtain ⟨o1, o2, o3, o4⟩ := out_6 (x := Int32.ofNat n) (y := 1) h63 (by omega) W
      have zz : rdB5 (sa5 maValues n (Int32.ofNat n) e) (fun e2 _ => rdB5 (sa5 maWeights n 1 e2) (fun e4 _ => pb5 (Int32.ofNat n + 1) (fun v2_5 => f5_Ma_offer_29 m (Int32.ofNat k) v2_5 e4))) = f5_Ma_offer_29 m (Int32.ofNat k) (Int32.ofNat (n + 1)) (wa6 n (Int32.ofNat n) 1 e) := by
        rw [← on_15 (a := n) (by omega)]
        rfl
      obtain ⟨e', σ', u1, u2, u3, u4, u5, u6, u7⟩ := of_6 hk m mr (n + 1) (wa6 n (Int32.ofNat n) 1 e) (g5_outcome (Int32.ofNat n) 1 σ) (by omega) (by omega) (by omega) o1 o2
      refine ⟨e', σ', ?_, u2, WW_t6 WW_a6 u3, FW_t6 o3 u4, u5, fun g y => (u6 g y).trans rfl, u7⟩
      rw [← u1, ← zz]
      refine rb_c6 (fun e2 _ => ?_)
      refine rb_c6 (fun e4 _ => ?_)
      rw [pb_e5, on_15 (by omega), pb_e5]

end
section
set_option maxHeartbeats 1600000
/-! both machines: a draw's weights summed up -/
section
variable {T : T5} {X : X5} {Bk N : Nat} {Z : Int32} {σ : rS}
theorem iw_6 {a : Nat} {c k : Int32} (H : TR5 T X Bk N Z) (hX : sx5 σ = X) (ha : a < N) (hat : σ.1 10 = Int32.ofNat (Bk + a)) (h0 : 1 ≤ c.toInt) (h1 : c.toInt ≤ 13) (hk : 149 + c = k) : g5_isWord c σ = if T.2.1 a = k then 1 else 0 := by
  obtain ⟨s1, s2, _⟩ := so_6 H hX ha hat
  have kk := kd_w5 (H.2.2.1 a ha) h0 h1
  rw [hk] at kk
  unfold g5_isWord
  rw [s1, s2]
  by_cases q : T.2.1 a = k
  · obtain ⟨q1, q2⟩ := kk.mpr q
    rw [if_pos q, if_pos q1, if_pos q2]
  · rw [if_neg q]
    by_cases q1 : X.1 (Bk + a) = 6
    · rw [if_pos q1, if_neg (fun q2 => q (kk.mp ⟨q1, q2⟩))]
    · rw [if_neg q1]
end
def SG6 (e e' : E5) (σ σ' : rS) (r : Int32) : Prop := e'.2 = e.2 ∧ σ'.2 = σ.2 ∧ ((r = 4 ∧ e'.1 715 = 3 ∧ e'.1 717 = σ'.1 66 ∧ (∀ g, g ≠ 715 → g ≠ 717 → e'.1 g = e.1 g) ∧ ∀ g, g ≠ 66 → σ'.1 g = σ.1 g) ∨ (r = 2 ∧ e'.1 711 = 2 ∧ e'.1 713 = 3 ∧ σ'.1 61 = 3 ∧ (∀ g, g ≠ 711 → g ≠ 713 → g ≠ 717 → e'.1 g = e.1 g) ∧ ∀ g, g ≠ 61 → g ≠ 66 → σ'.1 g = σ.1 g))
theorem SG_t6 {e e' : E5} {σ σ' : rS} {r x y : Int32} (h : SG6 (fl6 717 x e) e' (siU σ 66 y) σ' r) : SG6 e e' σ σ' r := by
  obtain ⟨u3, u4, u5⟩ := h
  refine ⟨u3, u4, ?_⟩
  rcases u5 with ⟨q1, q2, q3, q4, q5⟩ | ⟨q1, q2, q3, q4, q5, q6⟩
  · exact Or.inl ⟨q1, q2, q3, fun g a b => (q4 g a b).trans (fl_o6 b), fun g a => (q5 g a).trans (by rw [si1, if_neg a])⟩
  · exact Or.inr ⟨q1, q2, q3, q4, fun g a b c => (q5 g a b c).trans (fl_o6 c), fun g a b => (q6 g a b).trans (by rw [si1, if_neg b])⟩
theorem s282_6 {e : E5} : f5_Ma_spreadOut_282 e = .inl (fl6 711 2 (fl6 713 3 e), ()) := rfl
theorem d329_6 {σ : rS} : g5_draw_329 σ = (siU σ 61 3, 2) := rfl
theorem sm_6 {n : Nat} (hn : n ≤ 64) : ∀ (k m mr i : Nat) (c : Int32) (e : E5) (σ : rS), WY6 n e σ → e.1 716 = Int32.ofNat n → σ.1 63 = Int32.ofNat n → i + k = n → k < m → k < mr → σ.1 47 = 0 → e.1 717 = σ.1 66 → (c = 0 ∨ (c = 1 ∧ 0 ≤ (e.1 717).toInt ∧ (e.1 717).toInt ≤ 1000000 * (i : Int))) → ∃ e' σ' r, f5_Ma_spreadOut_200 m c (Int32.ofNat i) e = .inl (e', ()) ∧ g5_draw_239 mr c (Int32.ofNat i) σ = (σ', r) ∧ SG6 e e' σ σ' r
  | 0, m, mr, i, c, e, σ, W, h6, h63, hi, hm, hmr, h47, ht, hc => by
    obtain ⟨m, rfl⟩ : ∃ q, m = q + 1 := ⟨m - 1, by omega⟩
    obtain ⟨mr, rfl⟩ : ∃ q, mr = q + 1 := ⟨mr - 1, by omega⟩
    have li := ofn_i (n := i) (by omega)
    have ln := ofn_i (n := n) (by omega)
    have h6' : e.1 maWays = Int32.ofNat n := h6
    have q : Int32.ofNat n ≤ Int32.ofNat i := by rw [lei, ln, li]; omega
    have l47 : σ.1 47 ≤ 0 := by rw [h47]; decide
    have bad : ∃ e' σ' r, (.inl (fl6 711 2 (fl6 713 3 e), ()) : R5 Unit) = .inl (e', ()) ∧ (siU σ 61 3, (2 : Int32)) = (σ', r) ∧ SG6 e e' σ σ' r := ⟨_, _, _, rfl, rfl, rfl, rfl, Or.inr ⟨rfl, rfl, rfl, rfl, fun g a b _ => by rw [fl_o6 a, fl_o6 b], fun g a _ => by rw [si1, if_neg a]⟩⟩
    rw [f5_Ma_spreadOut_200, g5_draw_239, h6', h63, if_pos q, if_pos q, if_pos l47]
    rcases hc with c0 | ⟨c1, t1, t2⟩
    · rw [if_pos c0, if_pos c0, s282_6, d329_6]
      exact bad
    · have nc : ¬ c = 0 := by rw [c1]; decide
      rw [if_neg nc, if_neg nc]
      have ht' : e.1 maTotal = σ.1 66 := ht
      by_cases z : σ.1 66 = 0
      · rw [if_pos z, if_pos (show e.1 maTotal ≤ 0 by rw [ht', z]; decide), s282_6, d329_6]
        exact bad
      · have t1 : 0 ≤ (σ.1 66).toInt := by rw [← ht]; exact t1
        have nz : ¬ e.1 maTotal ≤ 0 := by
          rw [ht', lei, t0i]
          intro y
          exact z (Int32.toInt_inj.mp (by rw [t0i]; omega))
        rw [if_neg z, if_neg nz, st_f6, rdl_5]
        exact ⟨_, _, _, rfl, rfl, rfl, rfl, Or.inl ⟨rfl, rfl, ht, fun g a _ => fl_o6 a, fun _ _ => rfl⟩⟩
  | k + 1, m, mr, i, c, e, σ, W, h6, h63, hi, hm, hmr, h47, ht, hc => by
    obtain ⟨m, rfl⟩ : ∃ q, m = q + 1 := ⟨m - 1, by omega⟩
    obtain ⟨mr, rfl⟩ : ∃ q, mr = q + 1 := ⟨mr - 1, by omega⟩
    have li := ofn_i (n := i) (by omega)
    have ln := ofn_i (n := n) (by omega)
    have h6' : e.1 maWays = Int32.ofNat n := h6
    have q : ¬ Int32.ofNat n ≤ Int32.ofNat i := by rw [lei, ln, li]; omega
    have ci : (Int32.ofNat i).toNatClampNeg = i := cl_5 (by omega)
    have w2' : e.2.1 maWeights i = σ.2.2.1 65 i := (W i (by omega)).2
    have step : ∀ g : Int32, (g = 0 ∨ (g = 1 ∧ 0 ≤ (σ.1 66 + σ.2.2.1 65 i).toInt ∧ (σ.1 66 + σ.2.2.1 65 i).toInt ≤ 1000000 * ((i + 1 : Nat) : Int))) → ∃ e' σ' r, f5_Ma_spreadOut_240 (f5_Ma_spreadOut_200 m) (Int32.ofNat i) g e = .inl (e', ()) ∧ g5_draw_275 (g5_draw_239 mr) (Int32.ofNat i) g σ = (σ', r) ∧ SG6 e e' σ σ' r := fun g hg => by
      have eC : f5_Ma_spreadOut_240 (f5_Ma_spreadOut_200 m) (Int32.ofNat i) g e = f5_Ma_spreadOut_200 m g (Int32.ofNat (i + 1)) (fl6 717 (σ.1 66 + σ.2.2.1 65 i) e) := by
        unfold f5_Ma_spreadOut_240
        have ht' : e.1 maTotal = σ.1 66 := ht
        rw [st_f6, rdl_5, pb_e5, on_15 (by omega), ci, w2', ht']
      have eR : g5_draw_275 (g5_draw_239 mr) (Int32.ofNat i) g σ = g5_draw_239 mr g (Int32.ofNat (i + 1)) (siU σ 66 (σ.1 66 + σ.2.2.1 65 i)) := by
        unfold g5_draw_275
        rw [pb_e5, pb_e5, on_15 (by omega), ci]
      obtain ⟨e', σ', r, u1, u2, u3⟩ := sm_6 hn k m mr (i + 1) g (fl6 717 (σ.1 66 + σ.2.2.1 65 i) e) (siU σ 66 (σ.1 66 + σ.2.2.1 65 i)) W h6 h63 (by omega) (by omega) (by omega) h47 rfl hg
      exact ⟨e', σ', r, eC.trans u1, eR.trans u2, SG_t6 u3⟩
    rw [f5_Ma_spreadOut_200, g5_draw_239, h6', h63, if_neg q, if_neg q, ci, w2']
    rcases hc with c0 | ⟨c1, t1, t2⟩
    · rw [if_pos c0, if_pos c0]
      exact step 0 (Or.inl rfl)
    · have nc : ¬ c = 0 := by rw [c1]; decide
      have wi : g5_within (σ.2.2.1 65 i) 0 1000000 σ = if σ.2.2.1 65 i < 0 then 0 else if 1000000 < σ.2.2.1 65 i then 0 else 1 := rfl
      rw [if_neg nc, if_neg nc, pb_e5, wi]
      by_cases y1 : σ.2.2.1 65 i < 0
      · rw [if_pos y1, if_pos y1, if_pos rfl]
        exact step 0 (Or.inl rfl)
      · rw [if_neg y1, if_neg y1]
        by_cases y2 : (1000000 : Int32) < σ.2.2.1 65 i
        · rw [if_pos y2, if_pos y2, if_pos rfl]
          exact step 0 (Or.inl rfl)
        · rw [if_neg y2, if_neg y2, if_neg (show ¬ (1 : Int32) = 0 by decide)]
          refine step 1 (Or.inr ⟨rfl, ?_⟩)
          rw [lti, t0i] at y1
          rw [lti, show (1000000 : Int32).toInt = 1000000 from rfl] at y2
          rw [ht] at t1 t2
          rw [add_i (by omega) (by omega)]
          omega
theorem sp1_6 {n : Nat} {e : E5} {σ : rS} (hn : n ≤ 64) (W : WY6 n e σ) (h6 : e.1 716 = Int32.ofNat n) (h63 : σ.1 63 = Int32.ofNat n) (h47 : σ.1 47 = 0) : ∃ e' σ' r, f5_Ma_spreadOut_190 e = .inl (e', ()) ∧ g5_draw_228 σ = (σ', r) ∧ SG6 e e' σ σ' r := by
  obtain ⟨e', σ', r, u1, u2, u3⟩ := sm_6 hn n fu5 fu5 0 1 (fl6 717 0 e) (siU σ 66 0) W h6 h63 (by omega) (by unfold fu5; omega) (by unfold fu5; omega) h47 rfl (Or.inr ⟨rfl, by show (0 : Int) ≤ (0 : Int32).toInt; decide, by show (0 : Int32).toInt ≤ _; decide⟩)
  exact ⟨e', σ', r, u1, u2, SG_t6 u3⟩
/-- a failure stands: the reference fails with it -/
theorem sf_6 {n : Nat} (hn : n ≤ 64) : ∀ (k mr i : Nat) (c : Int32) (σ : rS), σ.1 63 = Int32.ofNat n → i + k = n → k < mr → ¬ σ.1 47 ≤ 0 → ∃ σ', g5_draw_239 mr c (Int32.ofNat i) σ = (σ', 2) ∧ σ'.1 61 = σ.1 47 ∧ σ'.2 = σ.2 ∧ ∀ g, g ≠ 61 → g ≠ 66 → σ'.1 g = σ.1 g
  | 0, mr, i, c, σ, h63, hi, hmr, h47 => by
    obtain ⟨mr, rfl⟩ : ∃ q, mr = q + 1 := ⟨mr - 1, by omega⟩
    have li := ofn_i (n := i) (by omega)
    have ln := ofn_i (n := n) (by omega)
    have q : Int32.ofNat n ≤ Int32.ofNat i := by rw [lei, ln, li]; omega
    rw [g5_draw_239, h63, if_pos q, if_neg h47]
    exact ⟨siU σ 61 (σ.1 47), rfl, rfl, rfl, fun g a _ => by rw [si1, if_neg a]⟩
  | k + 1, mr, i, c, σ, h63, hi, hmr, h47 => by
    obtain ⟨mr, rfl⟩ : ∃ q, mr = q + 1 := ⟨mr - 1, by omega⟩
    have li := ofn_i (n := i) (by omega)
    have ln := ofn_i (n := n) (by omega)
    have q : ¬ Int32.ofNat n ≤ Int32.ofNat i := by rw [lei, ln, li]; omega
    have step : ∀ g : Int32, ∃ σ', g5_draw_275 (g5_draw_239 mr) (Int32.ofNat i) g σ = (σ', 2) ∧ σ'.1 61 = σ.1 47 ∧ σ'.2 = σ.2 ∧ ∀ g, g ≠ 61 → g ≠ 66 → σ'.1 g = σ.1 g := fun g => by
      unfold g5_draw_275
      rw [pb_e5, pb_e5, on_15 (by omega)]
      obtain ⟨σ', u1, u2, u3, u4⟩ := sf_6 hn k mr (i + 1) g (siU σ 66 (σ.1 66 + σ.2.2.1 65 (Int32.ofNat i).toNatClampNeg)) h63 (by omega) (by omega) h47
      exact ⟨σ', u1, u2, u3, fun g a b => (u4 g a b).trans (by rw [si1, if_neg b])⟩
    rw [g5_draw_239, h63, if_neg q]
    by_cases c0 : c = 0
    · rw [if_pos c0]; exact step 0
    · rw [if_neg c0, pb_e5]
      by_cases y : g5_within (σ.2.2.1 65 (Int32.ofNat i).toNatClampNeg) 0 1000000 σ = 0
      · rw [if_pos y]; exact step 0
      · rw [if_neg y]; exact step 1
theorem sf1_6 {n : Nat} {σ : rS} (hn : n ≤ 64) (h63 : σ.1 63 = Int32.ofNat n) (h47 : ¬ σ.1 47 ≤ 0) : ∃ σ', g5_draw_228 σ = (σ', 2) ∧ σ'.1 61 = σ.1 47 ∧ σ'.2 = σ.2 ∧ ∀ g, g ≠ 61 → g ≠ 66 → σ'.1 g = σ.1 g := by
  obtain ⟨σ', u1, u2, u3, u4⟩ := sf_6 hn n fu5 0 1 (siU σ 66 0) h63 (by omega) (by unfold fu5; omega) h47
  exact ⟨σ', u1, u2, u3, fun g a b => (u4 g a b).trans (by rw [si1, if_neg b])⟩
/-- numbers worked out, one behind the other -/
def wn6 (n : Nat) (v : Int32) (e : E5) : E5 := (e.1, fun g j => if g = 707 ∧ j = n then v else e.2.1 g j, e.2.2)
theorem WA_n6 {n : Nat} {v : Int32} {e : E5} : WA6 e (wn6 n v e) := ⟨fun _ _ _ _ => rfl, fun g _ q => by funext j; exact if_neg (fun y => q y.1), rfl⟩
theorem wn_s6 {n i : Nat} {v : Int32} {e : E5} : (wn6 n v e).2.1 707 i = if i = n then v else e.2.1 707 i := by
  show (if 707 = 707 ∧ i = n then v else e.2.1 707 i) = _
  by_cases q : i = n
  · rw [if_pos ⟨rfl, q⟩, if_pos q]
  · rw [if_neg (fun z => q z.2), if_neg q]
theorem a5s_6 {m n k : Nat} {a1 : Int32} {e : E5} (hl : e.2.2 707 = 16) (hf : e.1 713 = 0) (nk : n < k) (k16 : k ≤ 16) : f5_Ma_act_55 (m + 1) a1 (Int32.ofNat k) (Int32.ofNat n) e = rdB5 (f5_Ma_work e) (fun e1 v => f5_Ma_act_55 m a1 (Int32.ofNat k) (Int32.ofNat (n + 1)) (wn6 n v e1)) := by
  have hl : e.2.2 maWorked = 16 := hl
  have hf : e.1 maFailure = 0 := hf
  have lk := ofn_i (n := k) (by omega)
  have ln := ofn_i (n := n) (by omega)
  have l16 := ofn_i (n := 16) (by omega)
  rw [f5_Ma_act_55, if_neg (show ¬ Int32.ofNat k ≤ Int32.ofNat n by rw [lei, lk, ln]; omega), hl, if_neg (show ¬ Int32.ofNat 16 ≤ Int32.ofNat n by rw [lei, l16, ln]; omega), if_pos hf]
  refine rb_c6 (fun e1 v => ?_)
  have cn : (Int32.ofNat n).toNatClampNeg = n := cl_5 (by omega)
  have z : sa5 maWorked (Int32.ofNat n).toNatClampNeg v e1 = .inl (wn6 n v e1, ()) := by rw [cn]; rfl
  rw [z, rdl_5, pb_e5, on_15 (by omega)]
theorem a5e_6 {m n k : Nat} {a1 : Int32} {e : E5} (nk : k ≤ n) (n16 : n ≤ 1000) : f5_Ma_act_55 (m + 1) a1 (Int32.ofNat k) (Int32.ofNat n) e = f5_Ma_act_92 a1 e := by
  rw [f5_Ma_act_55, if_pos (show Int32.ofNat k ≤ Int32.ofNat n by rw [lei, ofn_i (by omega), ofn_i (by omega)]; omega)]
theorem a5f_6 {m n k : Nat} {a1 : Int32} {e : E5} (hf : ¬ e.1 713 = 0) : f5_Ma_act_55 (m + 1) a1 (Int32.ofNat k) (Int32.ofNat n) e = f5_Ma_act_92 a1 e := by
  have hf : ¬ e.1 maFailure = 0 := hf
  rw [f5_Ma_act_55, if_neg hf]
  by_cases q : Int32.ofNat k ≤ Int32.ofNat n
  · rw [if_pos q]
  · rw [if_neg q]
    by_cases q2 : Int32.ofNat (e.2.2 maWorked) ≤ Int32.ofNat n
    · rw [if_pos q2]
    · rw [if_neg q2]
/-- the class stands failed with y -/
theorem a9f_6 {a1 y : Int32} {e : E5} (hf : e.1 713 = y) (hy : y = 1 ∨ y = 2) : f5_Ma_act_92 a1 e = .inl (fl6 711 2 e, ()) := by
  have nf : ¬ e.1 maFailure = 0 := fun q => by
    have q : e.1 713 = 0 := q
    rw [hf] at q
    rcases hy with t | t <;> rw [t] at q <;> exact absurd q (by decide)
  unfold f5_Ma_act_92
  rw [if_neg nf, st_f6, rdl_5]

end
section
set_option maxHeartbeats 1600000
/-! both machines: draws -/
/-- how a statement ends, draws and choices too -/
def AW6 (nv w d : Nat) (e' : E5) (σ' : rS) (r : Int32) : Prop := ((r = 4 ∧ e'.1 715 = 3) ∨ (r = 5 ∧ e'.1 715 = 4)) ∧ e'.1 711 = 0 ∧ e'.1 714 = σ'.1 62 ∧ e'.1 717 = σ'.1 66 ∧ (∃ n, n ≤ 64 ∧ e'.1 716 = Int32.ofNat n ∧ σ'.1 63 = Int32.ofNat n ∧ WY6 n e' σ') ∧ ∃ i, e'.1 708 = Int32.ofNat i ∧ tg6 nv w d i (σ'.1 67)
def AF6 (nv w s d : Nat) (e' : E5) (σ' : rS) (r : Int32) : Prop := (e'.1 715 = -1 ∧ AE6 nv w s e' σ' r) ∨ (AW6 nv w d e' σ' r ∧ e'.1 714 = 0 ∧ MT6 nv w s d e' σ')
def AX6 (nv w s d : Nat) (e e' : E5) (σ σ' : rS) (r : Int32) : Prop := AF6 nv w s d e' σ' r ∧ (r = 4 ∨ r = 5 → ME6 e e' σ σ')
theorem AE_r6 {nv w s : Nat} {e' : E5} {σ' : rS} {r : Int32} (h : AE6 nv w s e' σ' r) : ¬ (r = 4 ∨ r = 5) := by
  rcases h with ⟨q, _⟩ | ⟨q, _⟩ | ⟨q, _⟩ | ⟨q, _⟩ <;> rw [q] <;> decide
/-- what working out, ways and arguments change of the reference -/
def FB6 (σ σ' : rS) : Prop := (∀ g, g ≠ 10 → g ≠ 13 → g ≠ 47 → g ≠ 48 → g ≠ 49 → g ≠ 61 → g ≠ 63 → g ≠ 66 → σ'.1 g = σ.1 g) ∧ (∀ g, g ≠ 50 → g ≠ 51 → g ≠ 52 → g ≠ 64 → g ≠ 65 → g ≠ 68 → σ'.2.2.1 g = σ.2.2.1 g) ∧ σ'.2.2.2 = σ.2.2.2
theorem FB_r6 {σ : rS} : FB6 σ σ := ⟨fun _ _ _ _ _ _ _ _ _ => rfl, fun _ _ _ _ _ _ _ => rfl, rfl⟩
theorem FB_t6 {a b c : rS} (h : FB6 a b) (k : FB6 b c) : FB6 a c := ⟨fun g x1 x2 x3 x4 x5 x6 x7 x8 => (k.1 g x1 x2 x3 x4 x5 x6 x7 x8).trans (h.1 g x1 x2 x3 x4 x5 x6 x7 x8), fun g x1 x2 x3 x4 x5 x6 => (k.2.1 g x1 x2 x3 x4 x5 x6).trans (h.2.1 g x1 x2 x3 x4 x5 x6), k.2.2.trans h.2.2⟩
theorem FB_f6 {a b : rS} (h : F6 a b) : FB6 a b := ⟨fun g x1 x2 x3 x4 x5 _ _ _ => h.1 g x1 x2 x3 x4 x5, fun g x1 x2 x3 _ _ _ => h.2.2.1 g x1 x2 x3, h.2.2.2⟩
theorem FB_w6 {a b : rS} (h : FW6 a b) : FB6 a b := ⟨fun g _ _ _ _ _ _ x1 x2 => h.1 g x1 x2, fun g _ _ _ x1 x2 _ => h.2.2.1 g x1 x2, h.2.2.2⟩
theorem FB_s6 {g : Nat} {x : Int32} {σ : rS} (h : g = 10 ∨ g = 61 ∨ g = 63 ∨ g = 66) : FB6 σ (siU σ g x) := ⟨fun k _ _ _ _ _ _ _ _ => by rw [si1, if_neg (by omega)], fun _ _ _ _ _ _ _ => rfl, rfl⟩
theorem FB_o6 {a b : rS} (h2 : b.2 = a.2) (h : ∀ g, g ≠ 61 → g ≠ 66 → b.1 g = a.1 g) : FB6 a b := ⟨fun g _ _ _ _ _ x _ y => h g x y, fun _ _ _ _ _ _ _ => by rw [h2], by rw [h2]⟩
theorem pmq_6 {q : rS × Int32} : pm5 q (fun a b => (a, b)) = q := by
  cases q
  rfl
section
variable {T : T5} {X : X5} {Bk N nv na f s w d : Nat} {Z : Int32} {e e' : E5} {σ σ' : rS}
theorem FM_f6 (h : WA6 e e') (k : FB6 σ σ') : FM6 e e' σ σ' := ⟨⟨fun g q => h.1 g (by omega) (by omega) (by omega), fun g q => h.2.1 g (by omega) (by omega), h.2.2⟩, fun g q => k.1 g (by omega) (by omega) (by omega) (by omega) (by omega) (by omega) (by omega) (by omega), fun g q => k.2.1 g (by omega) (by omega) (by omega) (by omega) (by omega) (by omega), k.2.2⟩
theorem ME_f6 (h : WA6 e e') (k : FB6 σ σ') : ME6 e e' σ σ' := ⟨⟨h.1 702 (by decide) (by decide) (by decide), h.1 703 (by decide) (by decide) (by decide), h.1 704 (by decide) (by decide) (by decide), h.2.1 701 (by decide) (by decide), h.2.2⟩, k.1 58 (by decide) (by decide) (by decide) (by decide) (by decide) (by decide) (by decide) (by decide), fun g q => k.2.1 g (by omega) (by omega) (by omega) (by omega) (by omega) (by omega)⟩
theorem ME_w6 (h : WW6 e e') (k : FW6 σ σ') : ME6 e e' σ σ' := ⟨⟨h.1 702 (by decide), h.1 703 (by decide), h.1 704 (by decide), h.2.1 701 (by decide) (by decide), h.2.2⟩, k.1 58 (by decide) (by decide), fun g q => k.2.2.1 g (by omega) (by omega)⟩
theorem WA_r6 : WA6 e e := ⟨fun _ _ _ _ => rfl, fun _ _ _ => rfl, rfl⟩
theorem MB_f6 (M : MB6 nv w s d e σ) (h : WA6 e e') (k : FB6 σ σ') : MB6 nv w s d e' σ' := by
  obtain ⟨⟨m1, m2, m3⟩, ⟨m4, m5, m6, m7, m8⟩, m9, m10, m11⟩ := M
  have r := h.2.1 701 (by decide) (by decide)
  have q57 := k.2.1 57 (by decide) (by decide) (by decide) (by decide) (by decide) (by decide)
  have q59 := k.2.1 59 (by decide) (by decide) (by decide) (by decide) (by decide) (by decide)
  have q60 := k.2.1 60 (by decide) (by decide) (by decide) (by decide) (by decide) (by decide)
  have q30 := k.2.1 30 (by decide) (by decide) (by decide) (by decide) (by decide) (by decide)
  refine ⟨⟨(h.1 702 (by decide) (by decide) (by decide)).trans m1, m2, m3.1, zt_o6 q57 m3.2⟩, ⟨(h.1 703 (by decide) (by decide) (by decide)).trans m4, (k.1 58 (by decide) (by decide) (by decide) (by decide) (by decide) (by decide) (by decide) (by decide)).trans m5, m6, (h.1 704 (by decide) (by decide) (by decide)).trans m7, by rw [h.2.2]; exact m8⟩, ?_, ?_, ?_⟩
  · rw [r, q57]; exact m9
  · rw [r, q59, q30]; exact m10
  · rw [r, q60]; exact m11
theorem sx_f6 (k : FB6 σ σ') (h : sx5 σ = X) : sx5 σ' = X := by
  rw [← h]
  unfold sx5
  rw [k.2.1 5 (by decide) (by decide) (by decide) (by decide) (by decide) (by decide), k.2.1 6 (by decide) (by decide) (by decide) (by decide) (by decide) (by decide), k.2.1 7 (by decide) (by decide) (by decide) (by decide) (by decide) (by decide), k.2.1 9 (by decide) (by decide) (by decide) (by decide) (by decide) (by decide), k.2.2]
theorem bad_6 {e4 : E5} {σ4 : rS} {y : Int32} (MT : MT6 nv w s d e4 σ4) (FM : FM6 e e4 σ σ4) (h713 : e4.1 713 = y) (h714 : e4.1 714 = 0) (h715 : e4.1 715 = -1) (eC : f5_Ma_act e = .inl (fl6 711 2 e4, ())) (eR : g5_act σ = (σ4, 2)) (h61 : σ4.1 61 = y) (hy : y ≠ -1 := by first | exact n1_6 (by assumption) | decide) : ∃ e' σ' r, f5_Ma_act e = .inl (e', ()) ∧ g5_act σ = (σ', r) ∧ FM6 e e' σ σ' ∧ AX6 nv w s d e e' σ σ' r :=
  ⟨_, _, _, eC, eR, FM_t6 FM (FM_k6 (by decide)), ⟨Or.inl ⟨(fl_o6 (by decide)).trans h715, Or.inr (Or.inr (Or.inl ⟨rfl, fl_s6, ((fl_o6 (by decide)).trans h713).trans h61.symm, (fl_o6 (by decide)).trans h714, by rw [fl_o6 (by decide), h713]; exact hy, d, MT_e6 MT (ME_k6 (by decide))⟩))⟩, fun q => absurd q (by decide)⟩⟩
/-- a draw's ways are told: how it ends -/
theorem drE_6 {j i n : Nat} {k0 : Int32} {e4 e6 : E5} {σ4 σ6 : rS} (MT : MT6 nv w s d e4 σ4) (F : FN6 T Bk N nv na f s e4 σ4) (hj : j < s) (g708 : e4.1 708 = Int32.ofNat i) (tg : tg6 nv w d i (σ4.1 67)) (g711 : e4.1 711 = 0) (g713 : e4.1 713 = 0) (g714 : e4.1 714 = 0) (g715 : e4.1 715 = -1) (t62 : σ4.1 62 = 0) (hk : e4.2.1 506 (11 * j) = k0) (hk0 : k0 = 1 ∨ k0 = 2 ∨ k0 = 3) (ob : f5_Ma_spreadOut (Int32.ofNat j) k0 (fl6 710 0 (fl6 709 (σ4.2.2.1 37 j) e4)) = f5_Ma_spreadOut_190 e6) (W : WW6 (fl6 710 0 (fl6 709 (σ4.2.2.1 37 j) e4)) e6) (e715 : e6.1 715 = -1) (h6 : e6.1 716 = Int32.ofNat n) (hn : n ≤ 64) (R : FW6 σ4 σ6) (h63 : σ6.1 63 = Int32.ofNat n) (h47 : σ6.1 47 = 0) (WY : WY6 n e6 σ6) : ∃ e' σ' r, f5_Ma_act_92 (Int32.ofNat j) e4 = .inl (e', ()) ∧ g5_draw_228 σ6 = (σ', r) ∧ FM6 e4 e' σ4 σ' ∧ AX6 nv w s d e4 e' σ4 σ' r := by
  obtain ⟨e', σ', r, u1, u2, u3, u4, u5⟩ := sp1_6 hn WY h6 h63 h47
  have oe : ∀ e5 : E5, f5_Ma_obey (Int32.ofNat j) k0 e5 = f5_Ma_spreadOut (Int32.ofNat j) k0 e5 := fun e5 => by
    unfold f5_Ma_obey
    rw [pb_e5]
    rcases hk0 with q | q | q
    · rw [q, if_neg (by decide), if_pos (by decide), rb_u5]
    · rw [q, if_neg (by decide), if_neg (by decide), if_pos (by decide), rb_u5]
    · rw [q, if_neg (by decide), if_neg (by decide), if_neg (by decide), if_pos (by decide), rb_u5]
  have eC : f5_Ma_act_92 (Int32.ofNat j) e4 = tal6 e' := by rw [a92_6 F hj g713, hk, oe, ob, u1, rdl_5]
  have ge : ∀ g, g < 709 ∨ g = 711 ∨ g = 713 ∨ g = 714 → e6.1 g = e4.1 g := fun g q => (W.1 g (by omega)).trans ((fl_o6 (by omega)).trans (fl_o6 (by omega)))
  have FM : (∀ g, g < 600 ∨ g = 702 → e'.1 g = e6.1 g) → (∀ g, g ≠ 61 → g ≠ 66 → σ'.1 g = σ6.1 g) → FM6 e4 e' σ4 σ' := fun p1 p2 => ⟨⟨fun g q => (p1 g q).trans (ge g (by omega)), fun g q => by rw [u3]; exact W.2.1 g (by omega) (by omega), by rw [u3]; exact W.2.2⟩, fun g q => (p2 g (by omega) (by omega)).trans (R.1 g (by omega) (by omega)), fun g q => by rw [u4]; exact R.2.2.1 g (by omega) (by omega), by rw [u4]; exact R.2.2.2⟩
  have MEc : (∀ g, g = 702 ∨ g = 703 ∨ g = 704 → e'.1 g = e6.1 g) → σ'.1 58 = σ6.1 58 → ME6 e4 e' σ4 σ' := fun p1 p2 => ME_t6 (ME_t6 (ME_t6 (ME_k6 (by decide)) (ME_k6 (by decide))) (ME_w6 W R)) ⟨⟨p1 702 (by omega), p1 703 (by omega), p1 704 (by omega), by rw [u3], by rw [u3]⟩, p2, fun g _ => by rw [u4]⟩
  have wy : WY6 n e' σ' := fun k hk => by
    rw [u3, u4]
    exact WY k hk
  rcases u5 with ⟨q1, q2, q3, q4, q5⟩ | ⟨q1, q2, q3, q4, q5, q6⟩
  · refine ⟨e', σ', r, ?_, u2, FM (fun g q => q4 g (by omega) (by omega)) (fun g _ q => q5 g q), ⟨Or.inr ⟨⟨Or.inl ⟨q1, q2⟩, (q4 711 (by decide) (by decide)).trans ((ge 711 (by omega)).trans g711), ?_, q3, ⟨n, hn, (q4 716 (by decide) (by decide)).trans h6, (q5 63 (by decide)).trans h63, wy⟩, i, (q4 708 (by decide) (by decide)).trans ((ge 708 (by omega)).trans g708), ?_⟩, (q4 714 (by decide) (by decide)).trans ((ge 714 (by omega)).trans g714), MT_e6 MT (MEc (fun g q => q4 g (by omega) (by omega)) (q5 58 (by decide)))⟩, fun _ => MEc (fun g q => q4 g (by omega) (by omega)) (q5 58 (by decide))⟩⟩
    · rw [eC]
      unfold tal6
      rw [if_neg (show ¬ e'.1 maWants = -1 by show ¬ e'.1 715 = -1; rw [q2]; decide)]
    · rw [q4 714 (by decide) (by decide), ge 714 (by omega), g714, q5 62 (by decide), R.1 62 (by decide) (by decide), t62]
    · rw [q5 67 (by decide), R.1 67 (by decide) (by decide)]; exact tg
  · refine ⟨e', σ', r, ?_, u2, FM (fun g q => q5 g (by omega) (by omega) (by omega)) q6, ⟨Or.inl ⟨(q5 715 (by decide) (by decide) (by decide)).trans e715, Or.inr (Or.inr (Or.inl ⟨q1, q2, q3.trans q4.symm, (q5 714 (by decide) (by decide) (by decide)).trans ((ge 714 (by omega)).trans g714), by rw [q3]; decide, d, MT_e6 MT (MEc (fun g q => q5 g (by omega) (by omega) (by omega)) (q6 58 (by decide) (by decide)))⟩))⟩, fun z => absurd z (by rw [q1]; decide)⟩⟩
    rw [eC]
    unfold tal6
    rw [if_pos (show e'.1 maWants = -1 from (q5 715 (by decide) (by decide) (by decide)).trans e715), if_neg (show ¬ e'.1 maOutcome = 0 by show ¬ e'.1 711 = 0; rw [q2]; decide)]
/-- a statement with a place, begun -/
theorem pre_6 {j pc : Nat} {c4 : Int32} {e2 : E5} {σ2 : rS} (F : FN6 T Bk N nv na f s e σ) (M : MB6 nv w s d e σ) (d0 : 0 < d) (hw : (w : Int) = nv + (e.1 511).toInt) (hj : j < s) (at1 : e.2.1 701 (w + 9 * (d - 1)) = Int32.ofNat j) (at2 : σ.2.2.1 59 (d - 1) = Int32.ofNat j) (h711 : e.1 711 = 0) (hsx : sx5 σ = X)
    (h3 : e.2.1 506 (11 * j + 3) = Int32.ofNat pc) (hk : σ.2.2.1 30 j = 3 ∨ σ.2.2.1 30 j = 4) (h4 : e.2.1 506 (11 * j + 4) = c4) (am : f5_Ma_aim (Int32.ofNat j) (ab6 (Int32.ofNat pc) e) = .inl (e2, ())) (fp : g5_findPlace (Int32.ofNat j) (ar6b σ) = σ2) (A1 : WA6 (ab6 (Int32.ofNat pc) e) e2) (A2 : FA6 (ar6b σ) σ2) :
    f5_Ma_act e = f5_Ma_act_55 fu5 (Int32.ofNat j) c4 0 e2 ∧ (g5_act σ = if σ2.1 47 ≤ 0 then g5_act_81 (Int32.ofNat j) (σ.2.2.1 30 j) σ2 else (siU σ2 61 (σ2.1 47), 2)) ∧ FM6 e e2 σ σ2 ∧ MB6 nv w s d e2 σ2 ∧ (e2.1 714 = 0 ∧ e2.1 715 = -1 ∧ e2.1 711 = 0 ∧ σ2.1 62 = 0 ∧ σ2.1 46 = 1) ∧ sx5 σ2 = X ∧ (w : Int) = nv + (e2.1 511).toInt ∧ ME6 e e2 σ σ2 := by
  have s150 := F.1.2.2.2.1.2
  have F1 : FM6 e (ab6 (Int32.ofNat pc) e) σ (ar6b σ) := FM_b6 F.2.1.1
  have F2 : FM6 e e2 σ σ2 := FM_t6 F1 (FM_a6 A1 A2)
  have FN2 := FN_m6 F F2
  have est2 : e2.1 coStatements = Int32.ofNat s := FN2.1.2.2.2.1.1
  have r506 : e2.2.1 506 = e.2.1 506 := A1.2.1 506 (by decide) (by decide)
  have c4' : cl5 (Int32.ofNat j) 4 e2 = c4 := (cl_55 (s := j) (c := 4) est2 (by omega) (by omega) (by decide)).trans (by rw [r506]; exact h4)
  refine ⟨by rw [acC_6 F M hj at1 h3, am, rdl_5, pb_e5, c4'], ?_, F2, MB_a6 (MB_b6 M) A1 A2, ⟨A1.1 714 (by decide) (by decide) (by decide), A1.1 715 (by decide) (by decide) (by decide), (A1.1 711 (by decide) (by decide) (by decide)).trans h711, A2.1 62 (by decide) (by decide) (by decide) (by decide) (by decide) (by decide), A2.1 46 (by decide) (by decide) (by decide) (by decide) (by decide) (by decide)⟩, sx_a6 A2 hsx, by rw [F2.1.1 511 (by decide)]; exact hw, ME_t6 ME_b6 (ME_a6 A1 A2)⟩
  have n5 : ¬ σ.2.2.1 30 j = 5 := by rcases hk with q | q <;> rw [q] <;> decide
  have n4 : ¬ 4 < σ.2.2.1 30 j := by rcases hk with q | q <;> rw [q] <;> decide
  have eR := acR_6 M d0 (by omega) at2
  rw [if_neg n5, if_neg n4, pb_e5, fp] at eR
  exact eR
end

end
section
set_option maxHeartbeats 1600000
/-! both machines: pick and choose -/
/-- the reference's draw, its token looked at -/
def dr6 (σ2 : rS) : rS × Int32 := pb5 (g5_isWord ((11 : Int32)) σ2) (fun r4 => pb5 (g5_isWord ((12 : Int32)) σ2) (fun r6 => (if r4 = 0 then (if r6 = 0 then (g5_draw_162 fu5 ((1 : Int32)) (σ2)) else pm5 (g5_workAt (((σ2.1 10) + (2 : Int32))) σ2) (fun σ7 r8 => pb5 (g5_outcome ((1 : Int32)) (r8) σ7) (fun σ9 => (if (σ9.1 47) ≤ 0 then pm5 (g5_workAt (((σ9.1 10) + (1 : Int32))) σ9) (fun σ11 r12 => pb5 (g5_outcome ((0 : Int32)) (r12) σ11) (fun σ13 => (g5_draw_228 (σ13)))) else pb5 (g5_outcome ((0 : Int32)) ((0 : Int32)) σ9) (fun σ15 => (g5_draw_228 (σ15))))))) else pm5 (g5_workAt (((σ2.1 10) + (2 : Int32))) σ2) (fun σ17 r18 => (if 0 < (σ17.1 47) then (g5_draw_65 (σ17)) else (if r18 < (1 : Int32) then (g5_draw_65 (σ17)) else (if r18 ≤ (64 : Int32) then (g5_draw_88 fu5 (r18) ((0 : Int32)) (σ17)) else (g5_draw_65 (σ17)))))))))
theorem drw_6 {j : Nat} {x : Int32} {σ : rS} (hj : j ≤ 1000) (h32 : σ.2.2.1 32 j = x) : g5_act_81 (Int32.ofNat j) 3 σ = dr6 (siU (siU σ 63 0) 10 x) := by
  have cj : (Int32.ofNat j).toNatClampNeg = j := cl_5 (by omega)
  unfold g5_act_81
  rw [if_pos rfl, pmq_6]
  unfold g5_draw
  rw [pb_e5, pb_e5, cj]
  show dr6 (siU (siU σ 63 0) 10 (σ.2.2.1 32 j)) = _
  rw [h32]
theorem d65_6 {σ : rS} (h : σ.1 47 = 0) : g5_draw_65 σ = (siU σ 61 3, 2) := by
  unfold g5_draw_65
  rw [if_pos (show σ.1 47 ≤ 0 by rw [h]; decide)]
  rfl
theorem d65f_6 {σ : rS} (h : ¬ σ.1 47 ≤ 0) : g5_draw_65 σ = (siU σ 61 (σ.1 47), 2) := by
  unfold g5_draw_65
  rw [if_neg h]
  rfl
theorem c31_6 {σ : rS} (h : σ.1 47 = 0) : g5_choose_31 σ = (siU σ 61 5, 2) := by
  unfold g5_choose_31
  rw [if_pos (show σ.1 47 ≤ 0 by rw [h]; decide)]
  rfl
theorem c31f_6 {σ : rS} (h : ¬ σ.1 47 ≤ 0) : g5_choose_31 σ = (siU σ 61 (σ.1 47), 2) := by
  unfold g5_choose_31
  rw [if_neg h]
  rfl
theorem WW_k6 {k : Nat} {x : Int32} {e : E5} (h : 715 ≤ k) : WW6 e (fl6 k x e) := ⟨fun g q => fl_o6 (by omega), fun _ _ _ => rfl, rfl⟩
theorem y12_6 {x y : Int32} (h : x = y) (hy : y = 1 ∨ y = 2) : ¬ x ≤ 0 ∧ 0 < x := by
  rw [h]
  rcases hy with q | q <;> rw [q] <;> decide
theorem y13_6 {x y : Int32} (h : x = y) (hy : y = 1 ∨ y = 2) : ¬ x = 0 := by
  rw [h]
  rcases hy with q | q <;> rw [q] <;> decide
/-- nothing to draw from: the class fails -/
theorem s190z_6 {e : E5} (h : e.1 716 = 0) : f5_Ma_spreadOut_190 e = .inl (fl6 711 2 (fl6 713 3 (fl6 717 0 e)), ()) := by
  obtain ⟨m, hm⟩ : ∃ m, fu5 = m + 1 := ⟨fu5 - 1, by unfold fu5; omega⟩
  unfold f5_Ma_spreadOut_190
  rw [st_f6, rdl_5, hm, f5_Ma_spreadOut_200]
  have h' : (fl6 717 0 e).1 maWays = 0 := (fl_o6 (by decide)).trans h
  have h'' : (fl6 maTotal 0 e).1 maTotal = 0 := fl_s6
  rw [show maTotal = 717 from rfl, h', if_pos (show (0 : Int32) ≤ 0 by decide), if_neg (show ¬ (1 : Int32) = 0 by decide), if_pos (show (fl6 717 0 e).1 717 ≤ 0 by rw [fl_s6]; decide), s282_6]
section
variable {T : T5} {X : X5} {Bk N nv na f s w d : Nat} {Z : Int32} {e e' : E5} {σ σ' : rS}
theorem pk1_6 {k : Nat} (hk : k ≤ 64) : ∀ (m mr n : Nat) (e : E5) (σ : rS), n ≤ k → k - n < m → k - n < mr → e.1 716 = Int32.ofNat k → WY6 n e σ → σ.1 63 = Int32.ofNat n → ∃ e' σ', f5_Ma_spreadOut_42 m (Int32.ofNat n) e = f5_Ma_spreadOut_190 e' ∧ g5_draw_88 mr (Int32.ofNat k) (Int32.ofNat n) σ = g5_draw_228 σ' ∧ WW6 e e' ∧ e'.1 = e.1 ∧ FW6 σ σ' ∧ σ'.1 63 = Int32.ofNat k ∧ WY6 k e' σ'
  | 0, _, _, _, _, _, h, _, _, _, _ => by omega
  | m + 1, 0, _, _, _, _, _, h, _, _, _ => by omega
  | m + 1, mr + 1, n, e, σ, hn, hm, hmr, h6, W, h63 => by
    have lk := ofn_i (n := k) (by omega)
    have ln := ofn_i (n := n) (by omega)
    have h6' : e.1 maWays = Int32.ofNat k := h6
    rw [f5_Ma_spreadOut_42, g5_draw_88, h6']
    by_cases c : k = n
    · have q : Int32.ofNat k ≤ Int32.ofNat n := by rw [lei]; omega
      rw [if_pos q, if_pos q]
      exact ⟨e, σ, rfl, rfl, WW_r6, rfl, FW_r6, by rw [h63, c], by rw [c]; exact W⟩
    · have q : ¬ Int32.ofNat k ≤ Int32.ofNat n := by rw [lei]; omega
      have cn : (Int32.ofNat n).toNatClampNeg = n := cl_5 (by omega)
      rw [if_neg q, if_neg q, cn, pb_e5, pb_e5, on_15 (by omega)]
      obtain ⟨o1, o2, o3, o4⟩ := out_6 (x := Int32.ofNat n) (y := 1) h63 (by omega) W
      have zz : rdB5 (sa5 maValues n (Int32.ofNat n) e) (fun e2 _ => rdB5 (sa5 maWeights n 1 e2) (fun e4 _ => pb5 (Int32.ofNat n + 1) (fun v => f5_Ma_spreadOut_42 m v e4))) = f5_Ma_spreadOut_42 m (Int32.ofNat (n + 1)) (wa6 n (Int32.ofNat n) 1 e) := by
        rw [← on_15 (a := n) (by omega)]
        rfl
      obtain ⟨e', σ', u1, u2, u3, u4, u5, u6⟩ := pk1_6 hk m mr (n + 1) (wa6 n (Int32.ofNat n) 1 e) (g5_outcome (Int32.ofNat n) 1 σ) (by omega) (by omega) (by omega) h6 o1 o2
      refine ⟨e', σ', ?_, u2, WW_t6 WW_a6 u3, u4, FW_t6 o3 u5, u6⟩
      rw [← u1, ← zz]
      refine rb_c6 (fun e2 _ => ?_)
      refine rb_c6 (fun e4 _ => ?_)
      rw [pb_e5, on_15 (by omega), pb_e5]
/-- a draw begun -/
theorem drs_6 {j x : Nat} (F : FN6 T Bk N nv na f s e σ) (M : MB6 nv w s d e σ) (hj : j < s) (h32 : σ.2.2.1 32 j = Int32.ofNat (Bk + x)) (h46 : σ.1 46 = 1) (h47 : σ.1 47 = 0) (h13 : σ.1 13 = 0) (hsx : sx5 σ = X) : ∃ σ3, g5_act_81 (Int32.ofNat j) 3 σ = dr6 σ3 ∧ FB6 σ σ3 ∧ FN6 T Bk N nv na f s e σ3 ∧ MB6 nv w s d e σ3 ∧ sx5 σ3 = X ∧ ok6 σ3 ∧ σ3.1 13 = 0 ∧ σ3.1 10 = Int32.ofNat (Bk + x) ∧ σ3.1 63 = Int32.ofNat 0 := by
  have s150 := F.1.2.2.2.1.2
  have B : FB6 σ (siU (siU σ 63 0) 10 (Int32.ofNat (Bk + x))) := FB_t6 (FB_s6 (by omega)) (FB_s6 (by omega))
  have FN3 := FN_m6 F (FM_f6 WA_r6 B)
  exact ⟨_, drw_6 (by omega) h32, B, FN3, MB_f6 M WA_r6 B, sx_f6 B hsx, ⟨FN3.2.1.1, h46, h47⟩, h13, rfl, rfl⟩
theorem ac3p_6 {j x pc p1 p' a' : Nat} {e2 : E5} {σ2 : rS} (H : TR5 T X Bk N Z) (hE : T.2.1 (N - 1) = 142) (F : FN6 T Bk N nv na f s e σ) (M : MB6 nv w s d e σ) (d0 : 0 < d) (hw : (w : Int) = nv + (e.1 511).toInt) (hj : j < s) (at1 : e.2.1 701 (w + 9 * (d - 1)) = Int32.ofNat j) (at2 : σ.2.2.1 59 (d - 1) = Int32.ofNat j) (h711 : e.1 711 = 0) (hst : e.2.2 705 = 256) (hwk : e.2.2 707 = 16) (hsx : sx5 σ = X)
    (h32 : σ.2.2.1 32 j = Int32.ofNat (Bk + x)) (h3 : e.2.1 506 (11 * j + 3) = Int32.ofNat pc) (hk : σ.2.2.1 30 j = 3) (h0 : e.2.1 506 (11 * j) = 1) (h4 : e.2.1 506 (11 * j + 4) = 1) (hT : T.2.1 x = 160) (am : f5_Ma_aim (Int32.ofNat j) (ab6 (Int32.ofNat pc) e) = .inl (e2, ())) (fp : g5_findPlace (Int32.ofNat j) (ar6b σ) = σ2) (A : AM6 nv w d p1 (ab6 (Int32.ofNat pc) e) e2 (ar6b σ) σ2) (hx : xe6 T Bk nv na e (σ.2.2.1 39) p1 (x + 2) p' a') (aN : a' < N) : ∃ e' σ' r, f5_Ma_act e = .inl (e', ()) ∧ g5_act σ = (σ', r) ∧ FM6 e e' σ σ' ∧ AX6 nv w s d e e' σ σ' r := by
  have MT0 : MT6 nv w s d e σ := ⟨M, j, hj, at1, at2⟩
  have hh := H.1
  have s150 := F.1.2.2.2.1.2
  have xa := hx.2.2
  obtain ⟨A1, A2, A3⟩ := A
  obtain ⟨eC, eR, F2, M2, ⟨f714, f715, f711, s62, s46⟩, hsx2, hw2, ME2⟩ := pre_6 F M d0 hw hj at1 at2 h711 hsx h3 (Or.inl hk) h4 am fp A1 A2
  have FN2 := FN_m6 F F2
  have rl : e2.2.2 = e.2.2 := A1.2.2
  have r506 : e2.2.1 506 = e.2.1 506 := A1.2.1 506 (by decide) (by decide)
  rcases A3 with ⟨i, i1, i2, i3, i4, i5, i6⟩ | ⟨y, y1, y2, y3⟩
  · rw [if_pos (show σ2.1 47 ≤ 0 by rw [i5]; decide), hk] at eR
    obtain ⟨σ3, d1, B3, FN3, M3, hsx3, ok3, t13, t10, t63⟩ := drs_6 (x := x) FN2 M2 hj (by rw [F2.2.2.1 32 (by decide)]; exact h32) s46 i5 i6 hsx2
    rw [d1] at eR
    have FM3 : FM6 e e2 σ σ3 := FM_t6 F2 (FM_f6 WA_r6 B3)
    have ME3 : ME6 e e2 σ σ3 := ME_t6 ME2 (ME_f6 WA_r6 B3)
    have t2 : σ3.1 10 + 2 = Int32.ofNat (Bk + (x + 2)) := by rw [t10]; exact on_5 (b := 2) (by omega)
    unfold dr6 at eR
    rw [pb_e5, pb_e5, iw_6 (c := 11) (k := 160) H hsx3 (by omega) t10 (by decide) (by decide) (by decide), if_pos hT, if_neg (show ¬ (1 : Int32) = 0 by decide), t2] at eR
    have a55 : f5_Ma_act_55 fu5 (Int32.ofNat j) 1 0 e2 = rdB5 (f5_Ma_work e2) (fun e1 v => f5_Ma_act_92 (Int32.ofNat j) (wo6 v e1)) := a55_6 (m := fu5 - 2) (by rw [rl]; exact hwk) i4
    rw [a55] at eC
    have xw := xw_6 H hE FN3 M3 d0 hw2 (xe_n6 hx FM3) aN i3 (by rw [rl]; exact hst) ok3 t13 hsx3
    rcases xw with ⟨e3, σ4, v, w1, w2, w3, w4, w5, w6, w7, w8, w9⟩ | ⟨e3, σ4, v, y, w1, w2, w3, w4, w5, w6, w7⟩
    · rw [w1, rdl_5] at eC
      rw [w2, pm_e5] at eR
      dsimp only at eR
      rw [if_neg (show ¬ 0 < σ4.1 47 by rw [w7]; decide)] at eR
      have WA4 : WA6 e2 (wo6 v e3) := WA_t6 (WA_w6 w5) WA_o6
      have FB4 : FB6 σ3 σ4 := FB_f6 w9
      have FN4 := FN_m6 FN3 (FM_f6 WA4 FB4)
      have FM4 : FM6 e (wo6 v e3) σ σ4 := FM_t6 FM3 (FM_f6 WA4 FB4)
      have ME4 : ME6 e (wo6 v e3) σ σ4 := ME_t6 ME3 (ME_f6 WA4 FB4)
      have v707 : (wo6 v e3).2.1 707 0 = v := by
        show (if 707 = 707 ∧ 0 = 0 then v else e3.2.1 707 0) = v
        rw [if_pos ⟨rfl, rfl⟩]
      have g708 : (wo6 v e3).1 708 = Int32.ofNat i := (w5.1 708 (by decide) (by decide)).trans i1
      have g713 : (wo6 v e3).1 713 = 0 := w4.trans i4
      have g714 : (wo6 v e3).1 714 = 0 := (WA4.1 714 (by decide) (by decide) (by decide)).trans f714
      have g715 : (wo6 v e3).1 715 = -1 := (WA4.1 715 (by decide) (by decide) (by decide)).trans f715
      have g711 : (wo6 v e3).1 711 = 0 := (WA4.1 711 (by decide) (by decide) (by decide)).trans f711
      have k30 : (wo6 v e3).2.1 506 (11 * j) = 1 := by rw [WA4.2.1 506 (by decide) (by decide), r506]; exact h0
      have B24 : FB6 σ2 σ4 := FB_t6 B3 FB4
      have t62 : σ4.1 62 = 0 := (B24.1 62 (by decide) (by decide) (by decide) (by decide) (by decide) (by decide) (by decide) (by decide)).trans s62
      have t67 : σ4.1 67 = σ2.1 67 := B24.1 67 (by decide) (by decide) (by decide) (by decide) (by decide) (by decide) (by decide) (by decide)
      have t63' : σ4.1 63 = Int32.ofNat 0 := (w9.1 63 (by decide) (by decide) (by decide) (by decide) (by decide)).trans t63
      generalize wo6 v e3 = e4 at eC WA4 FM4 ME4 FN4 v707 g708 g713 g714 g715 g711 k30
      obtain ⟨e5, he5⟩ : ∃ e5, e5 = fl6 710 0 (fl6 709 (σ4.2.2.1 37 j) e4) := ⟨_, rfl⟩
      have bv : e5.2.1 maWorked (0 : Int32).toNatClampNeg = v := by rw [he5]; exact v707
      have so : f5_Ma_spreadOut (Int32.ofNat j) 1 e5 = f5_Ma_spreadOut_42 fu5 0 (fl6 716 (if v < 1 then 0 else if 64 < v then 0 else v) e5) := by
        unfold f5_Ma_spreadOut
        rw [if_pos rfl, bv]
        by_cases q1 : v < 1
        · rw [if_pos q1, if_pos q1]; rfl
        · rw [if_neg q1, if_neg q1]
          by_cases q2 : (64 : Int32) < v
          · rw [if_pos q2, if_pos q2]; rfl
          · rw [if_neg q2, if_neg q2]; rfl
      have bad : (v < 1 ∨ 64 < v) → g5_act σ = g5_draw_65 σ4 → ∃ e' σ' r, f5_Ma_act e = .inl (e', ()) ∧ g5_act σ = (σ', r) ∧ FM6 e e' σ σ' ∧ AX6 nv w s d e e' σ σ' r := fun q eR => by
        rw [d65_6 w7] at eR
        have vz : (if v < 1 then 0 else if 64 < v then 0 else v) = 0 := by
          rcases q with q | q
          · rw [if_pos q]
          · rw [if_neg (by rw [lti] at q ⊢; have : (64 : Int32).toInt = 64 := rfl; have : (1 : Int32).toInt = 1 := rfl; omega), if_pos q]
        have s42 : f5_Ma_spreadOut_42 fu5 0 (fl6 716 0 e5) = f5_Ma_spreadOut_190 (fl6 716 0 e5) := by
          obtain ⟨m, hm⟩ : ∃ m, fu5 = m + 1 := ⟨fu5 - 1, by unfold fu5; omega⟩
          rw [hm, f5_Ma_spreadOut_42, if_pos (show (fl6 716 0 e5).1 maWays ≤ 0 by show (0 : Int32) ≤ 0; decide)]
        have ob : f5_Ma_obey (Int32.ofNat j) 1 e5 = .inl (fl6 711 2 (fl6 713 3 (fl6 717 0 (fl6 716 0 e5))), ()) := by
          unfold f5_Ma_obey
          rw [pb_e5, if_neg (by decide), if_pos (by decide), rb_u5, so, vz, s42, s190z_6 fl_s6]
        have c5 : f5_Ma_act e = .inl (fl6 711 2 (fl6 713 3 (fl6 717 0 (fl6 716 0 e5))), ()) := by
          rw [eC, a92_6 FN4 hj g713, k30, ← he5, ob, rdl_5]
          unfold tal6
          rw [if_pos (show (fl6 711 2 (fl6 713 3 (fl6 717 0 (fl6 716 0 e5)))).1 maWants = -1 by rw [he5]; exact g715), if_neg (show ¬ (fl6 711 2 (fl6 713 3 (fl6 717 0 (fl6 716 0 e5)))).1 maOutcome = 0 by show ¬ (2 : Int32) = 0; decide)]
        refine bad_6 (y := 3) (e4 := fl6 713 3 (fl6 717 0 (fl6 716 0 e5))) ?_ ?_ fl_s6 ?_ ?_ c5 eR rfl
        · refine MT_e6 MT0 (ME_t6 ME4 (ME_t6 (σ' := σ4) ?_ (ME_f6 WA_r6 (FB_s6 (by omega)))))
          rw [he5]
          exact ME_t6 (ME_t6 (ME_t6 (ME_t6 (ME_k6 (by decide)) (ME_k6 (by decide))) (ME_k6 (by decide))) (ME_k6 (by decide))) (ME_k6 (by decide))
        · refine FM_t6 FM4 (FM_t6 (σ' := σ4) ?_ (FM_f6 WA_r6 (FB_s6 (by omega))))
          rw [he5]
          exact FM_t6 (FM_t6 (FM_t6 (FM_t6 (FM_k6 (by decide)) (FM_k6 (by decide))) (FM_k6 (by decide))) (FM_k6 (by decide))) (FM_k6 (by decide))
        · rw [he5]; exact g714
        · rw [he5]; exact g715
      have l64 : (64 : Int32).toInt = 64 := rfl
      have l1 : (1 : Int32).toInt = 1 := rfl
      by_cases q1 : v < 1
      · rw [if_pos q1] at eR
        exact bad (Or.inl q1) eR
      · rw [if_neg q1] at eR
        by_cases q2 : v ≤ 64
        · rw [if_pos q2] at eR
          have q2' : ¬ 64 < v := by rw [lti]; rw [lei] at q2; omega
          rw [if_neg q1, if_neg q2'] at so
          rw [lti] at q1
          rw [lei] at q2
          obtain ⟨n, hn⟩ : ∃ n, n = v.toInt.toNat := ⟨_, rfl⟩
          have ev : v = Int32.ofNat n := Int32.toInt_inj.mp (by rw [ofn_i (by omega)]; omega)
          obtain ⟨e6, σ6, u1, u2, u3, u4, u5, u6, u7⟩ := pk1_6 (k := n) (by omega) fu5 fu5 0 (fl6 716 v e5) σ4 (by omega) (by unfold fu5; omega) (by unfold fu5; omega) (by rw [fl_s6]; exact ev) (fun i hi => by omega) t63'
          have u1 : f5_Ma_spreadOut_42 fu5 0 (fl6 716 v e5) = f5_Ma_spreadOut_190 e6 := u1
          have u2 : g5_draw_88 fu5 (Int32.ofNat n) 0 σ4 = g5_draw_228 σ6 := u2
          rw [ev, u2] at eR
          obtain ⟨e', σ', r, z1, z2, z3, z4⟩ := drE_6 (w := w) (d := d) (MT_e6 MT0 ME4) FN4 hj g708 (by rw [t67]; exact i2) g711 g713 g714 g715 t62 k30 (Or.inl rfl) (by rw [← he5, so, u1]) (by rw [← he5]; exact WW_t6 (WW_k6 (by decide)) u3) (by rw [u4, he5]; exact g715) (by rw [u4]; exact fl_s6.trans ev) (by omega) u5 u6 (by rw [u5.1 47 (by decide) (by decide)]; exact w7) u7
          exact ⟨e', σ', r, eC.trans z1, eR.trans z2, FM_t6 FM4 z3, z4.1, fun q => ME_t6 ME4 (z4.2 q)⟩
        · rw [if_neg q2] at eR
          exact bad (Or.inr (by rw [lti]; rw [lei] at q2; omega)) eR
    · rw [w1, rdl_5] at eC
      rw [w2, pm_e5] at eR
      dsimp only at eR
      rw [if_pos (y12_6 w5 w3).2, d65f_6 (y12_6 w5 w3).1] at eR
      have WA4 : WA6 e2 (wo6 0 e3) := WA_t6 (WA_w6 w6) WA_o6
      rw [a9f_6 (y := y) (show (wo6 0 e3).1 713 = y from w4) w3] at eC
      exact bad_6 (MT_e6 MT0 (ME_t6 ME3 (ME_f6 WA4 (FB_t6 (FB_f6 w7) (FB_s6 (by omega)))))) (FM_t6 FM3 (FM_f6 WA4 (FB_t6 (FB_f6 w7) (FB_s6 (by omega))))) w4 ((WA4.1 714 (by decide) (by decide) (by decide)).trans f714) ((WA4.1 715 (by decide) (by decide) (by decide)).trans f715) eC eR w5
  · rw [if_neg (y12_6 y3 y1).1] at eR
    have a55 : f5_Ma_act_55 fu5 (Int32.ofNat j) 1 0 e2 = f5_Ma_act_92 (Int32.ofNat j) e2 := a5f_6 (m := fu5 - 1) (n := 0) (k := 1) (y13_6 y2 y1)
    rw [a55, a9f_6 y2 y1] at eC
    exact bad_6 (MT_e6 MT0 (ME_t6 ME2 (ME_f6 WA_r6 (FB_s6 (by omega))))) (FM_t6 F2 (FM_f6 WA_r6 (FB_s6 (by omega)))) y2 f714 f715 eC eR y3
theorem ac4_6 {j x pc p1 p' a' : Nat} {e2 : E5} {σ2 : rS} (H : TR5 T X Bk N Z) (hE : T.2.1 (N - 1) = 142) (F : FN6 T Bk N nv na f s e σ) (M : MB6 nv w s d e σ) (d0 : 0 < d) (hw : (w : Int) = nv + (e.1 511).toInt) (hj : j < s) (at1 : e.2.1 701 (w + 9 * (d - 1)) = Int32.ofNat j) (at2 : σ.2.2.1 59 (d - 1) = Int32.ofNat j) (h711 : e.1 711 = 0) (hst : e.2.2 705 = 256) (hwk : e.2.2 707 = 16) (hsx : sx5 σ = X)
    (h32 : σ.2.2.1 32 j = Int32.ofNat (Bk + x)) (h3 : e.2.1 506 (11 * j + 3) = Int32.ofNat pc) (hk : σ.2.2.1 30 j = 4) (h0 : e.2.1 506 (11 * j) = 4) (h4 : e.2.1 506 (11 * j + 4) = 1) (am : f5_Ma_aim (Int32.ofNat j) (ab6 (Int32.ofNat pc) e) = .inl (e2, ())) (fp : g5_findPlace (Int32.ofNat j) (ar6b σ) = σ2) (A : AM6 nv w d p1 (ab6 (Int32.ofNat pc) e) e2 (ar6b σ) σ2) (hx : xe6 T Bk nv na e (σ.2.2.1 39) p1 (x + 2) p' a') (aN : a' < N) : ∃ e' σ' r, f5_Ma_act e = .inl (e', ()) ∧ g5_act σ = (σ', r) ∧ FM6 e e' σ σ' ∧ AX6 nv w s d e e' σ σ' r := by
  have MT0 : MT6 nv w s d e σ := ⟨M, j, hj, at1, at2⟩
  have hh := H.1
  have s150 := F.1.2.2.2.1.2
  have xa := hx.2.2
  have cj : (Int32.ofNat j).toNatClampNeg = j := cl_5 (by omega)
  obtain ⟨A1, A2, A3⟩ := A
  obtain ⟨eC, eR, F2, M2, ⟨f714, f715, f711, s62, s46⟩, hsx2, hw2, ME2⟩ := pre_6 F M d0 hw hj at1 at2 h711 hsx h3 (Or.inr hk) h4 am fp A1 A2
  have FN2 := FN_m6 F F2
  have rl : e2.2.2 = e.2.2 := A1.2.2
  have r506 : e2.2.1 506 = e.2.1 506 := A1.2.1 506 (by decide) (by decide)
  rcases A3 with ⟨i, i1, i2, i3, i4, i5, i6⟩ | ⟨y, y1, y2, y3⟩
  · rw [if_pos (show σ2.1 47 ≤ 0 by rw [i5]; decide), hk] at eR
    have w32 : σ2.2.2.1 32 j = Int32.ofNat (Bk + x) := by rw [F2.2.2.1 32 (by decide)]; exact h32
    have t2 : Int32.ofNat (Bk + x) + 2 = Int32.ofNat (Bk + (x + 2)) := on_5 (b := 2) (by omega)
    unfold g5_act_81 at eR
    rw [if_neg (show ¬ (4 : Int32) = 3 by decide), if_pos rfl, pmq_6] at eR
    unfold g5_choose at eR
    rw [cj, w32, t2] at eR
    have a55 : f5_Ma_act_55 fu5 (Int32.ofNat j) 1 0 e2 = rdB5 (f5_Ma_work e2) (fun e1 v => f5_Ma_act_92 (Int32.ofNat j) (wo6 v e1)) := a55_6 (m := fu5 - 2) (by rw [rl]; exact hwk) i4
    rw [a55] at eC
    have xw := xw_6 H hE FN2 M2 d0 hw2 (xe_n6 hx F2) aN i3 (by rw [rl]; exact hst) ⟨FN2.2.1.1, s46, i5⟩ i6 hsx2
    rcases xw with ⟨e3, σ4, v, w1, w2, w3, w4, w5, w6, w7, w8, w9⟩ | ⟨e3, σ4, v, y, w1, w2, w3, w4, w5, w6, w7⟩
    · rw [w1, rdl_5] at eC
      rw [w2, pm_e5] at eR
      dsimp only at eR
      rw [if_neg (show ¬ 0 < σ4.1 47 by rw [w7]; decide)] at eR
      have WA4 : WA6 e2 (wo6 v e3) := WA_t6 (WA_w6 w5) WA_o6
      have FB4 : FB6 σ2 σ4 := FB_f6 w9
      have FN4 := FN_m6 FN2 (FM_f6 WA4 FB4)
      have FM4 : FM6 e (wo6 v e3) σ σ4 := FM_t6 F2 (FM_f6 WA4 FB4)
      have ME4 : ME6 e (wo6 v e3) σ σ4 := ME_t6 ME2 (ME_f6 WA4 FB4)
      have v707 : (wo6 v e3).2.1 707 0 = v := by
        show (if 707 = 707 ∧ 0 = 0 then v else e3.2.1 707 0) = v
        rw [if_pos ⟨rfl, rfl⟩]
      have g708 : (wo6 v e3).1 708 = Int32.ofNat i := (w5.1 708 (by decide) (by decide)).trans i1
      have g713 : (wo6 v e3).1 713 = 0 := w4.trans i4
      have g714 : (wo6 v e3).1 714 = 0 := (WA4.1 714 (by decide) (by decide) (by decide)).trans f714
      have g715 : (wo6 v e3).1 715 = -1 := (WA4.1 715 (by decide) (by decide) (by decide)).trans f715
      have g711 : (wo6 v e3).1 711 = 0 := (WA4.1 711 (by decide) (by decide) (by decide)).trans f711
      have k30 : (wo6 v e3).2.1 506 (11 * j) = 4 := by rw [WA4.2.1 506 (by decide) (by decide), r506]; exact h0
      have t62 : σ4.1 62 = 0 := (FB4.1 62 (by decide) (by decide) (by decide) (by decide) (by decide) (by decide) (by decide) (by decide)).trans s62
      have t67 : σ4.1 67 = σ2.1 67 := FB4.1 67 (by decide) (by decide) (by decide) (by decide) (by decide) (by decide) (by decide) (by decide)
      generalize wo6 v e3 = e4 at eC WA4 FM4 ME4 FN4 v707 g708 g713 g714 g715 g711 k30
      obtain ⟨e5, he5⟩ : ∃ e5, e5 = fl6 710 0 (fl6 709 (σ4.2.2.1 37 j) e4) := ⟨_, rfl⟩
      have bv : e5.2.1 maWorked (0 : Int32).toNatClampNeg = v := by rw [he5]; exact v707
      have FM5 : FM6 e4 e5 σ4 σ4 := by rw [he5]; exact FM_t6 (FM_k6 (by decide)) (FM_k6 (by decide))
      have ME5 : ME6 e4 e5 σ4 σ4 := by rw [he5]; exact ME_t6 (ME_k6 (by decide)) (ME_k6 (by decide))
      have b708 : e5.1 708 = Int32.ofNat i := by rw [he5]; exact g708
      have b711 : e5.1 711 = 0 := by rw [he5]; exact g711
      have b714 : e5.1 714 = 0 := by rw [he5]; exact g714
      have b715 : e5.1 715 = -1 := by rw [he5]; exact g715
      rw [a92_6 FN4 hj g713, k30, ← he5] at eC
      clear he5
      have ob : f5_Ma_obey (Int32.ofNat j) 4 e5 = f5_Ma_offer v e5 := by
        unfold f5_Ma_obey
        rw [pb_e5, bv, if_neg (by decide), if_neg (by decide), if_neg (by decide), if_neg (by decide), if_pos (by decide), rb_u5]
      rw [ob] at eC
      have l8 : (8 : Int32).toInt = 8 := rfl
      have l1 : (1 : Int32).toInt = 1 := rfl
      have bad : f5_Ma_offer v e5 = .inl (fl6 711 2 (fl6 713 5 e5), ()) → g5_act σ = g5_choose_31 σ4 → ∃ e' σ' r, f5_Ma_act e = .inl (e', ()) ∧ g5_act σ = (σ', r) ∧ FM6 e e' σ σ' ∧ AX6 nv w s d e e' σ σ' r := fun q eR => by
        rw [c31_6 w7] at eR
        have c5 : f5_Ma_act e = .inl (fl6 711 2 (fl6 713 5 e5), ()) := by
          rw [eC, q, rdl_5]
          unfold tal6
          rw [if_pos (show (fl6 711 2 (fl6 713 5 e5)).1 maWants = -1 from b715), if_neg (show ¬ (fl6 711 2 (fl6 713 5 e5)).1 maOutcome = 0 by show ¬ (2 : Int32) = 0; decide)]
        exact bad_6 (y := 5) (e4 := fl6 713 5 e5) (MT_e6 MT0 (ME_t6 ME4 (ME_t6 ME5 (ME_t6 (σ' := σ4) (ME_k6 (by decide)) (ME_f6 WA_r6 (FB_s6 (by omega))))))) (FM_t6 FM4 (FM_t6 FM5 (FM_t6 (σ' := σ4) (FM_k6 (by decide)) (FM_f6 WA_r6 (FB_s6 (by omega)))))) fl_s6 b714 b715 c5 eR rfl
      by_cases q1 : v < 1
      · rw [if_pos q1] at eR
        refine bad ?_ eR
        unfold f5_Ma_offer
        rw [if_pos q1, rb_u5]
        rfl
      · rw [if_neg q1] at eR
        by_cases q2 : v ≤ 8
        · rw [if_pos q2, pb_e5] at eR
          have of : f5_Ma_offer v e5 = f5_Ma_offer_29 fu5 v 0 (fl6 717 0 (fl6 716 v e5)) := by
            unfold f5_Ma_offer
            rw [if_neg q1, if_pos q2, st_f6, rdl_5, st_f6, rdl_5]
          rw [lti] at q1
          rw [lei] at q2
          obtain ⟨n, hn⟩ : ∃ n, n = v.toInt.toNat := ⟨_, rfl⟩
          have ev : v = Int32.ofNat n := Int32.toInt_inj.mp (by rw [ofn_i (by omega)]; omega)
          obtain ⟨e', σ', u1, u2, u3, u4, u5, u6, u7, u8, u9⟩ := of_6 (k := n) (by omega) fu5 fu5 0 (fl6 717 0 (fl6 716 v e5)) (siU σ4 63 0) (by omega) (by unfold fu5; omega) (by unfold fu5; omega) (fun i hi => by omega) rfl
          have u1 : f5_Ma_offer_29 fu5 (Int32.ofNat n) 0 (fl6 717 0 (fl6 716 v e5)) = .inl (e', ()) := u1
          have u2 : g5_choose_58 fu5 (Int32.ofNat n) 0 (siU σ4 63 0) = (σ', 5) := u2
          rw [← ev] at u1 u2
          rw [u2] at eR
          rw [of, u1, rdl_5] at eC
          unfold tal6 at eC
          rw [if_neg (show ¬ e'.1 maWants = -1 by show ¬ e'.1 715 = -1; rw [u5]; decide)] at eC
          have FB' : FB6 σ4 σ' := FB_t6 (FB_s6 (by omega)) (FB_w6 u4)
          have ME9 : ME6 e e' σ σ' := ME_t6 ME4 (ME_t6 ME5 ⟨⟨(u6 702 (by decide)).trans ((fl_o6 (by omega)).trans (fl_o6 (by omega))), (u6 703 (by decide)).trans ((fl_o6 (by omega)).trans (fl_o6 (by omega))), (u6 704 (by decide)).trans ((fl_o6 (by omega)).trans (fl_o6 (by omega))), u3.2.1 701 (by decide) (by decide), u3.2.2⟩, (ME_f6 (e := e) WA_r6 FB').2⟩)
          refine ⟨e', σ', 5, eC, eR, FM_t6 FM4 (FM_t6 FM5 ⟨⟨fun g q => (u6 g (by omega)).trans ((fl_o6 (by omega)).trans (fl_o6 (by omega))), fun g q => u3.2.1 g (by omega) (by omega), u3.2.2⟩, (FM_f6 (e := e) WA_r6 FB').2⟩), ⟨Or.inr ⟨⟨Or.inr ⟨rfl, u5⟩, (u6 711 (by decide)).trans b711, ?_, ?_, ⟨n, by omega, (u6 716 (by decide)).trans (show (fl6 717 0 (fl6 716 v e5)).1 716 = _ from ev), u7, u9⟩, i, (u6 708 (by decide)).trans b708, ?_⟩, (u6 714 (by decide)).trans b714, MT_e6 MT0 ME9⟩, fun _ => ME9⟩⟩
          · rw [u6 714 (by decide)]
            show e5.1 714 = _
            rw [b714, FB'.1 62 (by decide) (by decide) (by decide) (by decide) (by decide) (by decide) (by decide) (by decide), t62]
          · rw [u6 717 (by decide), u8]
            rfl
          · rw [FB'.1 67 (by decide) (by decide) (by decide) (by decide) (by decide) (by decide) (by decide) (by decide), t67]; exact i2
        · rw [if_neg q2] at eR
          refine bad ?_ eR
          unfold f5_Ma_offer
          rw [if_neg q1, if_neg q2, rb_u5]
          rfl
    · rw [w1, rdl_5] at eC
      rw [w2, pm_e5] at eR
      dsimp only at eR
      rw [if_pos (y12_6 w5 w3).2, c31f_6 (y12_6 w5 w3).1] at eR
      have WA4 : WA6 e2 (wo6 0 e3) := WA_t6 (WA_w6 w6) WA_o6
      rw [a9f_6 (y := y) (show (wo6 0 e3).1 713 = y from w4) w3] at eC
      exact bad_6 (MT_e6 MT0 (ME_t6 ME2 (ME_f6 WA4 (FB_t6 (FB_f6 w7) (FB_s6 (by omega)))))) (FM_t6 F2 (FM_f6 WA4 (FB_t6 (FB_f6 w7) (FB_s6 (by omega))))) w4 ((WA4.1 714 (by decide) (by decide) (by decide)).trans f714) ((WA4.1 715 (by decide) (by decide) (by decide)).trans f715) eC eR w5
  · rw [if_neg (y12_6 y3 y1).1] at eR
    have a55 : f5_Ma_act_55 fu5 (Int32.ofNat j) 1 0 e2 = f5_Ma_act_92 (Int32.ofNat j) e2 := a5f_6 (m := fu5 - 1) (n := 0) (k := 1) (y13_6 y2 y1)
    rw [a55, a9f_6 y2 y1] at eC
    exact bad_6 (MT_e6 MT0 (ME_t6 ME2 (ME_f6 WA_r6 (FB_s6 (by omega))))) (FM_t6 F2 (FM_f6 WA_r6 (FB_s6 (by omega)))) y2 f714 f715 eC eR y3
end

end
section
set_option maxHeartbeats 1600000
/-! both machines: flip and spread -/
theorem outr_6 {n : Nat} {x y : Int32} {σ : rS} (h63 : σ.1 63 = Int32.ofNat n) (hn : n ≤ 1000) : (∀ i, (g5_outcome x y σ).2.2.1 64 i = if i = n then x else σ.2.2.1 64 i) ∧ (∀ i, (g5_outcome x y σ).2.2.1 65 i = if i = n then y else σ.2.2.1 65 i) ∧ (g5_outcome x y σ).1 63 = Int32.ofNat (n + 1) ∧ FW6 σ (g5_outcome x y σ) := by
  have cn : (σ.1 63).toNatClampNeg = n := cln_6 h63 (by omega)
  have eo : g5_outcome x y σ = siU (riU (riU σ 64 (σ.1 63).toNatClampNeg x) 65 (σ.1 63).toNatClampNeg y) 63 (σ.1 63 + 1) := rfl
  rw [eo, cn]
  refine ⟨fun i => ?_, fun i => ?_, ?_, ⟨fun g q _ => ?_, rfl, fun g q1 q2 => ?_, rfl⟩⟩
  · show (riU (riU σ 64 n x) 65 n y).2.2.1 64 i = _
    rw [ri_o6 (by decide), ri_s6]
  · show (riU (riU σ 64 n x) 65 n y).2.2.1 65 i = _
    rw [ri_s6, ri_o6 (by decide)]
  · rw [si1, if_pos rfl, h63, on_15 (by omega)]
  · rw [si1, if_neg q]
    rfl
  · show (riU (riU σ 64 n x) 65 n y).2.2.1 g = _
    rw [ri_o6 q2, ri_o6 q1]
theorem wa_v6 {n i : Nat} {x y : Int32} {e : E5} : (wa6 n x y e).2.1 718 i = (if i = n then x else e.2.1 718 i) ∧ (wa6 n x y e).2.1 719 i = if i = n then y else e.2.1 719 i := by
  refine ⟨?_, ?_⟩
  · show (if 718 = 719 ∧ i = n then y else if 718 = 718 ∧ i = n then x else e.2.1 718 i) = _
    rw [if_neg (show ¬ (718 = 719 ∧ i = n) from fun z => absurd z.1 (by decide))]
    by_cases q : i = n
    · rw [if_pos (show 718 = 718 ∧ i = n from ⟨rfl, q⟩), if_pos q]
    · rw [if_neg (show ¬ (718 = 718 ∧ i = n) from fun z => q z.2), if_neg q]
  · show (if 719 = 719 ∧ i = n then y else if 719 = 718 ∧ i = n then x else e.2.1 719 i) = _
    by_cases q : i = n
    · rw [if_pos (show 719 = 719 ∧ i = n from ⟨rfl, q⟩), if_pos q]
    · rw [if_neg (show ¬ (719 = 719 ∧ i = n) from fun z => q z.2), if_neg (show ¬ (719 = 718 ∧ i = n) from fun z => q z.2), if_neg q]
theorem wy2_6 {x0 y0 x1 y1 : Int32} {e : E5} {σ : rS} (h1 : σ.2.2.1 64 0 = x0) (h2 : σ.2.2.1 65 0 = y0) (h3 : σ.2.2.1 64 1 = x1) (h4 : σ.2.2.1 65 1 = y1) : WY6 2 (wa6 1 x1 y1 (wa6 0 x0 y0 e)) σ := fun k hk => by
  obtain ⟨a1, a2⟩ := wa_v6 (n := 1) (i := k) (x := x1) (y := y1) (e := wa6 0 x0 y0 e)
  obtain ⟨b1, b2⟩ := wa_v6 (n := 0) (i := k) (x := x0) (y := y0) (e := e)
  rw [a1, a2, b1, b2]
  by_cases k1 : k = 1
  · rw [if_pos k1, if_pos k1, k1]
    exact ⟨h3.symm, h4.symm⟩
  · have k0 : k = 0 := by omega
    rw [if_neg k1, if_neg k1, if_pos k0, if_pos k0, k0]
    exact ⟨h1.symm, h2.symm⟩
theorem vw_6 {n : Nat} {x : Int32} {y : E5 → Int32} {e : E5} {k : E5 → R5 Unit} : rdB5 (sa5 maValues n x e) (fun e1 _ => rdB5 (sa5 maWeights n (y e1) e1) (fun e2 _ => k e2)) = k (wa6 n x (y (e.1, fun g j => if g = 718 ∧ j = n then x else e.2.1 g j, e.2.2)) e) := rfl
theorem wa_w6 {n i : Nat} {x y : Int32} {e : E5} : (wa6 n x y e).2.1 707 i = e.2.1 707 i := by
  show (if 707 = 719 ∧ i = n then y else if 707 = 718 ∧ i = n then x else e.2.1 707 i) = _
  rw [if_neg (show ¬ (707 = 719 ∧ i = n) from fun z => absurd z.1 (by decide)), if_neg (show ¬ (707 = 718 ∧ i = n) from fun z => absurd z.1 (by decide))]
theorem so2_6 {j : Int32} {e : E5} : f5_Ma_spreadOut j 2 e = f5_Ma_spreadOut_190 (wa6 1 0 (e.2.1 707 1) (wa6 0 1 (e.2.1 707 0) (fl6 716 2 e))) := by
  have c0 : (0 : Int32).toNatClampNeg = 0 := rfl
  have c1 : (1 : Int32).toNatClampNeg = 1 := rfl
  unfold f5_Ma_spreadOut
  rw [if_neg (show ¬ (2 : Int32) = 1 by decide), if_pos rfl, st_f6, rdl_5, c0, c1]
  have z1 := vw_6 (n := 0) (x := 1) (y := fun e9 => e9.2.1 maWorked 0) (e := fl6 maWays 2 e) (k := fun e11 => rdB5 (sa5 maValues 1 0 e11) (fun e13 _ => rdB5 (sa5 maWeights 1 (e13.2.1 maWorked 1) e13) (fun e15 _ => f5_Ma_spreadOut_190 e15)))
  refine z1.trans ?_
  have y0 : (((fl6 maWays 2 e).1, fun g j => if g = 718 ∧ j = 0 then 1 else (fl6 maWays 2 e).2.1 g j, (fl6 maWays 2 e).2.2) : E5).2.1 maWorked 0 = e.2.1 707 0 := by
    show (if 707 = 718 ∧ 0 = 0 then (1 : Int32) else e.2.1 707 0) = _
    rw [if_neg (show ¬ (707 = 718 ∧ 0 = 0) from fun z => absurd z.1 (by decide))]
  rw [y0]
  show rdB5 (sa5 maValues 1 0 (wa6 0 1 (e.2.1 707 0) (fl6 maWays 2 e))) (fun e13 _ => rdB5 (sa5 maWeights 1 (e13.2.1 maWorked 1) e13) (fun e15 _ => f5_Ma_spreadOut_190 e15)) = _
  have z2 := vw_6 (n := 1) (x := 0) (y := fun e9 => e9.2.1 maWorked 1) (e := wa6 0 1 (e.2.1 707 0) (fl6 maWays 2 e)) (k := f5_Ma_spreadOut_190)
  refine z2.trans ?_
  have y1 : ∀ e8 : E5, ((e8.1, fun g j => if g = 718 ∧ j = 1 then 0 else e8.2.1 g j, e8.2.2) : E5).2.1 maWorked 1 = e8.2.1 707 1 := fun e8 => by
    show (if 707 = 718 ∧ 1 = 1 then (0 : Int32) else e8.2.1 707 1) = _
    rw [if_neg (show ¬ (707 = 718 ∧ 1 = 1) from fun z => absurd z.1 (by decide))]
  rw [y1, wa_w6]
  rfl
theorem d162f_6 {m : Nat} {c : Int32} {σ : rS} (h : ¬ σ.1 47 = 0) : g5_draw_162 (m + 1) c σ = g5_draw_228 σ := by
  rw [g5_draw_162, if_neg h]
  by_cases q : c = 0
  · rw [if_pos q]
  · rw [if_neg q]
/-- what working out several numbers changes of the class -/
def WB6 (e e' : E5) : Prop := (∀ g, g ≠ 706 → g ≠ 713 → e'.1 g = e.1 g) ∧ (∀ g, g ≠ 705 → g ≠ 707 → e'.2.1 g = e.2.1 g) ∧ e'.2.2 = e.2.2
theorem WB_r6 {e : E5} : WB6 e e := ⟨fun _ _ _ => rfl, fun _ _ _ => rfl, rfl⟩
theorem WB_t6 {a b c : E5} (h : WB6 a b) (k : WB6 b c) : WB6 a c := ⟨fun g x z => (k.1 g x z).trans (h.1 g x z), fun g x y => (k.2.1 g x y).trans (h.2.1 g x y), k.2.2.trans h.2.2⟩
theorem WB_n6 {n : Nat} {v : Int32} {a b : E5} (h : W6 a b) : WB6 a (wn6 n v b) := ⟨fun g x z => h.1 g x z, fun g x q => by
  rw [← h.2.1 g x]
  funext j
  exact if_neg (fun y => q y.1), h.2.2⟩
theorem WA_b6 {a b : E5} (h : WB6 a b) : WA6 a b := ⟨fun g x _ z => h.1 g x z, h.2.1, h.2.2⟩
section
variable {T : T5} {X : X5} {Bk N nv na f s w d : Nat} {Z : Int32} {e e' : E5} {σ σ' : rS}
theorem sp_n6 {n p a p' a' : Nat} (hx : sp6 T Bk nv na e (σ.2.2.1 39) n p a p' a') (k : FM6 e e' σ σ') : sp6 T Bk nv na e' (σ'.2.2.1 39) n p a p' a' :=
  sp_m6 (cm_e6 (k.1.1 515 (by decide)) (k.1.2.1 507 (by decide)) (k.1.2.1 508 (by decide))) (Nat.le_refl _) (Nat.le_refl _) hx (fun t _ _ _ _ => by rw [k.2.2.1 39 (by decide)])
theorem xs_n6 {n p a p' a' : Nat} (hx : xs6 T Bk nv na e (σ.2.2.1 39) n p a p' a') (k : FM6 e e' σ σ') : xs6 T Bk nv na e' (σ'.2.2.1 39) n p a p' a' :=
  xs_m6 (cm_e6 (k.1.1 515 (by decide)) (k.1.2.1 507 (by decide)) (k.1.2.1 508 (by decide))) (Nat.le_refl _) (Nat.le_refl _) hx (fun t _ _ _ _ => by rw [k.2.2.1 39 (by decide)])
theorem FB_ok6 (h : ok6 σ) (k : FB6 σ σ') (h47 : σ'.1 47 = 0) (h11 : σ'.1 11 = 0) : ok6 σ' := ⟨h11, (k.1 46 (by decide) (by decide) (by decide) (by decide) (by decide) (by decide) (by decide) (by decide)).trans h.2.1, h47⟩
theorem fl3_6 {j x pc p1 p2 a2 p' a' : Nat} {e2 : E5} {σ2 : rS} (H : TR5 T X Bk N Z) (hE : T.2.1 (N - 1) = 142) (F : FN6 T Bk N nv na f s e σ) (M : MB6 nv w s d e σ) (d0 : 0 < d) (hw : (w : Int) = nv + (e.1 511).toInt) (hj : j < s) (at1 : e.2.1 701 (w + 9 * (d - 1)) = Int32.ofNat j) (at2 : σ.2.2.1 59 (d - 1) = Int32.ofNat j) (h711 : e.1 711 = 0) (hst : e.2.2 705 = 256) (hwk : e.2.2 707 = 16) (hsx : sx5 σ = X)
    (h32 : σ.2.2.1 32 j = Int32.ofNat (Bk + x)) (h3 : e.2.1 506 (11 * j + 3) = Int32.ofNat pc) (hk : σ.2.2.1 30 j = 3) (h0 : e.2.1 506 (11 * j) = 2) (h4 : e.2.1 506 (11 * j + 4) = 2) (hT : T.2.1 x = 161) (am : f5_Ma_aim (Int32.ofNat j) (ab6 (Int32.ofNat pc) e) = .inl (e2, ())) (fp : g5_findPlace (Int32.ofNat j) (ar6b σ) = σ2) (A : AM6 nv w d p1 (ab6 (Int32.ofNat pc) e) e2 (ar6b σ) σ2) (hx : xe6 T Bk nv na e (σ.2.2.1 39) p1 (x + 2) p2 a2) (hx2 : xe6 T Bk nv na e (σ.2.2.1 39) p2 (a2 + 1) p' a') (aN : a' < N) : ∃ e' σ' r, f5_Ma_act e = .inl (e', ()) ∧ g5_act σ = (σ', r) ∧ FM6 e e' σ σ' ∧ AX6 nv w s d e e' σ σ' r := by
  have MT0 : MT6 nv w s d e σ := ⟨M, j, hj, at1, at2⟩
  have hh := H.1
  obtain ⟨m, hm⟩ : ∃ m, fu5 = m + 3 := ⟨fu5 - 3, by unfold fu5; omega⟩
  have s150 := F.1.2.2.2.1.2
  have xa := hx.2.2
  have xa2 := hx2.2.2
  obtain ⟨A1, A2, A3⟩ := A
  obtain ⟨eC, eR, F2, M2, ⟨f714, f715, f711, s62, s46⟩, hsx2, hw2, ME2⟩ := pre_6 F M d0 hw hj at1 at2 h711 hsx h3 (Or.inl hk) h4 am fp A1 A2
  have FN2 := FN_m6 F F2
  have rl : e2.2.2 = e.2.2 := A1.2.2
  have r506 : e2.2.1 506 = e.2.1 506 := A1.2.1 506 (by decide) (by decide)
  rcases A3 with ⟨i, i1, i2, i3, i4, i5, i6⟩ | ⟨y, y1, y2, y3⟩
  · rw [if_pos (show σ2.1 47 ≤ 0 by rw [i5]; decide), hk] at eR
    obtain ⟨σ3, d1, B3, FN3, M3, hsx3, ok3, t13, t10, t63⟩ := drs_6 (x := x) FN2 M2 hj (by rw [F2.2.2.1 32 (by decide)]; exact h32) s46 i5 i6 hsx2
    rw [d1] at eR
    have FM3 : FM6 e e2 σ σ3 := FM_t6 F2 (FM_f6 WA_r6 B3)
    have ME3 : ME6 e e2 σ σ3 := ME_t6 ME2 (ME_f6 WA_r6 B3)
    have t2 : σ3.1 10 + 2 = Int32.ofNat (Bk + (x + 2)) := by rw [t10]; exact on_5 (b := 2) (by omega)
    unfold dr6 at eR
    rw [pb_e5, pb_e5, iw_6 (c := 11) (k := 160) H hsx3 (by omega) t10 (by decide) (by decide) (by decide), if_neg (show ¬ T.2.1 x = 160 by rw [hT]; decide), if_pos rfl, iw_6 (c := 12) (k := 161) H hsx3 (by omega) t10 (by decide) (by decide) (by decide), if_pos hT, if_neg (show ¬ (1 : Int32) = 0 by decide), t2] at eR
    have a55 : f5_Ma_act_55 (m + 3) (Int32.ofNat j) 2 0 e2 = rdB5 (f5_Ma_work e2) (fun e1 v => f5_Ma_act_55 (m + 2) (Int32.ofNat j) (Int32.ofNat 2) (Int32.ofNat 1) (wn6 0 v e1)) := a5s_6 (m := m + 2) (n := 0) (k := 2) (by rw [rl]; exact hwk) i4 (by omega) (by omega)
    rw [hm, a55] at eC
    have xw := xw_6 H hE FN3 M3 d0 hw2 (xe_n6 hx FM3) (by omega) i3 (by rw [rl]; exact hst) ok3 t13 hsx3
    -- a failure y: both fail
    have bad : ∀ (e4 : E5) (σ5 : rS) (y : Int32), (y = 1 ∨ y = 2) → WB6 e2 e4 → FB6 σ3 σ5 → e4.1 713 = y → σ5.1 47 = y → σ5.1 63 = Int32.ofNat 2 → f5_Ma_act e = f5_Ma_act_92 (Int32.ofNat j) e4 → g5_act σ = g5_draw_228 σ5 → ∃ e' σ' r, f5_Ma_act e = .inl (e', ()) ∧ g5_act σ = (σ', r) ∧ FM6 e e' σ σ' ∧ AX6 nv w s d e e' σ σ' r := fun e4 σ5 y hy W4 B5 q713 q47 q63 eC eR => by
      obtain ⟨σ', z1, z2, z3, z4⟩ := sf1_6 (σ := σ5) (n := 2) (by omega) q63 (y12_6 q47 hy).1
      rw [z1] at eR
      rw [a9f_6 q713 hy] at eC
      exact bad_6 (MT_e6 MT0 (ME_t6 ME3 (ME_f6 (WA_b6 W4) (FB_t6 B5 (FB_o6 z3 z4))))) (FM_t6 FM3 (FM_f6 (WA_b6 W4) (FB_t6 B5 (FB_o6 z3 z4)))) q713 ((W4.1 714 (by decide) (by decide)).trans f714) ((W4.1 715 (by decide) (by decide)).trans f715) eC eR (z2.trans q47)
    rcases xw with ⟨e3, σ4, v, w1, w2, w3, w4, w5, w6, w7, w8, w9⟩ | ⟨e3, σ4, v, y, w1, w2, w3, w4, w5, w6, w7⟩
    · rw [w1, rdl_5] at eC
      rw [w2, pm_e5] at eR
      dsimp only at eR
      rw [pb_e5] at eR
      obtain ⟨o1, o2, o3, o4⟩ := outr_6 (x := 1) (y := v) (σ := σ4) (n := 0) ((w9.1 63 (by decide) (by decide) (by decide) (by decide) (by decide)).trans t63) (by omega)
      have B5 : FB6 σ3 (g5_outcome 1 v σ4) := FB_t6 (FB_f6 w9) (FB_w6 o4)
      have p47 : (g5_outcome 1 v σ4).1 47 = 0 := (o4.1 47 (by decide) (by decide)).trans w7
      have p10 : (g5_outcome 1 v σ4).1 10 + 1 = Int32.ofNat (Bk + (a2 + 1)) := by
        rw [o4.1 10 (by decide) (by decide), w6]
        exact on_15 (by omega)
      have p13 : (g5_outcome 1 v σ4).1 13 = 0 := (o4.1 13 (by decide) (by decide)).trans w8
      generalize g5_outcome 1 v σ4 = σ5 at eR o1 o2 o3 o4 B5 p47 p10 p13
      rw [if_pos (show σ5.1 47 ≤ 0 by rw [p47]; decide), p10] at eR
      have WB4 : WB6 e2 (wn6 0 v e3) := WB_n6 w5
      have q707 : (wn6 0 v e3).2.1 707 0 = v := by rw [wn_s6, if_pos rfl]
      have q713 : (wn6 0 v e3).1 713 = 0 := w4.trans i4
      have q706 : (wn6 0 v e3).1 706 = Int32.ofNat p2 := w3
      generalize wn6 0 v e3 = e4 at eC WB4 q707 q713 q706
      have FM5 : FM6 e2 e4 σ3 σ5 := FM_f6 (WA_b6 WB4) B5
      have ME5 : ME6 e2 e4 σ3 σ5 := ME_f6 (WA_b6 WB4) B5
      have FN5 := FN_m6 FN3 FM5
      have M5 := MB_f6 M3 (WA_b6 WB4) B5
      have rl4 : e4.2.2 = e.2.2 := WB4.2.2.trans rl
      have hw4 : (w : Int) = nv + (e4.1 511).toInt := by rw [WB4.1 511 (by decide) (by decide)]; exact hw2
      have a55b : f5_Ma_act_55 (m + 2) (Int32.ofNat j) (Int32.ofNat 2) (Int32.ofNat 1) e4 = rdB5 (f5_Ma_work e4) (fun e1 v => f5_Ma_act_55 (m + 1) (Int32.ofNat j) (Int32.ofNat 2) (Int32.ofNat 2) (wn6 1 v e1)) := a5s_6 (m := m + 1) (n := 1) (k := 2) (by rw [rl4]; exact hwk) q713 (by omega) (by omega)
      rw [a55b] at eC
      have xw2 := xw_6 H hE FN5 M5 d0 hw4 (xe_n6 hx2 (FM_t6 FM3 FM5)) aN q706 (by rw [rl4]; exact hst) (FB_ok6 ok3 B5 p47 FN5.2.1.1) p13 (sx_f6 B5 hsx3)
      rcases xw2 with ⟨e5, σ6, v2, x1, x2, x3, x4, x5, x6, x7, x8, x9⟩ | ⟨e5, σ6, v2, y, x1, x2, x3, x4, x5, x6, x7⟩
      · rw [x1, rdl_5] at eC
        rw [x2, pm_e5] at eR
        dsimp only at eR
        rw [pb_e5] at eR
        obtain ⟨r1, r2, r3, r4⟩ := outr_6 (x := 0) (y := v2) (σ := σ6) (n := 1) ((x9.1 63 (by decide) (by decide) (by decide) (by decide) (by decide)).trans o3) (by omega)
        have a55c : f5_Ma_act_55 (m + 1) (Int32.ofNat j) (Int32.ofNat 2) (Int32.ofNat 2) (wn6 1 v2 e5) = f5_Ma_act_92 (Int32.ofNat j) (wn6 1 v2 e5) := a5e_6 (m := m) (n := 2) (k := 2) (by omega) (by omega)
        rw [a55c] at eC
        have WB6' : WB6 e4 (wn6 1 v2 e5) := WB_n6 x5
        have WB := WB_t6 WB4 WB6'
        have B6 : FB6 σ3 σ6 := FB_t6 B5 (FB_f6 x9)
        have FM6' : FM6 e2 (wn6 1 v2 e5) σ3 σ6 := FM_f6 (WA_b6 WB) B6
        have FN6' := FN_m6 FN3 FM6'
        have g707a : (wn6 1 v2 e5).2.1 707 0 = v := by rw [wn_s6, if_neg (by decide), x5.2.1 707 (by decide)]; exact q707
        have g707b : (wn6 1 v2 e5).2.1 707 1 = v2 := by rw [wn_s6, if_pos rfl]
        have g708 : (wn6 1 v2 e5).1 708 = Int32.ofNat i := (WB.1 708 (by decide) (by decide)).trans i1
        have g711 : (wn6 1 v2 e5).1 711 = 0 := (WB.1 711 (by decide) (by decide)).trans f711
        have g713 : (wn6 1 v2 e5).1 713 = 0 := x4.trans q713
        have g714 : (wn6 1 v2 e5).1 714 = 0 := (WB.1 714 (by decide) (by decide)).trans f714
        have g715 : (wn6 1 v2 e5).1 715 = -1 := (WB.1 715 (by decide) (by decide)).trans f715
        have k30 : (wn6 1 v2 e5).2.1 506 (11 * j) = 2 := by rw [WB.2.1 506 (by decide) (by decide), r506]; exact h0
        generalize wn6 1 v2 e5 = e7 at eC WB6' WB FM6' FN6' g707a g707b g708 g711 g713 g714 g715 k30
        have B26 : FB6 σ2 σ6 := FB_t6 B3 B6
        have t62 : σ6.1 62 = 0 := (B26.1 62 (by decide) (by decide) (by decide) (by decide) (by decide) (by decide) (by decide) (by decide)).trans s62
        have t67 : σ6.1 67 = σ2.1 67 := B26.1 67 (by decide) (by decide) (by decide) (by decide) (by decide) (by decide) (by decide) (by decide)
        obtain ⟨e9, he9⟩ : ∃ e9, e9 = fl6 710 0 (fl6 709 (σ6.2.2.1 37 j) e7) := ⟨_, rfl⟩
        have h9a : e9.2.1 707 0 = v := by rw [he9]; exact g707a
        have h9b : e9.2.1 707 1 = v2 := by rw [he9]; exact g707b
        have so9 := so2_6 (j := Int32.ofNat j) (e := e9)
        rw [h9a, h9b] at so9
        have wy9 : WY6 2 (wa6 1 0 v2 (wa6 0 1 v (fl6 716 2 e9))) (g5_outcome 0 v2 σ6) := by
          refine wy2_6 ?_ ?_ ?_ ?_
          · rw [r1 0, if_neg (show ¬ (0 : Nat) = 1 by decide), x9.2.2.1 64 (by decide) (by decide) (by decide), o1 0, if_pos rfl]
          · rw [r2 0, if_neg (show ¬ (0 : Nat) = 1 by decide), x9.2.2.1 65 (by decide) (by decide) (by decide), o2 0, if_pos rfl]
          · rw [r1 1, if_pos rfl]
          · rw [r2 1, if_pos rfl]
        obtain ⟨e', σ', r, z1, z2, z3, z4⟩ := drE_6 (w := w) (d := d) (n := 2) (MT := MT_e6 MT0 (ME_t6 ME3 (ME_f6 (WA_b6 WB) B6))) (e6 := wa6 1 0 v2 (wa6 0 1 v (fl6 716 2 e9))) (σ6 := g5_outcome 0 v2 σ6) FN6' hj g708 (by rw [t67]; exact i2) g711 g713 g714 g715 t62 k30 (Or.inr (Or.inl rfl)) (by rw [← he9]; exact so9) (by rw [← he9]; exact WW_t6 (WW_k6 (by decide)) (WW_t6 WW_a6 WW_a6)) (by rw [he9]; exact g715) rfl (by omega) r4 r3 (by rw [r4.1 47 (by decide) (by decide)]; exact x7) wy9
        exact ⟨e', σ', r, eC.trans z1, eR.trans z2, FM_t6 FM3 (FM_t6 FM6' z3), z4.1, fun q => ME_t6 (ME_t6 ME3 (ME_f6 (WA_b6 WB) B6)) (z4.2 q)⟩
      · rw [x1, rdl_5] at eC
        rw [x2, pm_e5] at eR
        dsimp only at eR
        rw [pb_e5] at eR
        obtain ⟨r1, r2, r3, r4⟩ := outr_6 (x := 0) (y := v2) (σ := σ6) (n := 1) ((x7.1 63 (by decide) (by decide) (by decide) (by decide) (by decide)).trans o3) (by omega)
        have a55c : f5_Ma_act_55 (m + 1) (Int32.ofNat j) (Int32.ofNat 2) (Int32.ofNat 2) (wn6 1 0 e5) = f5_Ma_act_92 (Int32.ofNat j) (wn6 1 0 e5) := a5e_6 (m := m) (n := 2) (k := 2) (by omega) (by omega)
        rw [a55c] at eC
        exact bad (wn6 1 0 e5) (g5_outcome 0 v2 σ6) y x3 (WB_t6 WB4 (WB_n6 x6)) (FB_t6 B5 (FB_t6 (FB_f6 x7) (FB_w6 r4))) x4 ((r4.1 47 (by decide) (by decide)).trans x5) r3 eC eR
    · rw [w1, rdl_5] at eC
      rw [w2, pm_e5] at eR
      dsimp only at eR
      rw [pb_e5] at eR
      obtain ⟨o1, o2, o3, o4⟩ := outr_6 (x := 1) (y := v) (σ := σ4) (n := 0) ((w7.1 63 (by decide) (by decide) (by decide) (by decide) (by decide)).trans t63) (by omega)
      have p47 : (g5_outcome 1 v σ4).1 47 = y := (o4.1 47 (by decide) (by decide)).trans w5
      obtain ⟨q1, q2, q3, q4⟩ := outr_6 (x := 0) (y := 0) (σ := g5_outcome 1 v σ4) (n := 1) o3 (by omega)
      rw [if_neg (y12_6 p47 w3).1, pb_e5] at eR
      have a55c : f5_Ma_act_55 (m + 2) (Int32.ofNat j) (Int32.ofNat 2) (Int32.ofNat 1) (wn6 0 0 e3) = f5_Ma_act_92 (Int32.ofNat j) (wn6 0 0 e3) := a5f_6 (m := m + 1) (n := 1) (k := 2) (y13_6 (show (wn6 0 0 e3).1 713 = y from w4) w3)
      rw [a55c] at eC
      exact bad (wn6 0 0 e3) _ y w3 (WB_n6 w6) (FB_t6 (FB_f6 w7) (FB_t6 (FB_w6 o4) (FB_w6 q4))) w4 ((q4.1 47 (by decide) (by decide)).trans p47) q3 eC eR
  · rw [if_neg (y12_6 y3 y1).1] at eR
    have a55 : f5_Ma_act_55 (m + 3) (Int32.ofNat j) 2 0 e2 = f5_Ma_act_92 (Int32.ofNat j) e2 := a5f_6 (m := m + 2) (n := 0) (k := 2) (y13_6 y2 y1)
    rw [hm, a55, a9f_6 y2 y1] at eC
    exact bad_6 (MT_e6 MT0 (ME_t6 ME2 (ME_f6 WA_r6 (FB_s6 (by omega))))) (FM_t6 F2 (FM_f6 WA_r6 (FB_s6 (by omega)))) y2 f714 f715 eC eR y3
end

end
section
set_option maxHeartbeats 1600000
/-! both machines: spread -/
section
variable {T : T5} {X : X5} {Bk N nv na f s w d : Nat} {Z : Int32}
theorem spl_6 {j n0 : Nat} (H : TR5 T X Bk N Z) (hE : T.2.1 (N - 1) = 142) (d0 : 0 < d) (h8 : n0 ≤ 8) : ∀ (n i m mr p a p' a' : Nat) (e : E5) (σ : rS), sp6 T Bk nv na e (σ.2.2.1 39) n p a p' a' → i + n = n0 → a' < N → FN6 T Bk N nv na f s e σ → MB6 nv w s d e σ → (w : Int) = nv + (e.1 511).toInt → e.1 706 = Int32.ofNat p → e.1 713 = 0 → e.2.2 705 = 256 → e.2.2 707 = 16 → ok6 σ → σ.1 13 = 0 → sx5 σ = X → σ.1 10 + 1 = Int32.ofNat (Bk + a) → σ.1 63 = Int32.ofNat i → (∀ t, t < i → e.2.1 707 (2 * t) = σ.2.2.1 64 t ∧ e.2.1 707 (2 * t + 1) = σ.2.2.1 65 t) → 2 * n < m → n < mr →
    (∃ e' σ', f5_Ma_act_55 m (Int32.ofNat j) (Int32.ofNat (2 * n0)) (Int32.ofNat (2 * i)) e = f5_Ma_act_92 (Int32.ofNat j) e' ∧ g5_draw_162 mr 1 σ = g5_draw_228 σ' ∧ WB6 e e' ∧ FB6 σ σ' ∧ e'.1 713 = 0 ∧ σ'.1 47 = 0 ∧ σ'.1 63 = Int32.ofNat n0 ∧ ∀ t, t < n0 → e'.2.1 707 (2 * t) = σ'.2.2.1 64 t ∧ e'.2.1 707 (2 * t + 1) = σ'.2.2.1 65 t) ∨
    (∃ e' σ' y, (y = 1 ∨ y = 2) ∧ f5_Ma_act_55 m (Int32.ofNat j) (Int32.ofNat (2 * n0)) (Int32.ofNat (2 * i)) e = f5_Ma_act_92 (Int32.ofNat j) e' ∧ g5_draw_162 mr 1 σ = (σ', 2) ∧ WB6 e e' ∧ FB6 σ σ' ∧ e'.1 713 = y ∧ σ'.1 61 = y)
  | 0, _, _, _, _, _, _, _, _, _, h, _, _, _, _, _, _, _, _, _, _, _, _, _, _, _, _, _ => h.elim
  | n + 1, i, m, mr, p, a, p', a', e, σ, hs, hi, aN, F, M, hw, hpc, hf, hst, hwk, ok, h13, hsx, h10, h63, hv, hm, hmr => by
    obtain ⟨pa, a1, pb, a2, x1, k58, x2, x3⟩ := hs
    have hh := H.1
    have l1 := x1.2.2
    have l2 := x2.2.2
    have a2' : a2 ≤ a' := by rcases x3 with ⟨_, _, _, q⟩ | ⟨_, q, _⟩ <;> omega
    obtain ⟨m, rfl⟩ : ∃ q, m = q + 3 := ⟨m - 3, by omega⟩
    obtain ⟨mr, rfl⟩ : ∃ q, mr = q + 2 := ⟨mr - 2, by omega⟩
    rw [a5s_6 (m := m + 2) hwk hf (by omega) (by omega), g5_draw_162, if_neg (show ¬ (1 : Int32) = 0 by decide), if_pos ok.2.2, h10]
    have xw := xw_6 H hE F M d0 hw x1 (by omega) hpc hst ok h13 hsx
    -- a failure y
    have bad : ∀ (e4 : E5) (σ5 : rS) (y r : Int32) (m' : Nat), (y = 1 ∨ y = 2) → WB6 e e4 → FB6 σ σ5 → e4.1 713 = y → σ5.1 47 = y → σ5.1 63 = Int32.ofNat i → ∃ e' σ' y, (y = 1 ∨ y = 2) ∧ f5_Ma_act_92 (Int32.ofNat j) e4 = f5_Ma_act_92 (Int32.ofNat j) e' ∧ g5_draw_207 (g5_draw_162 (mr + 1)) r 0 σ5 = (σ', 2) ∧ WB6 e e' ∧ FB6 σ σ' ∧ e'.1 713 = y ∧ σ'.1 61 = y := fun e4 σ5 y r _ hy W4 B5 q713 q47 q63 => by
      obtain ⟨o1, o2, o3, o4⟩ := outr_6 (x := r) (y := 0) (σ := σ5) (n := i) q63 (by omega)
      have p47 : (g5_outcome r 0 σ5).1 47 = y := (o4.1 47 (by decide) (by decide)).trans q47
      unfold g5_draw_207
      rw [pb_e5, pb_e5, d162f_6 (y13_6 p47 hy)]
      obtain ⟨σ', z1, z2, z3, z4⟩ := sf1_6 (σ := g5_outcome r 0 σ5) (n := i + 1) (by omega) o3 (y12_6 p47 hy).1
      exact ⟨e4, σ', y, hy, rfl, z1, W4, FB_t6 B5 (FB_t6 (FB_w6 o4) (FB_o6 z3 z4)), q713, z2.trans p47⟩
    rcases xw with ⟨e3, σ4, v, w1, w2, w3, w4, w5, w6, w7, w8, w9⟩ | ⟨e3, σ4, v, y, w1, w2, w3, w4, w5, w6, w7⟩
    · rw [w1, rdl_5, w2, pm_e5]
      dsimp only
      have p10 : σ4.1 10 + 1 = Int32.ofNat (Bk + (a1 + 1)) := by
        rw [w6]
        exact on_15 (by omega)
      rw [if_pos (show σ4.1 47 ≤ 0 by rw [w7]; decide), p10]
      have WB4 : WB6 e (wn6 (2 * i) v e3) := WB_n6 w5
      have q707 : ∀ t, (wn6 (2 * i) v e3).2.1 707 t = if t = 2 * i then v else e.2.1 707 t := fun t => by rw [wn_s6, w5.2.1 707 (by decide)]
      have q713 : (wn6 (2 * i) v e3).1 713 = 0 := w4.trans hf
      have q706 : (wn6 (2 * i) v e3).1 706 = Int32.ofNat pa := w3
      generalize wn6 (2 * i) v e3 = e4 at WB4 q707 q713 q706
      have B4 : FB6 σ σ4 := FB_f6 w9
      have FM4 : FM6 e e4 σ σ4 := FM_f6 (WA_b6 WB4) B4
      have ME4 : ME6 e e4 σ σ4 := ME_f6 (WA_b6 WB4) B4
      have FN4 := FN_m6 F FM4
      have M4 := MB_f6 M (WA_b6 WB4) B4
      have hw4 : (w : Int) = nv + (e4.1 511).toInt := by rw [WB4.1 511 (by decide) (by decide)]; exact hw
      rw [a5s_6 (m := m + 1) (n := 2 * i + 1) (by rw [WB4.2.2]; exact hwk) q713 (by omega) (by omega)]
      have xw2 := xw_6 H hE FN4 M4 d0 hw4 (xe_n6 x2 FM4) (by omega) q706 (by rw [WB4.2.2]; exact hst) (FB_ok6 ok B4 w7 FN4.2.1.1) w8 (sx_f6 B4 hsx)
      rcases xw2 with ⟨e5, σ6, v2, y1, y2, y3, y4, y5, y6, y7, y8, y9⟩ | ⟨e5, σ6, v2, y, y1, y2, y3, y4, y5, y6, y7⟩
      · rw [y1, rdl_5, y2, pm_e5]
        dsimp only
        have B6 : FB6 σ σ6 := FB_t6 B4 (FB_f6 y9)
        obtain ⟨o1, o2, o3, o4⟩ := outr_6 (x := v) (y := v2) (σ := σ6) (n := i) ((y9.1 63 (by decide) (by decide) (by decide) (by decide) (by decide)).trans ((w9.1 63 (by decide) (by decide) (by decide) (by decide) (by decide)).trans h63)) (by omega)
        have s64 : σ6.2.2.1 64 = σ.2.2.1 64 := (y9.2.2.1 64 (by decide) (by decide) (by decide)).trans (w9.2.2.1 64 (by decide) (by decide) (by decide))
        have s65 : σ6.2.2.1 65 = σ.2.2.1 65 := (y9.2.2.1 65 (by decide) (by decide) (by decide)).trans (w9.2.2.1 65 (by decide) (by decide) (by decide))
        have B7 : FB6 σ (g5_outcome v v2 σ6) := FB_t6 B6 (FB_w6 o4)
        have p47 : (g5_outcome v v2 σ6).1 47 = 0 := (o4.1 47 (by decide) (by decide)).trans y7
        have p13 : (g5_outcome v v2 σ6).1 13 = 0 := (o4.1 13 (by decide) (by decide)).trans y8
        have p10 : (g5_outcome v v2 σ6).1 10 = Int32.ofNat (Bk + a2) := (o4.1 10 (by decide) (by decide)).trans y6
        have WB7 : WB6 e (wn6 (2 * i + 1) v2 e5) := WB_t6 WB4 (WB_n6 y5)
        have r707 : ∀ t, (wn6 (2 * i + 1) v2 e5).2.1 707 t = if t = 2 * i + 1 then v2 else if t = 2 * i then v else e.2.1 707 t := fun t => by rw [wn_s6, y5.2.1 707 (by decide), q707]
        have r713 : (wn6 (2 * i + 1) v2 e5).1 713 = 0 := y4.trans q713
        have r706 : (wn6 (2 * i + 1) v2 e5).1 706 = Int32.ofNat pb := y3
        unfold g5_draw_207
        rw [pb_e5, pb_e5]
        generalize wn6 (2 * i + 1) v2 e5 = e7 at WB7 r707 r713 r706
        generalize g5_outcome v v2 σ6 = σ7 at o1 o2 o3 o4 B7 p47 p13 p10
        have hv7 : ∀ t, t < i + 1 → e7.2.1 707 (2 * t) = σ7.2.2.1 64 t ∧ e7.2.1 707 (2 * t + 1) = σ7.2.2.1 65 t := fun t ht => by
          rw [r707, r707, o1, o2, s64, s65]
          by_cases q : t = i
          · rw [if_neg (show ¬ 2 * t = 2 * i + 1 by omega), if_pos (show 2 * t = 2 * i by omega), if_pos (show 2 * t + 1 = 2 * i + 1 by omega), if_pos q, if_pos q]
            exact ⟨rfl, rfl⟩
          · rw [if_neg (show ¬ 2 * t = 2 * i + 1 by omega), if_neg (show ¬ 2 * t = 2 * i by omega), if_neg (show ¬ 2 * t + 1 = 2 * i + 1 by omega), if_neg (show ¬ 2 * t + 1 = 2 * i by omega), if_neg q, if_neg q]
            exact hv t (by omega)
        have FM7 : FM6 e e7 σ σ7 := FM_f6 (WA_b6 WB7) B7
        have ME7 : ME6 e e7 σ σ7 := ME_f6 (WA_b6 WB7) B7
        have FN7 := FN_m6 F FM7
        have hsx7 := sx_f6 B7 hsx
        rw [ata_6 (a := a2) (c := 44) H hsx7 (by omega) p10 (by decide) (by decide)]
        have ei : 2 * i + 1 + 1 = 2 * (i + 1) := by omega
        rw [ei]
        rcases x3 with ⟨n0', k125, _, _⟩ | ⟨n0', _, k44, x4⟩
        · rw [if_neg (show ¬ T.2.1 a2 = 44 by rw [k125]; decide), g5_draw_162, if_pos rfl, a5e_6 (m := m) (by omega) (by omega)]
          have ei2 : n0 = i + 1 := by omega
          rw [ei2]
          exact Or.inl ⟨e7, σ7, rfl, rfl, WB7, B7, r713, p47, o3, hv7⟩
        · rw [if_pos k44]
          have p10' : σ7.1 10 + 1 = Int32.ofNat (Bk + (a2 + 1)) := by
            rw [p10]
            exact on_15 (by omega)
          have ih := spl_6 (j := j) H hE d0 h8 n (i + 1) (m + 1) (mr + 1) pb (a2 + 1) p' a' e7 σ7 (sp_n6 x4 FM7) (by omega) aN FN7 (MB_f6 M (WA_b6 WB7) B7) (by rw [WB7.1 511 (by decide) (by decide)]; exact hw) r706 r713 (by rw [WB7.2.2]; exact hst) (by rw [WB7.2.2]; exact hwk) (FB_ok6 ok B7 p47 FN7.2.1.1) p13 hsx7 p10' o3 hv7 (by omega) (by omega)
          rcases ih with ⟨e', σ', u1, u2, u3, u4, u5⟩ | ⟨e', σ', y, u0, u1, u2, u3, u4, u5⟩
          · exact Or.inl ⟨e', σ', u1, u2, WB_t6 WB7 u3, FB_t6 B7 u4, u5⟩
          · exact Or.inr ⟨e', σ', y, u0, u1, u2, WB_t6 WB7 u3, FB_t6 B7 u4, u5⟩
      · rw [y1, rdl_5, y2, pm_e5]
        dsimp only
        rw [a5f_6 (m := m) (y13_6 (show (wn6 (2 * i + 1) 0 e5).1 713 = y from y4) y3)]
        refine Or.inr ?_
        obtain ⟨o1, o2, o3, o4⟩ := outr_6 (x := v) (y := v2) (σ := σ6) (n := i) ((y7.1 63 (by decide) (by decide) (by decide) (by decide) (by decide)).trans ((w9.1 63 (by decide) (by decide) (by decide) (by decide) (by decide)).trans h63)) (by omega)
        have p47 : (g5_outcome v v2 σ6).1 47 = y := (o4.1 47 (by decide) (by decide)).trans y5
        unfold g5_draw_207
        rw [pb_e5, pb_e5, d162f_6 (y13_6 p47 y3)]
        obtain ⟨σ', z1, z2, z3, z4⟩ := sf1_6 (σ := g5_outcome v v2 σ6) (n := i + 1) (by omega) o3 (y12_6 p47 y3).1
        exact ⟨_, σ', y, y3, rfl, z1, WB_t6 WB4 (WB_n6 y6), FB_t6 (FB_t6 B4 (FB_f6 y7)) (FB_t6 (FB_w6 o4) (FB_o6 z3 z4)), y4, z2.trans p47⟩
    · rw [w1, rdl_5, w2, pm_e5]
      dsimp only
      rw [if_neg (y12_6 w5 w3).1, a5f_6 (m := m + 1) (y13_6 (show (wn6 (2 * i) 0 e3).1 713 = y from w4) w3)]
      exact Or.inr (bad _ σ4 y v 0 w3 (WB_n6 w6) (FB_f6 w7) w4 w5 ((w7.1 63 (by decide) (by decide) (by decide) (by decide) (by decide)).trans h63))
/-- the ways of a spread laid out -/
theorem so3_6 {n0 : Nat} (h8 : n0 ≤ 8) : ∀ (n m t : Nat) (e : E5), t + n = n0 → n < m → e.1 716 = Int32.ofNat n0 → ∃ e', f5_Ma_spreadOut_146 m (Int32.ofNat t) e = f5_Ma_spreadOut_190 e' ∧ WW6 e e' ∧ e'.1 = e.1 ∧ (∀ i, e'.2.1 718 i = if t ≤ i ∧ i < n0 then e.2.1 707 (2 * i) else e.2.1 718 i) ∧ ∀ i, e'.2.1 719 i = if t ≤ i ∧ i < n0 then e.2.1 707 (2 * i + 1) else e.2.1 719 i
  | 0, m, t, e, ht, hm, h6 => by
    obtain ⟨m, rfl⟩ : ∃ q, m = q + 1 := ⟨m - 1, by omega⟩
    have h6' : e.1 maWays = Int32.ofNat n0 := h6
    rw [f5_Ma_spreadOut_146, h6', if_pos (show Int32.ofNat n0 ≤ Int32.ofNat t by rw [lei, ofn_i (by omega), ofn_i (by omega)]; omega)]
    exact ⟨e, rfl, WW_r6, rfl, fun i => by rw [if_neg (by omega)], fun i => by rw [if_neg (by omega)]⟩
  | n + 1, m, t, e, ht, hm, h6 => by
    obtain ⟨m, rfl⟩ : ∃ q, m = q + 1 := ⟨m - 1, by omega⟩
    have h6' : e.1 maWays = Int32.ofNat n0 := h6
    have lt := ofn_i (n := t) (by omega)
    have ct : (Int32.ofNat t).toNatClampNeg = t := cl_5 (by omega)
    have c2 : (2 * Int32.ofNat t).toNatClampNeg = 2 * t := by
      rw [show (2 : Int32) * Int32.ofNat t = Int32.ofNat (2 * t) from Int32.toInt_inj.mp (by rw [mul_i (by rw [lt, show (2 : Int32).toInt = 2 from rfl]; omega) (by rw [lt, show (2 : Int32).toInt = 2 from rfl]; omega), lt, ofn_i (by omega), show (2 : Int32).toInt = 2 from rfl]; omega), cl_5 (by omega)]
    have c3 : (2 * Int32.ofNat t + 1).toNatClampNeg = 2 * t + 1 := by
      rw [show (2 : Int32) * Int32.ofNat t = Int32.ofNat (2 * t) from Int32.toInt_inj.mp (by rw [mul_i (by rw [lt, show (2 : Int32).toInt = 2 from rfl]; omega) (by rw [lt, show (2 : Int32).toInt = 2 from rfl]; omega), lt, ofn_i (by omega), show (2 : Int32).toInt = 2 from rfl]; omega), on_15 (by omega), cl_5 (by omega)]
    rw [f5_Ma_spreadOut_146, h6', if_neg (show ¬ Int32.ofNat n0 ≤ Int32.ofNat t by rw [lei, ofn_i (by omega), ofn_i (by omega)]; omega), ct, c2, c3]
    have z1 := vw_6 (n := t) (x := e.2.1 maWorked (2 * t)) (y := fun e9 => e9.2.1 maWorked (2 * t + 1)) (e := e) (k := fun e3 => pb5 (Int32.ofNat t + 1) (fun v => f5_Ma_spreadOut_146 m v e3))
    have y0 : ((e.1, fun g j => if g = 718 ∧ j = t then e.2.1 maWorked (2 * t) else e.2.1 g j, e.2.2) : E5).2.1 maWorked (2 * t + 1) = e.2.1 707 (2 * t + 1) := by
      show (if 707 = 718 ∧ 2 * t + 1 = t then e.2.1 maWorked (2 * t) else e.2.1 707 (2 * t + 1)) = _
      rw [if_neg (show ¬ (707 = 718 ∧ 2 * t + 1 = t) from fun z => absurd z.1 (by decide))]
    obtain ⟨e', u1, u2, u3, u4, u5⟩ := so3_6 h8 n m (t + 1) (wa6 t (e.2.1 707 (2 * t)) (e.2.1 707 (2 * t + 1)) e) (by omega) (by omega) h6
    refine ⟨e', ?_, WW_t6 WW_a6 u2, u3, fun i => ?_, fun i => ?_⟩
    · refine z1.trans ?_
      show pb5 (Int32.ofNat t + 1) (fun v => f5_Ma_spreadOut_146 m v (wa6 t (e.2.1 maWorked (2 * t)) (((e.1, fun g j => if g = 718 ∧ j = t then e.2.1 maWorked (2 * t) else e.2.1 g j, e.2.2) : E5).2.1 maWorked (2 * t + 1)) e)) = _
      rw [y0, pb_e5, on_15 (by omega)]
      exact u1
    · obtain ⟨b1, b2⟩ := wa_v6 (n := t) (i := i) (x := e.2.1 707 (2 * t)) (y := e.2.1 707 (2 * t + 1)) (e := e)
      rw [u4 i, wa_w6, b1]
      by_cases q1 : i = t
      · rw [if_neg (by omega), if_pos q1, if_pos (by omega), q1]
      · by_cases q2 : t + 1 ≤ i ∧ i < n0
        · rw [if_pos q2, if_pos (by omega)]
        · rw [if_neg q2, if_neg q1, if_neg (by omega)]
    · obtain ⟨b1, b2⟩ := wa_v6 (n := t) (i := i) (x := e.2.1 707 (2 * t)) (y := e.2.1 707 (2 * t + 1)) (e := e)
      rw [u5 i, wa_w6, b2]
      by_cases q1 : i = t
      · rw [if_neg (by omega), if_pos q1, if_pos (by omega), q1]
      · by_cases q2 : t + 1 ≤ i ∧ i < n0
        · rw [if_pos q2, if_pos (by omega)]
        · rw [if_neg q2, if_neg q1, if_neg (by omega)]
theorem dv2_6 {n : Nat} (h8 : n ≤ 8) : Int32.ofNat (2 * n) / 2 = Int32.ofNat n := by
  have h : ∀ k, k < 9 → Int32.ofNat (2 * k) / 2 = Int32.ofNat k := by decide
  exact h n (by omega)
variable {e e' : E5} {σ σ' : rS}
theorem sp3_6 {j x pc p1 n0 p' a' : Nat} {e2 : E5} {σ2 : rS} (H : TR5 T X Bk N Z) (hE : T.2.1 (N - 1) = 142) (F : FN6 T Bk N nv na f s e σ) (M : MB6 nv w s d e σ) (d0 : 0 < d) (hw : (w : Int) = nv + (e.1 511).toInt) (hj : j < s) (at1 : e.2.1 701 (w + 9 * (d - 1)) = Int32.ofNat j) (at2 : σ.2.2.1 59 (d - 1) = Int32.ofNat j) (h711 : e.1 711 = 0) (hst : e.2.2 705 = 256) (hwk : e.2.2 707 = 16) (hsx : sx5 σ = X)
    (h32 : σ.2.2.1 32 j = Int32.ofNat (Bk + x)) (h3 : e.2.1 506 (11 * j + 3) = Int32.ofNat pc) (hk : σ.2.2.1 30 j = 3) (h0 : e.2.1 506 (11 * j) = 3) (h8 : n0 ≤ 8) (h4 : e.2.1 506 (11 * j + 4) = Int32.ofNat (2 * n0)) (hT : T.2.1 x = 123) (am : f5_Ma_aim (Int32.ofNat j) (ab6 (Int32.ofNat pc) e) = .inl (e2, ())) (fp : g5_findPlace (Int32.ofNat j) (ar6b σ) = σ2) (A : AM6 nv w d p1 (ab6 (Int32.ofNat pc) e) e2 (ar6b σ) σ2) (hx : sp6 T Bk nv na e (σ.2.2.1 39) n0 p1 (x + 1) p' a') (xN : x < N) (aN : a' < N) : ∃ e' σ' r, f5_Ma_act e = .inl (e', ()) ∧ g5_act σ = (σ', r) ∧ FM6 e e' σ σ' ∧ AX6 nv w s d e e' σ σ' r := by
  have MT0 : MT6 nv w s d e σ := ⟨M, j, hj, at1, at2⟩
  have hh := H.1
  have s150 := F.1.2.2.2.1.2
  obtain ⟨A1, A2, A3⟩ := A
  obtain ⟨eC, eR, F2, M2, ⟨f714, f715, f711, s62, s46⟩, hsx2, hw2, ME2⟩ := pre_6 F M d0 hw hj at1 at2 h711 hsx h3 (Or.inl hk) h4 am fp A1 A2
  have FN2 := FN_m6 F F2
  have rl : e2.2.2 = e.2.2 := A1.2.2
  have r506 : e2.2.1 506 = e.2.1 506 := A1.2.1 506 (by decide) (by decide)
  rcases A3 with ⟨i, i1, i2, i3, i4, i5, i6⟩ | ⟨y, y1, y2, y3⟩
  · rw [if_pos (show σ2.1 47 ≤ 0 by rw [i5]; decide), hk] at eR
    obtain ⟨σ3, d1, B3, FN3, M3, hsx3, ok3, t13, t10, t63⟩ := drs_6 (x := x) FN2 M2 hj (by rw [F2.2.2.1 32 (by decide)]; exact h32) s46 i5 i6 hsx2
    rw [d1] at eR
    have FM3 : FM6 e e2 σ σ3 := FM_t6 F2 (FM_f6 WA_r6 B3)
    have ME3 : ME6 e e2 σ σ3 := ME_t6 ME2 (ME_f6 WA_r6 B3)
    have t1 : σ3.1 10 + 1 = Int32.ofNat (Bk + (x + 1)) := by rw [t10]; exact on_15 (by omega)
    unfold dr6 at eR
    rw [pb_e5, pb_e5, iw_6 (c := 11) (k := 160) H hsx3 xN t10 (by decide) (by decide) (by decide), if_neg (show ¬ T.2.1 x = 160 by rw [hT]; decide), if_pos rfl, iw_6 (c := 12) (k := 161) H hsx3 xN t10 (by decide) (by decide) (by decide), if_neg (show ¬ T.2.1 x = 161 by rw [hT]; decide), if_pos rfl] at eR
    have sl := spl_6 (j := j) H hE d0 h8 n0 0 fu5 fu5 p1 (x + 1) p' a' e2 σ3 (sp_n6 hx FM3) (by omega) aN FN3 M3 hw2 i3 i4 (by rw [rl]; exact hst) (by rw [rl]; exact hwk) ok3 t13 hsx3 t1 t63 (fun t ht => by omega) (by unfold fu5; omega) (by unfold fu5; omega)
    rcases sl with ⟨e4, σ4, u1, u2, WB, B4, g713, p47, p63, hv⟩ | ⟨e4, σ4, y, hy, u1, u2, WB, B4, g713, p61⟩
    · have u1 : f5_Ma_act_55 fu5 (Int32.ofNat j) (Int32.ofNat (2 * n0)) 0 e2 = f5_Ma_act_92 (Int32.ofNat j) e4 := u1
      rw [u1] at eC
      rw [u2] at eR
      have FM4 : FM6 e2 e4 σ3 σ4 := FM_f6 (WA_b6 WB) B4
      have ME4 : ME6 e2 e4 σ3 σ4 := ME_f6 (WA_b6 WB) B4
      have FN4 := FN_m6 FN3 FM4
      have B24 : FB6 σ2 σ4 := FB_t6 B3 B4
      have t62 : σ4.1 62 = 0 := (B24.1 62 (by decide) (by decide) (by decide) (by decide) (by decide) (by decide) (by decide) (by decide)).trans s62
      have t67 : σ4.1 67 = σ2.1 67 := B24.1 67 (by decide) (by decide) (by decide) (by decide) (by decide) (by decide) (by decide) (by decide)
      have k30 : e4.2.1 506 (11 * j) = 3 := by rw [WB.2.1 506 (by decide) (by decide), r506]; exact h0
      have k4 : e4.2.1 506 (11 * j + 4) = Int32.ofNat (2 * n0) := by rw [WB.2.1 506 (by decide) (by decide), r506]; exact h4
      obtain ⟨e9, he9⟩ : ∃ e9, e9 = fl6 710 0 (fl6 709 (σ4.2.2.1 37 j) e4) := ⟨_, rfl⟩
      have est9 : e9.1 coStatements = Int32.ofNat s := by rw [he9]; exact FN4.1.2.2.2.1.1
      have c4 : cl5 (Int32.ofNat j) 4 e9 = Int32.ofNat (2 * n0) := (cl_55 (s := j) (c := 4) est9 (by omega) (by omega) (by decide)).trans (by rw [he9]; exact k4)
      have l8 : ¬ (8 : Int32) < Int32.ofNat n0 := by rw [lti, ofn_i (by omega), show (8 : Int32).toInt = 8 from rfl]; omega
      have so : f5_Ma_spreadOut (Int32.ofNat j) 3 e9 = f5_Ma_spreadOut_146 fu5 0 (fl6 716 (Int32.ofNat n0) e9) := by
        unfold f5_Ma_spreadOut
        rw [if_neg (show ¬ (3 : Int32) = 1 by decide), if_neg (show ¬ (3 : Int32) = 2 by decide), pb_e5, c4, dv2_6 h8, if_neg l8, st_f6, rdl_5]
      obtain ⟨e6, v1, v2, v3, v4, v5⟩ := so3_6 h8 n0 fu5 0 (fl6 716 (Int32.ofNat n0) e9) (by omega) (by unfold fu5; omega) fl_s6
      have v1 : f5_Ma_spreadOut_146 fu5 0 (fl6 716 (Int32.ofNat n0) e9) = f5_Ma_spreadOut_190 e6 := v1
      have w9 : ∀ t, (fl6 716 (Int32.ofNat n0) e9).2.1 707 t = e4.2.1 707 t := fun t => by rw [he9]; rfl
      obtain ⟨e', σ', r, z1, z2, z3, z4⟩ := drE_6 (w := w) (d := d) (n := n0) (MT := MT_e6 MT0 (ME_t6 ME3 ME4)) (e6 := e6) (σ6 := σ4) FN4 hj ((WB.1 708 (by decide) (by decide)).trans i1) (by rw [t67]; exact i2) ((WB.1 711 (by decide) (by decide)).trans f711) g713 ((WB.1 714 (by decide) (by decide)).trans f714) ((WB.1 715 (by decide) (by decide)).trans f715) t62 k30 (Or.inr (Or.inr rfl)) (by rw [← he9, so, v1]) (by rw [← he9]; exact WW_t6 (WW_k6 (by decide)) v2) (by rw [v3, he9]; exact (WB.1 715 (by decide) (by decide)).trans f715) (by rw [v3]; exact fl_s6) (by omega) FW_r6 p63 p47 (fun k hk => by
        rw [v4 k, v5 k, w9, w9, if_pos (by omega), if_pos (by omega)]
        exact hv k hk)
      exact ⟨e', σ', r, eC.trans z1, eR.trans z2, FM_t6 FM3 (FM_t6 FM4 z3), z4.1, fun q => ME_t6 (ME_t6 ME3 ME4) (z4.2 q)⟩
    · have u1 : f5_Ma_act_55 fu5 (Int32.ofNat j) (Int32.ofNat (2 * n0)) 0 e2 = f5_Ma_act_92 (Int32.ofNat j) e4 := u1
      rw [u1, a9f_6 g713 hy] at eC
      rw [u2] at eR
      exact bad_6 (MT_e6 MT0 (ME_t6 ME3 (ME_f6 (WA_b6 WB) B4))) (FM_t6 FM3 (FM_f6 (WA_b6 WB) B4)) g713 ((WB.1 714 (by decide) (by decide)).trans f714) ((WB.1 715 (by decide) (by decide)).trans f715) eC eR p61
  · rw [if_neg (y12_6 y3 y1).1] at eR
    have a55 : f5_Ma_act_55 fu5 (Int32.ofNat j) (Int32.ofNat (2 * n0)) 0 e2 = f5_Ma_act_92 (Int32.ofNat j) e2 := a5f_6 (m := fu5 - 1) (n := 0) (k := 2 * n0) (y13_6 y2 y1)
    rw [a55, a9f_6 y2 y1] at eC
    exact bad_6 (MT_e6 MT0 (ME_t6 ME2 (ME_f6 WA_r6 (FB_s6 (by omega))))) (FM_t6 F2 (FM_f6 WA_r6 (FB_s6 (by omega)))) y2 f714 f715 eC eR y3
end

end
section
set_option maxHeartbeats 1600000
/-! both machines: calls -/
theorem si_i6 {k : Nat} {x : Int32} {σ : rS} (h : σ.1 k = x) : siU σ k x = σ := by
  refine Prod.ext ?_ rfl
  funext j
  rw [si1]
  by_cases q : j = k
  · rw [if_pos q, q, h]
  · rw [if_neg q]
theorem ex_w6 {σ : rS} {a : Int32} (h : σ.1 10 = a) : g5_expression σ = g5_workAt a σ := by
  unfold g5_workAt
  rw [pb_e5, si_i6 h, pmq_6]
theorem c28f_6 {m : Nat} {k c : Int32} {σ : rS} (h : ¬ σ.1 47 = 0) : g5_call_28 (m + 1) k c σ = g5_call_73 k σ := by
  rw [g5_call_28, if_neg h]
  by_cases q : σ.2.2.1 26 k.toNatClampNeg ≤ c
  · rw [if_pos q]
  · rw [if_neg q]
theorem s300_6 {k : Nat} (hk : k ≤ 1000) : Int32.ofNat (300 + k) - 300 = Int32.ofNat k := by
  have l1 := ofn_i (n := k) (by omega)
  have l2 := ofn_i (n := 300 + k) (by omega)
  have l300 : (300 : Int32).toInt = 300 := rfl
  exact Int32.toInt_inj.mp (by rw [sub_i (by rw [l300, l2]; omega) (by rw [l300, l2]; omega), l300, l2, l1]; omega)
/-- an argument told -/
def ag6 (i : Nat) (v : Int32) (σ : rS) : rS := siU (riU σ 68 i v) 10 (σ.1 10 + 1)
theorem FB_g6 {i : Nat} {v : Int32} {σ : rS} : FB6 σ (ag6 i v σ) := ⟨fun g x1 _ _ _ _ _ _ _ => by
  show (siU (riU σ 68 i v) 10 (σ.1 10 + 1)).1 g = _
  rw [si1, if_neg x1]
  rfl, fun g _ _ _ _ _ x => by
  show (riU σ 68 i v).2.2.1 g = _
  exact ri_o6 x, rfl⟩
theorem ag_s6 {i t : Nat} {v : Int32} {σ : rS} : (ag6 i v σ).2.2.1 68 t = if t = i then v else σ.2.2.1 68 t := by
  show (riU σ 68 i v).2.2.1 68 t = _
  exact ri_s6
theorem ag_o6 {i g : Nat} {v : Int32} {σ : rS} (h : g ≠ 10) : (ag6 i v σ).1 g = σ.1 g := by
  show (siU (riU σ 68 i v) 10 (σ.1 10 + 1)).1 g = _
  rw [si1, if_neg h]
  rfl
section
variable {T : T5} {X : X5} {Bk N nv na f s w d : Nat} {Z : Int32}
theorem cal_6 {j k n0 : Nat} (H : TR5 T X Bk N Z) (hE : T.2.1 (N - 1) = 142) (d0 : 0 < d) (h4 : n0 ≤ 4) (hk : k ≤ 1000) : ∀ (n i m mr p a p' a' : Nat) (e : E5) (σ : rS), (n = 0 ∨ (xs6 T Bk nv na e (σ.2.2.1 39) n p a p' a' ∧ a' < N)) → i + n = n0 → FN6 T Bk N nv na f s e σ → MB6 nv w s d e σ → (w : Int) = nv + (e.1 511).toInt → e.1 706 = Int32.ofNat p → e.1 713 = 0 → e.2.2 705 = 256 → e.2.2 707 = 16 → ok6 σ → σ.1 13 = 0 → sx5 σ = X → σ.2.2.1 26 k = Int32.ofNat n0 → (0 < n → σ.1 10 = Int32.ofNat (Bk + a)) → (∀ t, t < i → e.2.1 707 t = σ.2.2.1 68 t) → n < m → n < mr →
    ∃ e' σ', f5_Ma_act_55 m (Int32.ofNat j) (Int32.ofNat n0) (Int32.ofNat i) e = f5_Ma_act_92 (Int32.ofNat j) e' ∧ g5_call_28 mr (Int32.ofNat k) (Int32.ofNat i) σ = g5_call_73 (Int32.ofNat k) σ' ∧ WB6 e e' ∧ FB6 σ σ' ∧ ((e'.1 713 = 0 ∧ σ'.1 47 = 0 ∧ ∀ t, t < n0 → e'.2.1 707 t = σ'.2.2.1 68 t) ∨ ∃ y, (y = 1 ∨ y = 2) ∧ e'.1 713 = y ∧ σ'.1 47 = y)
  | 0, i, m, mr, p, a, p', a', e, σ, hs, hi, F, M, hw, hpc, hf, hst, hwk, ok, h13, hsx, h26, h10, hv, hm, hmr => by
    obtain ⟨m, rfl⟩ : ∃ q, m = q + 1 := ⟨m - 1, by omega⟩
    obtain ⟨mr, rfl⟩ : ∃ q, mr = q + 1 := ⟨mr - 1, by omega⟩
    have ck : (Int32.ofNat k).toNatClampNeg = k := cl_5 (by omega)
    have q : Int32.ofNat n0 ≤ Int32.ofNat i := by rw [lei, ofn_i (by omega), ofn_i (by omega)]; omega
    rw [a5e_6 (m := m) (by omega) (by omega), g5_call_28, ck, h26, if_pos q]
    exact ⟨e, σ, rfl, rfl, WB_r6, FB_r6, Or.inl ⟨hf, ok.2.2, fun t ht => hv t (by omega)⟩⟩
  | n + 1, i, m, mr, p, a, p', a', e, σ, hs, hi, F, M, hw, hpc, hf, hst, hwk, ok, h13, hsx, h26, h10, hv, hm, hmr => by
    have hh := H.1
    obtain ⟨hs, aN⟩ := hs.resolve_left (by omega)
    obtain ⟨p1, a1, x1, x2⟩ := hs
    have l1 := x1.2.2
    have a1' : a1 ≤ a' := by rcases x2 with ⟨_, _, q⟩ | ⟨_, q, _⟩ <;> omega
    obtain ⟨m, rfl⟩ : ∃ q, m = q + 2 := ⟨m - 2, by omega⟩
    obtain ⟨mr, rfl⟩ : ∃ q, mr = q + 2 := ⟨mr - 2, by omega⟩
    have ck : (Int32.ofNat k).toNatClampNeg = k := cl_5 (by omega)
    have ci : (Int32.ofNat i).toNatClampNeg = i := cl_5 (by omega)
    have q : ¬ Int32.ofNat n0 ≤ Int32.ofNat i := by rw [lei, ofn_i (by omega), ofn_i (by omega)]; omega
    rw [a5s_6 (m := m + 1) hwk hf (by omega) (by omega), g5_call_28, ck, h26, if_neg q, if_pos ok.2.2, ex_w6 (h10 (by omega)), ci]
    have xw := xw_6 H hE F M d0 hw x1 (by omega) hpc hst ok h13 hsx
    rcases xw with ⟨e3, σ4, v, w1, w2, w3, w4, w5, w6, w7, w8, w9⟩ | ⟨e3, σ4, v, y, w1, w2, w3, w4, w5, w6, w7⟩
    · rw [w1, rdl_5, w2, pm_e5]
      dsimp only
      rw [pb_e5, pb_e5, pb_e5, on_15 (by omega)]
      show ∃ e' σ', _ ∧ g5_call_28 (mr + 1) (Int32.ofNat k) (Int32.ofNat (i + 1)) (ag6 i v σ4) = _ ∧ _
      have B5 : FB6 σ (ag6 i v σ4) := FB_t6 (FB_f6 w9) FB_g6
      have p10 : (ag6 i v σ4).1 10 = Int32.ofNat (Bk + (a1 + 1)) := by
        show σ4.1 10 + 1 = _
        rw [w6]
        exact on_15 (by omega)
      have p47 : (ag6 i v σ4).1 47 = 0 := (ag_o6 (by decide)).trans w7
      have p13 : (ag6 i v σ4).1 13 = 0 := (ag_o6 (by decide)).trans w8
      have p68 : ∀ t, (ag6 i v σ4).2.2.1 68 t = if t = i then v else σ.2.2.1 68 t := fun t => by rw [ag_s6, w9.2.2.1 68 (by decide) (by decide) (by decide)]
      generalize ag6 i v σ4 = σ5 at B5 p10 p47 p13 p68
      have WB4 : WB6 e (wn6 i v e3) := WB_n6 w5
      have q707 : ∀ t, (wn6 i v e3).2.1 707 t = if t = i then v else e.2.1 707 t := fun t => by rw [wn_s6, w5.2.1 707 (by decide)]
      have q713 : (wn6 i v e3).1 713 = 0 := w4.trans hf
      have q706 : (wn6 i v e3).1 706 = Int32.ofNat p1 := w3
      generalize wn6 i v e3 = e4 at WB4 q707 q713 q706
      have FM4 : FM6 e e4 σ σ5 := FM_f6 (WA_b6 WB4) B5
      have FN4 := FN_m6 F FM4
      obtain ⟨e', σ', u1, u2, u3, u4, u5⟩ := cal_6 (j := j) H hE d0 h4 hk n (i + 1) (m + 1) (mr + 1) p1 (a1 + 1) p' a' e4 σ5 (by
        rcases x2 with ⟨q, _⟩ | ⟨_, _, q⟩
        · exact Or.inl q
        · exact Or.inr ⟨xs_n6 q FM4, aN⟩) (by omega) FN4 (MB_f6 M (WA_b6 WB4) B5) (by rw [WB4.1 511 (by decide) (by decide)]; exact hw) q706 q713 (by rw [WB4.2.2]; exact hst) (by rw [WB4.2.2]; exact hwk) (FB_ok6 ok B5 p47 FN4.2.1.1) p13 (sx_f6 B5 hsx) (by rw [FM4.2.2.1 26 (by decide)]; exact h26) (fun _ => p10) (fun t ht => by
        rw [q707, p68]
        by_cases q : t = i
        · rw [if_pos q, if_pos q]
        · rw [if_neg q, if_neg q]; exact hv t (by omega)) (by omega) (by omega)
      exact ⟨e', σ', u1, u2, WB_t6 WB4 u3, FB_t6 B5 u4, u5⟩
    · rw [w1, rdl_5, w2, pm_e5]
      dsimp only
      rw [pb_e5, pb_e5, pb_e5, on_15 (by omega), a5f_6 (m := m) (y13_6 (show (wn6 i 0 e3).1 713 = y from w4) w3)]
      show ∃ e' σ', _ ∧ g5_call_28 (mr + 1) (Int32.ofNat k) (Int32.ofNat (i + 1)) (ag6 i v σ4) = _ ∧ _
      have p47 : (ag6 i v σ4).1 47 = y := (ag_o6 (by decide)).trans w5
      rw [c28f_6 (m := mr) (y13_6 p47 w3)]
      exact ⟨_, _, rfl, rfl, WB_n6 w6, FB_t6 (FB_f6 w7) FB_g6, Or.inr ⟨y, w3, w4, p47⟩⟩
/-- arguments laid into the new call's memory -/
theorem opC_6 {k : Int32} {n0 fr : Nat} (h4 : n0 ≤ 4) (hfr : fr + 9 ≤ 142) : ∀ (n m t : Nat) (e : E5), t + n = n0 → n < m → e.1 704 = Int32.ofNat fr → ∃ e', f5_Ma_openCall_57 m k (Int32.ofNat n0) (Int32.ofNat t) e = f5_Ma_openCall_92 k e' ∧ e'.1 = e.1 ∧ (∀ g, g ≠ 701 → e'.2.1 g = e.2.1 g) ∧ e'.2.2 = e.2.2 ∧ ∀ i, e'.2.1 701 i = if fr + 1 + t ≤ i ∧ i < fr + 1 + n0 then e.2.1 707 (i - (fr + 1)) else e.2.1 701 i
  | 0, m, t, e, ht, hm, hf => by
    obtain ⟨m, rfl⟩ : ∃ q, m = q + 1 := ⟨m - 1, by omega⟩
    rw [f5_Ma_openCall_57, if_pos (show Int32.ofNat n0 ≤ Int32.ofNat t by rw [lei, ofn_i (by omega), ofn_i (by omega)]; omega)]
    exact ⟨e, rfl, rfl, fun _ _ => rfl, rfl, fun i => by rw [if_neg (by omega)]⟩
  | n + 1, m, t, e, ht, hm, hf => by
    obtain ⟨m, rfl⟩ : ∃ q, m = q + 1 := ⟨m - 1, by omega⟩
    have hf' : e.1 maFrame = Int32.ofNat fr := hf
    have ct : (Int32.ofNat t).toNatClampNeg = t := cl_5 (by omega)
    have c2 : (Int32.ofNat fr + 1 + Int32.ofNat t).toNatClampNeg = fr + 1 + t := by rw [on_15 (by omega), on_5 (by omega), cl_5 (by omega)]
    rw [f5_Ma_openCall_57, if_neg (show ¬ Int32.ofNat n0 ≤ Int32.ofNat t by rw [lei, ofn_i (by omega), ofn_i (by omega)]; omega), if_neg (show ¬ (4 : Int32) ≤ Int32.ofNat t by rw [lei, ofn_i (by omega), show (4 : Int32).toInt = 4 from rfl]; omega), hf', c2, ct]
    have z : sa5 maMemory (fr + 1 + t) (e.2.1 maWorked t) e = .inl (me6 (fr + 1 + t) (e.2.1 707 t) e, ()) := rfl
    rw [z, rdl_5, pb_e5, on_15 (by omega)]
    obtain ⟨e', u1, u2, u3, u4, u5⟩ := opC_6 h4 hfr n m (t + 1) (me6 (fr + 1 + t) (e.2.1 707 t) e) (by omega) (by omega) hf
    refine ⟨e', u1, u2, fun g q => (u3 g q).trans (me_o6 q), u4, fun i => ?_⟩
    rw [u5 i, me_o6 (by decide), me_m6]
    by_cases q1 : i = fr + 1 + t
    · have q3 : i - (fr + 1) = t := by omega
      rw [if_neg (by omega), if_pos q1, if_pos (by omega), q3]
    · by_cases q2 : fr + 1 + (t + 1) ≤ i ∧ i < fr + 1 + n0
      · rw [if_pos q2, if_pos (by omega)]
      · rw [if_neg q2, if_neg q1, if_neg (by omega)]
theorem opR_6 {k n0 : Nat} (h4 : n0 ≤ 4) (hk : k ≤ 1000) (hd : d ≤ 12) : ∀ (n m t : Nat) (σ : rS), t + n = 8 → n < m → σ.1 58 = Int32.ofNat (d + 1) → σ.2.2.1 26 k = Int32.ofNat n0 → ∃ σ', g5_call_122 m (Int32.ofNat k) (Int32.ofNat t) σ = g5_moveTo (σ'.2.2.1 29 k) σ' ∧ σ'.1 = σ.1 ∧ (∀ g, g ≠ 60 → σ'.2.2.1 g = σ.2.2.1 g) ∧ σ'.2.2.2 = σ.2.2.2 ∧ ∀ i, σ'.2.2.1 60 i = if 8 * d + t ≤ i ∧ i < 8 * d + 8 then (if i - 8 * d < n0 then σ.2.2.1 68 (i - 8 * d) else 0) else σ.2.2.1 60 i
  | 0, m, t, σ, ht, hm, h58, h26 => by
    obtain ⟨m, rfl⟩ : ∃ q, m = q + 1 := ⟨m - 1, by omega⟩
    have ck : (Int32.ofNat k).toNatClampNeg = k := cl_5 (by omega)
    rw [g5_call_122, if_pos (show (8 : Int32) ≤ Int32.ofNat t by rw [lei, ofn_i (by omega), show (8 : Int32).toInt = 8 from rfl]; omega), pmq_6, ck]
    exact ⟨σ, rfl, rfl, fun _ _ => rfl, rfl, fun i => by rw [if_neg (by omega)]⟩
  | n + 1, m, t, σ, ht, hm, h58, h26 => by
    obtain ⟨m, rfl⟩ : ∃ q, m = q + 1 := ⟨m - 1, by omega⟩
    have ck : (Int32.ofNat k).toNatClampNeg = k := cl_5 (by omega)
    have ct : (Int32.ofNat t).toNatClampNeg = t := cl_5 (by omega)
    have l8 : (8 : Int32).toInt = 8 := rfl
    have ld := ofn_i (n := d) (by omega)
    have e1 : (8 : Int32) * (σ.1 58 - 1) = Int32.ofNat (8 * d) := by
      rw [of_s5 (b := d) h58 (by omega)]
      exact Int32.toInt_inj.mp (by rw [mul_i (by rw [l8, ld]; omega) (by rw [l8, ld]; omega), l8, ld, ofn_i (by omega)]; omega)
    have c2 : ((8 : Int32) * (σ.1 58 - 1) + Int32.ofNat t).toNatClampNeg = 8 * d + t := by rw [e1, on_5 (by omega), cl_5 (by omega)]
    have step : ∀ x : Int32, x = (if t < n0 then σ.2.2.1 68 t else 0) → ∃ σ', g5_call_167 (g5_call_122 m) (Int32.ofNat k) (Int32.ofNat t) ((8 : Int32) * (σ.1 58 - 1) + Int32.ofNat t) x σ = g5_moveTo (σ'.2.2.1 29 k) σ' ∧ σ'.1 = σ.1 ∧ (∀ g, g ≠ 60 → σ'.2.2.1 g = σ.2.2.1 g) ∧ σ'.2.2.2 = σ.2.2.2 ∧ ∀ i, σ'.2.2.1 60 i = if 8 * d + t ≤ i ∧ i < 8 * d + 8 then (if i - 8 * d < n0 then σ.2.2.1 68 (i - 8 * d) else 0) else σ.2.2.1 60 i := fun x hx => by
      unfold g5_call_167
      rw [pb_e5, pb_e5, c2, on_15 (by omega)]
      obtain ⟨σ', u1, u2, u3, u4, u5⟩ := opR_6 h4 hk hd n m (t + 1) (riU σ 60 (8 * d + t) x) (by omega) (by omega) h58 (by rw [ri_o6 (by decide)]; exact h26)
      refine ⟨σ', u1, u2, fun g q => (u3 g q).trans (ri_o6 q), u4, fun i => ?_⟩
      rw [u5 i, ri_o6 (by decide), ri_s6]
      by_cases q1 : i = 8 * d + t
      · have q3 : i - 8 * d = t := by omega
        rw [if_neg (by omega), if_pos q1, if_pos (by omega), q3, hx]
      · by_cases q2 : 8 * d + (t + 1) ≤ i ∧ i < 8 * d + 8
        · rw [if_pos q2, if_pos (show 8 * d + t ≤ i ∧ i < 8 * d + 8 by omega)]
        · rw [if_neg q2, if_neg q1, if_neg (by omega)]
    rw [g5_call_122, if_neg (show ¬ (8 : Int32) ≤ Int32.ofNat t by rw [lei, ofn_i (by omega), l8]; omega), ck, h26, ct]
    by_cases q : t < n0
    · rw [if_neg (show ¬ Int32.ofNat n0 ≤ Int32.ofNat t by rw [lei, ofn_i (by omega), ofn_i (by omega)]; omega)]
      exact step _ (by rw [if_pos q])
    · rw [if_pos (show Int32.ofNat n0 ≤ Int32.ofNat t by rw [lei, ofn_i (by omega), ofn_i (by omega)]; omega)]
      exact step _ (by rw [if_neg q])
end

end
