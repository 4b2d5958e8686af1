section
set_option maxHeartbeats 1600000
/-! both machines: a call statement -/
section
variable {T : T5} {X : X5} {Bk N nv na f s w d : Nat} {Z : Int32} {e e' : E5} {σ σ' : rS}
/-- the memory of both sides with a call opened -/
theorem MB_o6 {j n0 : Nat} {e4 e5 : E5} {σ4 σ5 : rS} (M : MB6 nv w s d e4 σ4) (d0 : 0 < d) (d12 : d < 12) (hj : j < s) (at1 : e4.2.1 701 (w + 9 * (d - 1)) = Int32.ofNat j) (at2 : σ4.2.2.1 59 (d - 1) = Int32.ofNat j) (k5 : σ4.2.2.1 30 j = 5) (n4 : n0 ≤ 4) (ha : ∀ t, t < n0 → e4.2.1 707 t = σ4.2.2.1 68 t)
    (h702 : e5.1 702 = e4.1 702) (h703 : e5.1 703 = Int32.ofNat (d + 1)) (h704 : e5.1 704 = Int32.ofNat (w + 9 * d)) (hl : e5.2.2 = e4.2.2) (hm : ∀ i, e5.2.1 701 i = if w + 9 * d + 1 ≤ i ∧ i < w + 9 * d + 1 + n0 then e4.2.1 707 (i - (w + 9 * d + 1)) else if w + 9 * d ≤ i ∧ i < w + 9 * d + 9 then 0 else e4.2.1 701 i)
    (h58 : σ5.1 58 = Int32.ofNat (d + 1)) (r57 : σ5.2.2.1 57 = σ4.2.2.1 57) (r59 : σ5.2.2.1 59 = σ4.2.2.1 59) (r30 : σ5.2.2.1 30 = σ4.2.2.1 30) (r60 : ∀ i, σ5.2.2.1 60 i = if 8 * d + 0 ≤ i ∧ i < 8 * d + 8 then (if i - 8 * d < n0 then σ4.2.2.1 68 (i - 8 * d) else 0) else σ4.2.2.1 60 i) : MB6 nv w s (d + 1) e5 σ5 := by
  obtain ⟨⟨m1, m2, m3⟩, ⟨m4, m5, m6, m7, m8⟩, m9, m10, m11⟩ := M
  refine ⟨⟨h702.trans m1, m2, m3.1, zt_o6 r57 m3.2⟩, ⟨h703, h58, by omega, h704, by rw [hl]; exact m8⟩, fun i hi => ?_, fun c hc => ?_, fun c k hc hk => ?_⟩
  · rw [hm i, if_neg (by omega), if_neg (by omega), r57]; exact m9 i hi
  · have hmc : e5.2.1 701 (w + 9 * c) = e4.2.1 701 (w + 9 * c) := by rw [hm, if_neg (by omega), if_neg (by omega)]
    rw [hmc, r59, r30]
    by_cases q : c + 1 = d
    · have q' : c = d - 1 := by omega
      rw [q']
      exact ⟨j, hj, at1, at2, k5⟩
    · exact m10 c (by omega)
  · rw [hm, r60]
    by_cases q : c = d
    · rw [q]
      have z1 : w + 9 * d + 1 + k - (w + 9 * d + 1) = k := by omega
      have z2 : 8 * d + k - 8 * d = k := by omega
      rw [z1, z2, if_pos (show 8 * d + 0 ≤ 8 * d + k ∧ 8 * d + k < 8 * d + 8 by omega)]
      by_cases q2 : k < n0
      · rw [if_pos (show w + 9 * d + 1 ≤ w + 9 * d + 1 + k ∧ w + 9 * d + 1 + k < w + 9 * d + 1 + n0 by omega), if_pos q2]
        exact ha k q2
      · rw [if_neg (show ¬ (w + 9 * d + 1 ≤ w + 9 * d + 1 + k ∧ w + 9 * d + 1 + k < w + 9 * d + 1 + n0) by omega), if_pos (show w + 9 * d ≤ w + 9 * d + 1 + k ∧ w + 9 * d + 1 + k < w + 9 * d + 9 by omega), if_neg q2]
    · rw [if_neg (show ¬ (w + 9 * d + 1 ≤ w + 9 * c + 1 + k ∧ w + 9 * c + 1 + k < w + 9 * d + 1 + n0) by omega), if_neg (show ¬ (w + 9 * d ≤ w + 9 * c + 1 + k ∧ w + 9 * c + 1 + k < w + 9 * d + 9) by omega), if_neg (show ¬ (8 * d + 0 ≤ 8 * c + k ∧ 8 * c + k < 8 * d + 8) by omega)]
      exact m11 c k (by omega) hk
theorem fo_6 {k : Nat} (hk : k < 10) : fo6 (Int32.ofNat k) e = e.2.1 503 k := by
  have lk := ofn_i (n := k) (by omega)
  unfold fo6
  rw [if_neg (show ¬ Int32.ofNat k < 0 by rw [lti, lk, t0i]; omega), if_neg (show ¬ (10 : Int32) ≤ Int32.ofNat k by rw [lei, lk, show (10 : Int32).toInt = 10 from rfl]; omega), cl_5 (by omega)]
theorem ac5_6 {j x pc n0 p' a' : Nat} {e2 : E5} (H : TR5 T X Bk N Z) (hE : T.2.1 (N - 1) = 142) (F : FN6 T Bk N nv na f s e σ) (M : MB6 nv w s d e σ) (d0 : 0 < d) (hw : (w : Int) = nv + (e.1 511).toInt) (hj : j < s) (at1 : e.2.1 701 (w + 9 * (d - 1)) = Int32.ofNat j) (at2 : σ.2.2.1 59 (d - 1) = Int32.ofNat j) (h711 : e.1 711 = 0) (hst : e.2.2 705 = 256) (hwk : e.2.2 707 = 16) (hsx : sx5 σ = X)
    (h32 : σ.2.2.1 32 j = Int32.ofNat (Bk + x)) (xN : x < N) (h3 : e.2.1 506 (11 * j + 3) = Int32.ofNat pc) (hk : σ.2.2.1 30 j = 5) (h0 : e.2.1 506 (11 * j) = 5) (nB : n0 ≤ 65537) (h4 : e.2.1 506 (11 * j + 4) = Int32.ofNat n0) (hp : ∀ k, k < f → ∃ n, n ≤ 4 ∧ σ.2.2.1 26 k = Int32.ofNat n) (am : f5_Ma_aim (Int32.ofNat j) (ab6 (Int32.ofNat pc) e) = .inl (e2, ())) (am1 : ∀ g, g ≠ 708 → e2.1 g = (ab6 (Int32.ofNat pc) e).1 g) (am2 : e2.2 = e.2) (hx : n0 = 0 ∨ (xs6 T Bk nv na e (σ.2.2.1 39) n0 pc (x + 2) p' a' ∧ a' < N)) : ∃ e' σ' r, f5_Ma_act e = .inl (e', ()) ∧ g5_act σ = (σ', r) ∧ FM6 e e' σ σ' ∧ AX6 nv w s d e e' σ σ' r := by
  have MT0 : MT6 nv w s d e σ := ⟨M, j, hj, at1, at2⟩
  have hh := H.1
  have s150 := F.1.2.2.2.1.2
  have d12 := M.2.1.2.2.1
  have mw := M.1.2
  have cj : (Int32.ofNat j).toNatClampNeg = j := cl_5 (by omega)
  obtain ⟨t, k, tN, kf, _, _, c1, c2, c3, c4⟩ := F.2.2.2.2.1 j hj hk
  have f10 := F.1.2.2.1.2
  have tx : t = x := by
    have y := congrArg Int32.toInt (c1.symm.trans h32)
    rw [ofn_i (by omega), ofn_i (by omega)] at y
    omega
  rw [tx] at c3
  have h26 : σ.2.2.1 26 k = Int32.ofNat n0 := by rw [← F.2.2.2.2.2.1 k kf, c4, h4]
  have n4 : n0 ≤ 4 := by
    obtain ⟨n, n1, n2⟩ := hp k kf
    have y := congrArg Int32.toInt (h26.symm.trans n2)
    rw [ofn_i (by omega), ofn_i (by omega)] at y
    omega
  -- the class begins
  have A1 : WA6 (ab6 (Int32.ofNat pc) e) e2 := ⟨fun g _ q _ => am1 g q, fun _ _ _ => by rw [am2]; rfl, by rw [am2]; rfl⟩
  have F1 : FM6 e e2 σ (ar6b σ) := FM_t6 (FM_b6 (p := Int32.ofNat pc) F.2.1.1) (FM_f6 A1 FB_r6)
  have ME1 : ME6 e e2 σ (ar6b σ) := ME_t6 (ME_b6 (p := Int32.ofNat pc)) (ME_f6 A1 FB_r6)
  have M1 : MB6 nv w s d e2 (ar6b σ) := MB_f6 (MB_b6 M) A1 FB_r6
  have FN1 := FN_m6 F F1
  have est2 : e2.1 coStatements = Int32.ofNat s := FN1.1.2.2.2.1.1
  have f706 : e2.1 706 = Int32.ofNat pc := am1 706 (by decide)
  have f711 : e2.1 711 = 0 := (am1 711 (by decide)).trans h711
  have f713 : e2.1 713 = 0 := am1 713 (by decide)
  have f714 : e2.1 714 = 0 := am1 714 (by decide)
  have f715 : e2.1 715 = -1 := am1 715 (by decide)
  have c4' : cl5 (Int32.ofNat j) 4 e2 = Int32.ofNat n0 := (cl_55 (s := j) (c := 4) est2 (by omega) (by omega) (by decide)).trans (by rw [am2]; exact h4)
  have eC : f5_Ma_act e = f5_Ma_act_55 fu5 (Int32.ofNat j) (Int32.ofNat n0) 0 e2 := by rw [acC_6 F M hj at1 h3, am, rdl_5, pb_e5, c4']
  -- the reference begins
  have eR := acR_6 M d0 (by omega) at2
  have w32 : (ar6b σ).2.2.1 32 j = Int32.ofNat (Bk + x) := h32
  have w39 : (ar6b σ).2.2.1 39 (Bk + x) = Int32.ofNat (300 + k) := c3
  have t2 : Int32.ofNat (Bk + x) + 2 = Int32.ofNat (Bk + (x + 2)) := on_5 (b := 2) (by omega)
  rw [if_pos hk, pmq_6] at eR
  unfold g5_call at eR
  rw [pb_e5, pb_e5, pb_e5, cj, w32, cl_5 (by omega), w39, s300_6 (by omega), t2] at eR
  have s62 : (ar6b σ).1 62 = 0 := rfl
  have s46 : (ar6b σ).1 46 = 1 := rfl
  have s47 : (ar6b σ).1 47 = 0 := rfl
  have s13 : (ar6b σ).1 13 = 0 := rfl
  have sxa : sx5 (ar6b σ) = X := hsx
  have at1' : e2.2.1 701 (w + 9 * (d - 1)) = Int32.ofNat j := by rw [am2]; exact at1
  have at2' : (ar6b σ).2.2.1 59 (d - 1) = Int32.ofNat j := at2
  have k5' : (ar6b σ).2.2.1 30 j = 5 := hk
  have h26' : (ar6b σ).2.2.1 26 k = Int32.ofNat n0 := h26
  generalize ar6b σ = σ1 at eR F1 ME1 M1 FN1 w32 w39 s62 s46 s47 s13 sxa at2' k5' h26'
  have B3 : FB6 σ1 (siU σ1 10 (Int32.ofNat (Bk + (x + 2)))) := FB_s6 (by omega)
  have q10 : (siU σ1 10 (Int32.ofNat (Bk + (x + 2)))).1 10 = Int32.ofNat (Bk + (x + 2)) := rfl
  have q47 : (siU σ1 10 (Int32.ofNat (Bk + (x + 2)))).1 47 = 0 := s47
  have q13 : (siU σ1 10 (Int32.ofNat (Bk + (x + 2)))).1 13 = 0 := s13
  have q46 : (siU σ1 10 (Int32.ofNat (Bk + (x + 2)))).1 46 = 1 := s46
  have q2 : (siU σ1 10 (Int32.ofNat (Bk + (x + 2)))).2 = σ1.2 := rfl
  generalize siU σ1 10 (Int32.ofNat (Bk + (x + 2))) = σ3 at eR B3 q10 q47 q13 q46 q2
  have FM3 : FM6 e e2 σ σ3 := FM_t6 F1 (FM_f6 WA_r6 B3)
  have ME3 : ME6 e e2 σ σ3 := ME_t6 ME1 (ME_f6 WA_r6 B3)
  have FN3 := FN_m6 F FM3
  have M3 := MB_f6 M1 WA_r6 B3
  have hw2 : (w : Int) = nv + (e2.1 511).toInt := by rw [F1.1.1 511 (by decide)]; exact hw
  obtain ⟨e4, σ4, u1, u2, WB, B4, u5⟩ := cal_6 (j := j) H hE d0 n4 (show k ≤ 1000 by omega) n0 0 fu5 fu5 pc (x + 2) p' a' e2 σ3 (by
    rcases hx with q | ⟨q, q'⟩
    · exact Or.inl q
    · exact Or.inr ⟨xs_n6 q FM3, q'⟩) (by omega) FN3 M3 hw2 f706 f713 (by rw [am2]; exact hst) (by rw [am2]; exact hwk) ⟨FN3.2.1.1, q46, q47⟩ q13 (sx_f6 B3 sxa) (by rw [q2]; exact h26') (fun _ => q10) (fun t ht => by omega) (by unfold fu5; omega) (by unfold fu5; omega)
  have u1 : f5_Ma_act_55 fu5 (Int32.ofNat j) (Int32.ofNat n0) 0 e2 = f5_Ma_act_92 (Int32.ofNat j) e4 := u1
  have u2 : g5_call_28 fu5 (Int32.ofNat k) 0 σ3 = g5_call_73 (Int32.ofNat k) σ4 := u2
  rw [u1] at eC
  rw [u2] at eR
  have FM4 : FM6 e e4 σ σ4 := FM_t6 FM3 (FM_f6 (WA_b6 WB) B4)
  have ME4 : ME6 e e4 σ σ4 := ME_t6 ME3 (ME_f6 (WA_b6 WB) B4)
  have FN4 := FN_m6 F FM4
  have M4 := MB_f6 M3 (WA_b6 WB) B4
  have g711 : e4.1 711 = 0 := (WB.1 711 (by decide) (by decide)).trans f711
  have g714 : e4.1 714 = 0 := (WB.1 714 (by decide) (by decide)).trans f714
  have g715 : e4.1 715 = -1 := (WB.1 715 (by decide) (by decide)).trans f715
  have B14 := FB_t6 B3 B4
  have t62 : σ4.1 62 = 0 := (B14.1 62 (by decide) (by decide) (by decide) (by decide) (by decide) (by decide) (by decide) (by decide)).trans s62
  have g59 : σ4.2.2.1 59 (d - 1) = Int32.ofNat j := by rw [B14.2.1 59 (by decide) (by decide) (by decide) (by decide) (by decide) (by decide)]; exact at2'
  have g30 : σ4.2.2.1 30 j = 5 := by rw [B14.2.1 30 (by decide) (by decide) (by decide) (by decide) (by decide) (by decide)]; exact k5'
  have g26 : σ4.2.2.1 26 k = Int32.ofNat n0 := by rw [B14.2.1 26 (by decide) (by decide) (by decide) (by decide) (by decide) (by decide)]; exact h26'
  have g701 : e4.2.1 701 (w + 9 * (d - 1)) = Int32.ofNat j := by rw [WB.2.1 701 (by decide) (by decide)]; exact at1'
  have k506 : ∀ c, e4.2.1 506 c = e.2.1 506 c := fun c => by rw [FM4.1.2.1 506 (by decide)]
  unfold g5_call_73 at eR
  rcases u5 with ⟨g713, p47, hv⟩ | ⟨y, hy, g713, p47⟩
  · rw [if_neg (show ¬ 0 < σ4.1 47 by rw [p47]; decide)] at eR
    rw [a92_6 FN4 hj g713, k506, h0] at eC
    obtain ⟨e5, he5⟩ : ∃ e5, e5 = fl6 710 0 (fl6 709 (σ4.2.2.1 37 j) e4) := ⟨_, rfl⟩
    have FM5 : FM6 e4 e5 σ4 σ4 := by rw [he5]; exact FM_t6 (FM_k6 (by decide)) (FM_k6 (by decide))
    have ME5 : ME6 e4 e5 σ4 σ4 := by rw [he5]; exact ME_t6 (ME_k6 (by decide)) (ME_k6 (by decide))
    have FN5 := FN_m6 FN4 FM5
    have M5 : MB6 nv w s d e5 σ4 := by rw [he5]; exact MB_k6 (by decide) (MB_k6 (by decide) M4)
    have b710 : e5.1 710 = 0 := by rw [he5]; rfl
    have b711 : e5.1 711 = 0 := by rw [he5]; exact g711
    have b714 : e5.1 714 = 0 := by rw [he5]; exact g714
    have b715 : e5.1 715 = -1 := by rw [he5]; exact g715
    have b2 : e5.2 = e4.2 := by rw [he5]; rfl
    rw [← he5] at eC
    clear he5
    have est5 : e5.1 coStatements = Int32.ofNat s := FN5.1.2.2.2.1.1
    have l5 : cl5 (Int32.ofNat j) 5 e5 = Int32.ofNat k := (cl_55 (s := j) (c := 5) est5 (by omega) (by omega) (by decide)).trans (by rw [b2, k506]; exact c2)
    have l4 : cl5 (Int32.ofNat j) 4 e5 = Int32.ofNat n0 := (cl_55 (s := j) (c := 4) est5 (by omega) (by omega) (by decide)).trans (by rw [b2, k506]; exact h4)
    have ob : f5_Ma_obey (Int32.ofNat j) 5 e5 = f5_Ma_openCall (Int32.ofNat k) (Int32.ofNat n0) e5 := by
      unfold f5_Ma_obey
      rw [pb_e5, if_neg (by decide), if_neg (by decide), if_neg (by decide), if_neg (by decide), if_neg (by decide), if_pos (by decide), pb_e5, pb_e5, l5, l4, rb_u5]
    rw [ob] at eC
    have o703 : e5.1 maOpen = Int32.ofNat d := M5.2.1.1
    have o704 : e5.1 maFrame = Int32.ofNat (w + 9 * (d - 1)) := M5.2.1.2.2.2.1
    have s58 : σ4.1 58 = Int32.ofNat d := M5.2.1.2.1
    have ld := ofn_i (n := d) (by omega)
    have l12 : (12 : Int32).toInt = 12 := rfl
    unfold f5_Ma_openCall at eC
    rw [o703] at eC
    by_cases q : d = 12
    · rw [if_neg (show ¬ Int32.ofNat d < 12 by rw [lti, ld, l12]; omega)] at eC
      rw [if_pos (show σ4.1 58 = 12 by rw [s58, q]; rfl)] at eR
      have c89 : g5_call_89 σ4 = (siU σ4 61 4, 2) := by
        unfold g5_call_89
        rw [if_pos (show σ4.1 47 ≤ 0 by rw [p47]; decide)]
        rfl
      rw [c89] at eR
      have ff : f5_Ma_fail 4 e5 = .inl (fl6 711 2 (fl6 713 4 e5), ()) := rfl
      rw [rb_u5, ff, rdl_5] at eC
      unfold tal6 at eC
      rw [if_pos (show (fl6 711 2 (fl6 713 4 e5)).1 maWants = -1 from b715), if_neg (show ¬ (fl6 711 2 (fl6 713 4 e5)).1 maOutcome = 0 by show ¬ (2 : Int32) = 0; decide)] at eC
      exact bad_6 (y := 4) (e4 := fl6 713 4 e5) (MT_e6 MT0 (ME_t6 ME4 (ME_t6 ME5 (ME_t6 (σ' := σ4) (ME_k6 (by decide)) (ME_f6 WA_r6 (FB_s6 (by omega))))))) (FM_t6 FM4 (FM_t6 FM5 (FM_t6 (σ' := σ4) (FM_k6 (by decide)) (FM_f6 WA_r6 (FB_s6 (by omega)))))) fl_s6 b714 b715 eC eR rfl
    · rw [if_pos (show Int32.ofNat d < 12 by rw [lti, ld, l12]; omega), st_f6, rdl_5, st_f6, rdl_5] at eC
      rw [if_neg (show ¬ σ4.1 58 = 12 from fun z => by
        rw [s58] at z
        have z := congrArg Int32.toInt z
        rw [ld, l12] at z
        omega), pb_e5, s58, on_15 (by omega)] at eR
      obtain ⟨e6, he6⟩ : ∃ e6, e6 = fl6 704 (Int32.ofNat (w + 9 * d)) (fl6 703 (Int32.ofNat (d + 1)) e5) := ⟨_, rfl⟩
      have fr9 : Int32.ofNat (w + 9 * (d - 1)) + 9 = Int32.ofNat (w + 9 * d) := by
        rw [show (9 : Int32) = Int32.ofNat 9 from rfl, on_5 (by omega)]
        congr 1
        omega
      have e6' : fl6 maFrame ((fl6 maOpen (Int32.ofNat d + 1) e5).1 maFrame + 9) (fl6 maOpen (Int32.ofNat d + 1) e5) = e6 := by
        have z : (fl6 maOpen (Int32.ofNat d + 1) e5).1 maFrame = Int32.ofNat (w + 9 * (d - 1)) := (fl_o6 (by decide)).trans o704
        rw [z, fr9, on_15 (by omega), he6]
      rw [e6'] at eC
      have h6f : e6.1 maFrame = Int32.ofNat (w + 9 * d) := by rw [he6]; exact fl_s6
      have h6o : ∀ g, g ≠ 703 → g ≠ 704 → e6.1 g = e5.1 g := fun g z1 z2 => by rw [he6, fl_o6 z2, fl_o6 z1]
      have h63 : e6.1 703 = Int32.ofNat (d + 1) := by rw [he6]; rfl
      have h62 : e6.2 = e4.2 := by rw [he6]; exact b2
      clear he6 e6'
      have fr18 : Int32.ofNat (w + 9 * d) + 9 = Int32.ofNat (w + 9 * d + 9) := by
        rw [show (9 : Int32) = Int32.ofNat 9 from rfl, on_5 (by omega)]
      obtain ⟨e7, he7, h71, h72, h73, h74⟩ : ∃ e7 : E5, f5_Ar_fill4 (Int32.ofNat (w + 9 * d)) (Int32.ofNat (w + 9 * d + 9)) 0 e6 = .inl (e7, ()) ∧ e7.1 = e6.1 ∧ (∀ g, g ≠ 701 → e7.2.1 g = e4.2.1 g) ∧ e7.2.2 = e4.2.2 ∧ ∀ i, e7.2.1 701 i = if w + 9 * d ≤ i ∧ i < w + 9 * d + 9 then 0 else e4.2.1 701 i := by
        unfold f5_Ar_fill4
        rw [cl_5 (by omega), cl_5 (by omega)]
        refine ⟨_, rfl, rfl, fun g z => ?_, by rw [h62], fun i => ?_⟩
        · funext i
          show (if g = maMemory ∧ w + 9 * d ≤ i ∧ i < w + 9 * d + 9 then 0 else e6.2.1 g i) = _
          rw [if_neg (fun y => z y.1), h62]
        · show (if maMemory = maMemory ∧ w + 9 * d ≤ i ∧ i < w + 9 * d + 9 then 0 else e6.2.1 701 i) = _
          by_cases z : w + 9 * d ≤ i ∧ i < w + 9 * d + 9
          · rw [if_pos ⟨rfl, z⟩, if_pos z]
          · rw [if_neg (fun y => z y.2), if_neg z, h62]
      rw [h6f, fr18, he7, rdl_5] at eC
      obtain ⟨e8, v1, v2, v3, v4, v5⟩ := opC_6 (k := Int32.ofNat k) (fr := w + 9 * d) n4 (by omega) n0 fu5 0 e7 (by omega) (by unfold fu5; omega) (by rw [h71]; exact h6f)
      have v1 : f5_Ma_openCall_57 fu5 (Int32.ofNat k) (Int32.ofNat n0) 0 e7 = f5_Ma_openCall_92 (Int32.ofNat k) e8 := v1
      rw [v1] at eC
      obtain ⟨σ5, r1, r2, r3, r4, r5⟩ := opR_6 (d := d) n4 (show k ≤ 1000 by omega) (by omega) 8 fu5 0 (siU σ4 58 (Int32.ofNat (d + 1))) (by omega) (by unfold fu5; omega) rfl g26
      have r1 : g5_call_122 fu5 (Int32.ofNat k) 0 (siU σ4 58 (Int32.ofNat (d + 1))) = g5_moveTo (σ5.2.2.1 29 k) σ5 := r1
      rw [r1] at eR
      have ro : ∀ g, g ≠ 58 → σ5.1 g = σ4.1 g := fun g z => by rw [r2, si1, if_neg z]
      have eo : ∀ g, g ≠ 703 → g ≠ 704 → e8.1 g = e5.1 g := fun g z1 z2 => by rw [v2, h71]; exact h6o g z1 z2
      have FM8 : FM6 e5 e8 σ4 σ5 := ⟨⟨fun g z => eo g (by omega) (by omega), fun g z => by rw [v3 g (by omega), h72 g (by omega), b2], by rw [v4, h73, b2]⟩, fun g z => ro g (by omega), fun g z => r3 g (by omega), r4⟩
      have FN8 := FN_m6 FN5 FM8
      have M8 : MB6 nv w s (d + 1) e8 σ5 := MB_o6 (n0 := n0) M4 d0 (by omega) hj g701 g59 g30 n4 hv (by rw [eo 702 (by decide) (by decide), FM5.1.1 702 (by decide)]) (by rw [v2, h71]; exact h63) (by rw [v2, h71]; exact h6f) (by rw [v4, h73]) (fun i => by
        rw [v5 i, h72 707 (by decide), h74 i]) (by rw [r2]; rfl) (r3 57 (by decide)) (r3 59 (by decide)) (r3 30 (by decide)) r5
      obtain ⟨tf1, tf2⟩ := FN8.2.2.2.2.2.2.1.2.1 k kf
      have oc : f5_Ma_openCall_92 (Int32.ofNat k) e8 = .inl (fl6 709 (σ5.2.2.1 29 k) e8, ()) := by
        unfold f5_Ma_openCall_92
        rw [pb_e5, fo_6 (by omega), tf1, st_f6, rdl_5]
      rw [oc, rdl_5] at eC
      obtain ⟨e', σ', r, z1, z2, z3⟩ := tal_6 (e := fl6 709 (σ5.2.2.1 29 k) e8) (G := σ5.2.2.1 29 k) (by omega) (by omega) (FN_m6 FN8 (FM_k6 (by decide))) (MB_k6 (by decide) M8) (by omega) fl_s6 ((fl_o6 (by decide)).trans ((eo 710 (by decide) (by decide)).trans b710)) ((fl_o6 (by decide)).trans ((eo 715 (by decide) (by decide)).trans b715)) ((fl_o6 (by decide)).trans ((eo 711 (by decide) (by decide)).trans b711)) tf2
      rw [pmq_6] at z2
      obtain ⟨y1, y2⟩ := AE_x6 z3 ((fl_o6 (by decide)).trans ((eo 711 (by decide) (by decide)).trans b711)) (by
        rw [fl_o6 (by decide), eo 714 (by decide) (by decide), b714, ro 62 (by decide), t62])
      exact ⟨e', σ', r, eC.trans z1, eR.trans z2, FM_t6 FM4 (FM_t6 FM5 (FM_t6 FM8 (FM_t6 (FM_k6 (by decide)) z3.1))), Or.inl ⟨y2.trans ((fl_o6 (by decide)).trans ((eo 715 (by decide) (by decide)).trans b715)), y1⟩, fun q => absurd q (AE_r6 y1)⟩
  · rw [if_pos (y12_6 p47 hy).2] at eR
    have c89 : g5_call_89 σ4 = (siU σ4 61 (σ4.1 47), 2) := by
      unfold g5_call_89
      rw [if_neg (y12_6 p47 hy).1]
      rfl
    rw [c89] at eR
    rw [a9f_6 g713 hy] at eC
    exact bad_6 (MT_e6 MT0 (ME_t6 ME4 (ME_f6 WA_r6 (FB_s6 (by omega))))) (FM_t6 FM4 (FM_f6 WA_r6 (FB_s6 (by omega)))) g713 g714 g715 eC eR p47
end

end
section
set_option maxHeartbeats 1600000
/-! both machines: a statement, whichever -/
section
variable {T : T5} {X : X5} {Bk N nv na f s w d : Nat} {Z : Int32} {e e' : E5} {σ σ' : rS}
theorem sx_m6 (k : FM6 e e' σ σ') (h : sx5 σ = X) : sx5 σ' = X := by
  rw [← h]
  unfold sx5
  rw [k.2.2.1 5 (by decide), k.2.2.1 6 (by decide), k.2.2.1 7 (by decide), k.2.2.1 9 (by decide), k.2.2.2]
theorem act_6 (H : TR5 T X Bk N Z) (hE : T.2.1 (N - 1) = 142) (F : FN6 T Bk N nv na f s e σ) (M : MB6 nv w s d e σ) (d0 : 0 < d) (A : AT6 w s d e σ) (hw : (w : Int) = nv + (e.1 511).toInt) (h711 : e.1 711 = 0) (hst : e.2.2 705 = 256) (hwk : e.2.2 707 = 16) (hsx : sx5 σ = X) (hp : ∀ k, k < f → ∃ n, n ≤ 4 ∧ σ.2.2.1 26 k = Int32.ofNat n) : ∃ e' σ' r, f5_Ma_act e = .inl (e', ()) ∧ g5_act σ = (σ', r) ∧ FM6 e e' σ σ' ∧ AX6 nv w s d e e' σ σ' r := by
  obtain ⟨j, hj, at1, at2⟩ := A
  have hh := H.1
  have s150 := F.1.2.2.2.1.2
  have cj : (Int32.ofNat j).toNatClampNeg = j := cl_5 (by omega)
  obtain ⟨z, zN, b, x, pc, h31, h32, h3, bx, xz, pcb, h7⟩ := F.2.2.1 j hj
  have F1 : FM6 e (ab6 (Int32.ofNat pc) e) σ (ar6b σ) := FM_b6 F.2.1.1
  have FN1 := FN_m6 F F1
  have M1 : MB6 nv w s d (ab6 (Int32.ofNat pc) e) (ar6b σ) := MB_b6 M
  have est1 : (ab6 (Int32.ofNat pc) e).1 513 = Int32.ofNat s := FN1.1.2.2.2.1.1
  have ok1 : ok6 (ar6b σ) := ⟨rfl, rfl, rfl⟩
  have hw1 : (w : Int) = nv + ((ab6 (Int32.ofNat pc) e).1 511).toInt := hw
  rcases h7 with ⟨q1, q2, q3, q4, q5, q6, q7, q8, p', a', q9, q10⟩ | ⟨kb, p1, hp1, h8⟩ | ⟨q1, q2, q3, q4, q5, n, q6, q7, q8⟩ | ⟨q1, q2, q3, q4, p', a', q5, q6⟩
  · obtain ⟨e2, i, t1, t2, t3, t4, t5, t6⟩ := amn_6 (Bk := Bk) (t := b + 1) (e := ab6 (Int32.ofNat pc) e) (σ := ar6b σ) est1 hj s150 M1 (by omega) q8
    have fp : g5_findPlace (Int32.ofNat j) (ar6b σ) = siU (ar6b σ) 67 ((ar6b σ).2.2.1 39 (Bk + (b + 1))) := by
      unfold g5_findPlace
      have w30 : (ar6b σ).2.2.1 30 j = 1 := q1
      have w31 : (ar6b σ).2.2.1 31 j = Int32.ofNat (Bk + b) := h31
      rw [cj, if_pos w30, w31, on_15 (by omega)]
      exact t5
    obtain ⟨e', σ', r, u1, u2, u3, u4, u5⟩ := ac2_6 (p1 := pc) H hE F M d0 hw hj at1 at2 h711 hst hwk hsx h32 h3 (Or.inl q1) q2 q3 t1 fp ⟨⟨fun g _ q _ => t3 g q, fun _ _ _ => by rw [t4], by rw [t4]⟩, FA_s6, Or.inl ⟨i, t2, t6, t3 706 (by decide), t3 713 (by decide), rfl, rfl⟩⟩ q9 (by omega)
    exact ⟨e', σ', r, u1, u2, u3, Or.inl ⟨u4, u5⟩, fun q => absurd q (AE_r6 u5)⟩
  · have n1 : ¬ σ.2.2.1 30 j = 1 := by
      rcases h8 with ⟨q, _⟩ | ⟨q, _⟩ | ⟨q, _⟩ | ⟨q, _⟩ | ⟨q, _⟩ <;> rw [q] <;> decide
    have hp2 : pq6 T Bk nv na (ab6 (Int32.ofNat pc) e) ((ar6b σ).2.2.1 39) ((ab6 (Int32.ofNat pc) e).2.1 506 (11 * j + 1)) ((ab6 (Int32.ofNat pc) e).2.1 506 (11 * j + 2)) b pc p1 z := pq_m6 hp1 kb (by omega) (cm_e6 (F1.1.1 515 (by decide)) (F1.1.2.1 507 (by decide)) (F1.1.2.1 508 (by decide))) (Nat.le_refl _) (Nat.le_refl _) (fun t _ _ _ _ => rfl)
    obtain ⟨e2, σ2, am, fp0, A⟩ := pq_6 H hE FN1 M1 d0 hw1 hj hp2 (by omega) (by omega) rfl rfl hst ok1 rfl hsx
    have fp : g5_findPlace (Int32.ofNat j) (ar6b σ) = σ2 := by
      unfold g5_findPlace
      have w30 : ¬ (ar6b σ).2.2.1 30 j = 1 := n1
      have w31 : (ar6b σ).2.2.1 31 j = Int32.ofNat (Bk + b) := h31
      rw [cj, if_neg w30, w31]
      exact fp0
    rcases h8 with ⟨q1, q2, q3, p', a', q4, q5⟩ | ⟨q1, q2, q3, q4, p', a', q5, q6⟩ | ⟨q1, q2, q3, q4, p2, a2, p', a', q5, q6, q7⟩ | ⟨q1, q2, q3, n, p', a', q4, q5, q6, q7⟩ | ⟨q1, q2, q3, p', a', q4, q5⟩
    · obtain ⟨e', σ', r, u1, u2, u3, u4, u5⟩ := ac2_6 H hE F M d0 hw hj at1 at2 h711 hst hwk hsx h32 h3 (Or.inr q1) q2 q3 am fp A q4 (by omega)
      exact ⟨e', σ', r, u1, u2, u3, Or.inl ⟨u4, u5⟩, fun q => absurd q (AE_r6 u5)⟩
    · exact ac3p_6 H hE F M d0 hw hj at1 at2 h711 hst hwk hsx h32 h3 q1 q2 q3 q4 am fp A q5 (by omega)
    · exact fl3_6 H hE F M d0 hw hj at1 at2 h711 hst hwk hsx h32 h3 q1 q2 q3 q4 am fp A q5 q6 (by omega)
    · exact sp3_6 H hE F M d0 hw hj at1 at2 h711 hst hwk hsx h32 h3 q1 q2 q4 q5 q3 am fp A q6 (by omega) (by omega)
    · exact ac4_6 H hE F M d0 hw hj at1 at2 h711 hst hwk hsx h32 h3 q1 q2 q3 am fp A q4 (by omega)
  · have pl : ∃ e2, f5_Ma_aim (Int32.ofNat j) (ab6 (Int32.ofNat pc) e) = .inl (e2, ()) ∧ (∀ g, g ≠ 708 → e2.1 g = (ab6 (Int32.ofNat pc) e).1 g) ∧ e2.2 = e.2 := by
      rcases q5 with ⟨_, y⟩ | ⟨_, _, _, y⟩
      · refine ⟨fl6 708 (-1) (ab6 (Int32.ofNat pc) e), ?_, fun g q => fl_o6 q, rfl⟩
        have c1 : cl5 (Int32.ofNat j) 1 (ab6 (Int32.ofNat pc) e) = 0 := (cl_55 (s := j) (c := 1) est1 (by omega) (by omega) (by decide)).trans y
        unfold f5_Ma_aim
        rw [pb_e5, pb_e5, c1, if_neg (show ¬ (0 : Int32) = 3 by decide)]
        unfold f5_Ma_slot
        rw [if_neg (show ¬ (0 : Int32) = 2 by decide), if_neg (show ¬ (0 : Int32) = 1 by decide), rdl_5, st_f6, rdl_5]
      · obtain ⟨e2, i, t1, t2, t3, t4, t5, t6⟩ := amn_6 (Bk := Bk) (t := b) (e := ab6 (Int32.ofNat pc) e) (σ := ar6b σ) est1 hj s150 M1 (by omega) y
        exact ⟨e2, t1, t3, t4⟩
    obtain ⟨e2, am, am1, am2⟩ := pl
    have hx : ∃ p' a', n = 0 ∨ (xs6 T Bk nv na e (σ.2.2.1 39) n pc (x + 2) p' a' ∧ a' < N) := by
      rcases q8 with y | ⟨p', a', y1, y2⟩
      · exact ⟨0, 0, Or.inl y⟩
      · exact ⟨p', a', Or.inr ⟨y1, by omega⟩⟩
    obtain ⟨p', a', hx⟩ := hx
    exact ac5_6 H hE F M d0 hw hj at1 at2 h711 hst hwk hsx h32 (by omega) h3 q1 q2 q6 q7 hp am am1 am2 hx
  · obtain ⟨e', σ', r, u1, u2, u3, u4, u5⟩ := ac1_6 (b := b) (z := z) H hE F M d0 hw hj at1 at2 h711 hst hwk hsx h32 h3 q1 q2 q3 q4 q5 (by omega)
    exact ⟨e', σ', r, u1, u2, u3, Or.inl ⟨u4, u5⟩, fun q => absurd q (AE_r6 u5)⟩
end

end
section
set_option maxHeartbeats 1600000
/-! the class's machine: its memory and its code's as a record -/
def ci6 : List Nat := [509, 510, 511, 512, 513, 514, 515]
def mi6 : List Nat := [702, 703, 704, 706, 708, 709, 710, 711, 712, 713, 714, 715, 716, 717]
def cr6 : List Nat := [500, 501, 502, 503, 504, 505]
def mr6 : List Nat := [701, 705, 707, 718, 719]
def mb6 (κ : zS) (c f : Nat) : Nat := if f = 506 then 11 * (zI κ 513 c).toNatClampNeg else (zI κ 515 c).toNatClampNeg
def am6 (κ : zS) (m : Nat) : E5 := (fun f => if f ∈ ci6 then zI κ f (zR κ maCode m) else if f ∈ mi6 then zI κ f m else 0, fun f => if f = 506 ∨ f = 507 ∨ f = 508 then (fun j => if j < mb6 κ (zR κ maCode m) f then zA κ (zR κ f (zR κ maCode m)) j else 0) else if f ∈ cr6 then zA κ (zR κ f (zR κ maCode m)) else if f ∈ mr6 then zA κ (zR κ f m) else fun _ => 0, fun f => if f ∈ cr6 then zN κ (zR κ f (zR κ maCode m)) else if f ∈ mr6 then zN κ (zR κ f m) else 0)
theorem cm_n6 : ∀ g, g ∈ ci6 → g ∉ mi6 := by decide
theorem mi_n6 : ∀ g, g ∈ mi6 → g ≠ 513 ∧ g ≠ 515 ∧ g ∉ ci6 := by decide
theorem mr_n6 : ∀ g, g ∈ mr6 → ¬ (g = 506 ∨ g = 507 ∨ g = 508) ∧ g ∉ cr6 := by decide
theorem cr_n6 : ∀ g, g ∈ cr6 → ¬ (g = 506 ∨ g = 507 ∨ g = 508) ∧ g ∉ mr6 := by decide
theorem cr_t6 : ∀ g, (g = 506 ∨ g = 507 ∨ g = 508) ∨ g ∈ cr6 → zr g = some 20 ∧ g / 100 = 5 := by
  intro g h
  rcases h with (rfl | rfl | rfl) | h
  · exact ⟨by decide +kernel, by decide⟩
  · exact ⟨by decide +kernel, by decide⟩
  · exact ⟨by decide +kernel, by decide⟩
  · have q : cr6.all (fun g => zr g == some 20 && g / 100 == 5) = true := by decide +kernel
    have z := List.all_eq_true.mp q g h
    rw [Bool.and_eq_true, beq_iff_eq, beq_iff_eq] at z
    exact z
theorem mr_t6 : ∀ g, g ∈ mr6 → zr g = some 20 ∧ g / 100 = 7 := by
  intro g h
  have q : mr6.all (fun g => zr g == some 20 && g / 100 == 7) = true := by decide +kernel
  have z := List.all_eq_true.mp q g h
  rw [Bool.and_eq_true, beq_iff_eq, beq_iff_eq] at z
  exact z
section
variable {C : zC} {n0 m : Nat} {κ τ : zS}
/-- a number stored -/
theorem am_ui6 {f : Nat} {x : Int32} (h : τ = ui κ f m x) (hf : f ∈ mi6) : stI5 f x (am6 κ m) = .inl (am6 τ m, ()) := by
  obtain ⟨n1, n2, n3⟩ := mi_n6 f hf
  have e : am6 τ m = (fun g => if g = f then x else (am6 κ m).1 g, (am6 κ m).2) := by
    have i1 : ∀ c, zI τ 513 c = zI κ 513 c := fun c => by rw [h]; exact if_neg (fun q => n1 q.1.symm)
    have i2 : ∀ c, zI τ 515 c = zI κ 515 c := fun c => by rw [h]; exact if_neg (fun q => n2 q.1.symm)
    have rR : zR τ = zR κ := by rw [h]; rfl
    have rA : zA τ = zA κ := by rw [h]; rfl
    have rN : zN τ = zN κ := by rw [h]; rfl
    unfold am6 mb6
    rw [rR, rA, rN, i1, i2]
    refine Prod.ext (funext fun g => ?_) rfl
    show (if g ∈ ci6 then zI τ g (zR κ maCode m) else if g ∈ mi6 then zI τ g m else 0) = if g = f then x else (if g ∈ ci6 then zI κ g (zR κ maCode m) else if g ∈ mi6 then zI κ g m else 0)
    by_cases q : g = f
    · rw [if_pos q, q, if_neg n3, if_pos hf, h]
      exact if_pos ⟨rfl, rfl⟩
    · have z : ∀ b, zI τ g b = zI κ g b := fun b => by rw [h]; exact if_neg (fun y => q y.1)
      rw [if_neg q, z, z]
  rw [e]
  rfl
/-- a row of the machine's changed -/
theorem am_ur6 {f : Nat} (W : zW C n0 κ) (T : zT κ m = 7) (hf : f ∈ mr6) (hI : zI τ = zI κ) (hR : zR τ = zR κ) (hN : zN τ = zN κ) (hA : ∀ x, x ≠ zR κ f m → zA τ x = zA κ x) : am6 τ m = ((am6 κ m).1, fun g => if g = f then zA τ (zR κ f m) else (am6 κ m).2.1 g, (am6 κ m).2.2) := by
  obtain ⟨f1, f2⟩ := mr_t6 f hf
  have Tc : zT κ (zR κ maCode m) = 5 := ty_maCode W T
  have hc : ∀ g, ((g = 506 ∨ g = 507 ∨ g = 508) ∨ g ∈ cr6) → zA τ (zR κ g (zR κ maCode m)) = zA κ (zR κ g (zR κ maCode m)) := fun g hg => by
    obtain ⟨g1, g2⟩ := cr_t6 g hg
    exact hA _ (ow_ne W g1 (by decide) (Tc.trans g2.symm) f1 (by decide) (T.trans f2.symm) (fun z => by rw [z] at g2; omega))
  unfold am6 mb6
  rw [hI, hR, hN]
  refine Prod.ext rfl (Prod.ext (funext fun g => ?_) rfl)
  show (if g = 506 ∨ g = 507 ∨ g = 508 then _ else if g ∈ cr6 then _ else if g ∈ mr6 then _ else _) = if g = f then _ else (if g = 506 ∨ g = 507 ∨ g = 508 then _ else if g ∈ cr6 then _ else if g ∈ mr6 then _ else _)
  by_cases q : g = f
  · obtain ⟨n1, n2⟩ := mr_n6 f hf
    rw [if_pos q, q, if_neg n1, if_neg n2, if_pos hf]
  · rw [if_neg q]
    by_cases q1 : g = 506 ∨ g = 507 ∨ g = 508
    · rw [if_pos q1, if_pos q1, hc g (Or.inl q1)]
    · rw [if_neg q1, if_neg q1]
      by_cases q2 : g ∈ cr6
      · rw [if_pos q2, if_pos q2, hc g (Or.inr q2)]
      · rw [if_neg q2, if_neg q2]
        by_cases q3 : g ∈ mr6
        · obtain ⟨g1, g2⟩ := mr_t6 g q3
          rw [if_pos q3, if_pos q3, hA _ (ow_ne W g1 (by decide) (T.trans g2.symm) f1 (by decide) (T.trans f2.symm) q)]
        · rw [if_neg q3, if_neg q3]
theorem am_rw6 {f : Nat} (hf : f ∈ mr6) : (am6 κ m).2.1 f = zA κ (zR κ f m) ∧ (am6 κ m).2.2 f = zN κ (zR κ f m) := by
  obtain ⟨n1, n2⟩ := mr_n6 f hf
  refine ⟨?_, ?_⟩
  · show (if f = 506 ∨ f = 507 ∨ f = 508 then _ else if f ∈ cr6 then _ else if f ∈ mr6 then _ else _) = _
    rw [if_neg n1, if_neg n2, if_pos hf]
  · show (if f ∈ cr6 then _ else if f ∈ mr6 then _ else _) = _
    rw [if_neg n2, if_pos hf]
/-- a row stored to -/
theorem am_ua6 {f i : Nat} {x : Int32} (W : zW C n0 κ) (T : zT κ m = 7) (h : τ = ua κ (zR κ f m) i x) (hf : f ∈ mr6) : sa5 f i x (am6 κ m) = .inl (am6 τ m, ()) := by
  rw [am_ur6 (τ := τ) (f := f) W T hf (by rw [h]; rfl) (by rw [h]; rfl) (by rw [h]; rfl) (fun y q => by rw [h]; exact if_neg q)]
  unfold sa5
  have e : (fun g j => if g = f ∧ j = i then x else (am6 κ m).2.1 g j) = fun g => if g = f then zA τ (zR κ f m) else (am6 κ m).2.1 g := by
    funext g j
    by_cases q : g = f
    · have z : zA τ (zR κ f m) = upd (zA κ (zR κ f m)) i x := by rw [h]; exact if_pos rfl
      rw [if_pos q, z, q, (am_rw6 hf).1]
      by_cases y : j = i
      · rw [if_pos ⟨rfl, y⟩, y]
        exact upd_eq.symm
      · rw [if_neg (fun w => y w.2)]
        exact (upd_ne y).symm
    · rw [if_neg q, if_neg (fun w => q w.1)]
  rw [e]
/-- a stretch of the memory filled -/
theorem am_uf6 {x y v : Int32} (W : zW C n0 κ) (T : zT κ m = 7) (h : τ = uff κ (zR κ maMemory m) x.toNatClampNeg y.toNatClampNeg v) : f5_Ar_fill4 x y v (am6 κ m) = .inl (am6 τ m, ()) := by
  rw [am_ur6 (τ := τ) (f := maMemory) W T (by decide) (by rw [h]; rfl) (by rw [h]; rfl) (by rw [h]; rfl) (fun y q => by rw [h]; exact if_neg q)]
  unfold f5_Ar_fill4
  have e : (fun g j => if g = maMemory ∧ x.toNatClampNeg ≤ j ∧ j < y.toNatClampNeg then v else (am6 κ m).2.1 g j) = fun g => if g = maMemory then zA τ (zR κ maMemory m) else (am6 κ m).2.1 g := by
    funext g j
    by_cases q : g = maMemory
    · have z : zA τ (zR κ maMemory m) = fun k => if x.toNatClampNeg ≤ k ∧ k < y.toNatClampNeg then v else zA κ (zR κ maMemory m) k := by rw [h]; exact if_pos rfl
      rw [if_pos q, z, q, (am_rw6 (f := maMemory) (by decide)).1]
      dsimp only
      by_cases w : x.toNatClampNeg ≤ j ∧ j < y.toNatClampNeg
      · rw [if_pos ⟨rfl, w⟩, if_pos w]
      · rw [if_neg (fun u => w u.2), if_neg w]
    · rw [if_neg q, if_neg (fun w => q w.1)]
  rw [e]
/-- what the record says of the code -/
theorem am_c6 {f : Nat} (hf : f ∈ ci6) : (am6 κ m).1 f = zI κ f (zR κ maCode m) := if_pos hf
theorem am_i6 {f : Nat} (hf : f ∈ mi6) : (am6 κ m).1 f = zI κ f m := by
  show (if f ∈ ci6 then _ else if f ∈ mi6 then _ else _) = _
  rw [if_neg (mi_n6 f hf).2.2, if_pos hf]
theorem am_cr6 {f : Nat} (hf : f ∈ cr6) : (am6 κ m).2.1 f = zA κ (zR κ f (zR κ maCode m)) := by
  show (if f = 506 ∨ f = 507 ∨ f = 508 then _ else if f ∈ cr6 then _ else if f ∈ mr6 then _ else _) = _
  rw [if_neg (cr_n6 f hf).1, if_pos hf]
theorem am_g6 {f j : Nat} (hf : f = 506 ∨ f = 507 ∨ f = 508) (hj : j < mb6 κ (zR κ maCode m) f) : (am6 κ m).2.1 f j = zA κ (zR κ f (zR κ maCode m)) j := by
  have e : (am6 κ m).2.1 f = fun j => if j < mb6 κ (zR κ maCode m) f then zA κ (zR κ f (zR κ maCode m)) j else 0 := if_pos hf
  rw [e]
  exact if_pos hj
end

end
section
set_option maxHeartbeats 1600000
/-! the class's machine comes to what its pure program says: leaves -/
theorem Co_column_q6 {C : zC} {n0 : Nat} {a0 : Nat} {a1 : Int32} {a2 : Int32} {κ : zS} {Q : Int32 → zS → Prop} (W : zW C n0 κ) (Ta0 : zT κ a0 = 5)  (hp : coI κ a0 ∧ 0 ≤ a2.toInt ∧ a2.toInt < 11) (h : ∀ (v : Int32), ((True) ∧ (∀ m, zT κ m = 7 → zR κ maCode m = a0 → v = cl5 a1 a2 (am6 κ m))) → Q v κ) : zRun C 0 mCo_column [.ref a0, .int a1, .int a2] κ (oI Q noX) := by
  refine Co_column_run W Ta0 ?_
  replace W := W.lo (Nat.le_trans W.1.2.1 W.1.2.2) (Nat.le_refl (zn κ))
  unfold w_Co_column_0
  obtain ⟨H, p0, p1⟩ := hp
  obtain ⟨-, -, -, -, -, hs, hrw, -⟩ := H
  refine ⟨fun c1 => ?_, fun c1 => ?_⟩
  · skip
    refine h _ ?_
    · refine and_5 ?_ (fun o9 => fun m _ e => (if_pos c1).symm)  -- q1
      trivial
  · skip
    refine ⟨fun c2 => ?_, fun c2 => ?_⟩
    · skip
      refine h _ ?_
      · refine and_5 ?_ (fun o9 => fun m _ e => by subst e; exact ((if_neg c1).trans (if_pos c2)).symm)  -- q2
        trivial
    · skip
      refine ⟨?_, ?_⟩
      · rw [lti, t0i] at c1
        rw [lei] at c2
        rw [inb_iff, col_i (by omega) (by omega) p0 p1]
        omega
      refine h _ ?_
      · refine and_5 ?_ (fun o9 => fun m _ e => by subst e; exact ((if_neg c1).trans ((if_neg c2).trans (am_g6 (Or.inl rfl) (col_b5 c1 c2 hs.2 p0 p1)))).symm)  -- q4
        trivial

theorem Co_firstOf_q6 {C : zC} {n0 : Nat} {a0 : Nat} {a1 : Int32} {κ : zS} {Q : Int32 → zS → Prop} (W : zW C n0 κ) (Ta0 : zT κ a0 = 5)  (hp : coI κ a0) (h : ∀ (v : Int32), ((True) ∧ (∀ m, zT κ m = 7 → zR κ maCode m = a0 → v = fo6 a1 (am6 κ m))) → Q v κ) : zRun C 0 mCo_firstOf [.ref a0, .int a1] κ (oI Q noX) := by
  refine Co_firstOf_run W Ta0 ?_
  replace W := W.lo (Nat.le_trans W.1.2.1 W.1.2.2) (Nat.le_refl (zn κ))
  unfold w_Co_firstOf_0
  refine ⟨fun c1 => ?_, fun c1 => ?_⟩
  · skip
    refine h _ ?_
    · refine and_5 ?_ (fun o9 => fun m _ e => (if_pos c1).symm)  -- q1
      trivial
  · skip
    refine ⟨fun c2 => ?_, fun c2 => ?_⟩
    · skip
      refine h _ ?_
      · refine and_5 ?_ (fun o9 => fun m _ e => ((if_neg c1).trans (if_pos c2)).symm)  -- q2
        trivial
    · skip
      refine ⟨?_, ?_⟩
      · have e : (10 : Int32).toInt = 10 := rfl
        rw [inb_iff, hp.1.2.2.2.1]
        rw [lti, t0i] at c1
        rw [lei, e] at c2
        omega
      refine h _ ?_
      · refine and_5 ?_ (fun o9 => fun m _ e => by subst e; exact ((if_neg c1).trans (if_neg c2)).symm)  -- q4
        trivial

theorem Co_shared_q6 {C : zC} {n0 : Nat} {a0 : Nat} {κ : zS} {Q : Int32 → zS → Prop} (W : zW C n0 κ) (Ta0 : zT κ a0 = 5)  (hp : coI κ a0) (h : ∀ (v : Int32), ((v.toInt = (zI κ coVars a0).toInt + (zI κ coCells a0).toInt) ∧ (∀ m, zT κ m = 7 → zR κ maCode m = a0 → v = sh6 (am6 κ m))) → Q v κ) : zRun C 0 mCo_shared [.ref a0] κ (oI Q noX) := by
  refine Co_shared_run W Ta0 ?_
  replace W := W.lo (Nat.le_trans W.1.2.1 W.1.2.2) (Nat.le_refl (zn κ))
  unfold w_Co_shared_0
  obtain ⟨-, hv, ha, hc, -⟩ := hp
  refine h _ ?_
  · refine and_5 ?_ (fun o9 => fun m _ e => by subst e; rfl)  -- q1
    exact add_i (by omega) (by omega)

theorem Ma_length_q6 {C : zC} {n0 : Nat} {a0 : Nat} {κ : zS} {Q : Int32 → zS → Prop} (W : zW C n0 κ) (Ta0 : zT κ a0 = 7)  (h : ∀ (v : Int32), ((v = zI κ maShared a0 + zI κ maOpen a0 * 9) ∧ f5_Ma_length (am6 κ a0) = .inl (am6 κ a0, v)) → Q v κ) : zRun C 0 mMa_length [.ref a0] κ (oI Q noX) := by
  refine Ma_length_run W Ta0 ?_
  replace W := W.lo (Nat.le_trans W.1.2.1 W.1.2.2) (Nat.le_refl (zn κ))
  unfold w_Ma_length_0
  have hE : f5_Ma_length (am6 κ a0) = f5_Ma_length (am6 κ a0) := rfl
  refine h _ ?_
  · refine and_5 ?_ (fun o9 => hE)  -- q1
    rfl

theorem Ma_fail_q6 {C : zC} {n0 : Nat} {a0 : Nat} {a1 : Int32} {κ : zS} {Q : zS → Prop} (W : zW C n0 κ) (Ta0 : zT κ a0 = 7)  (h : ∀ (κ' : zS), ((zF (objF a0) κ κ' ∧ zR κ' = zR κ ∧ zN κ' = zN κ ∧ zA κ' = zA κ ∧ (∀ f b, ¬ (f = maFailure ∧ b = a0) → ¬ (f = maOutcome ∧ b = a0) → zI κ' f b = zI κ f b) ∧ zI κ' maFailure a0 = a1 ∧ zI κ' maOutcome a0 = 2) ∧ f5_Ma_fail a1 (am6 κ a0) = .inl (am6 κ' a0, ())) → Q κ') : zRun C 0 mMa_fail [.ref a0, .int a1] κ (oV Q noX) := by
  refine Ma_fail_run W Ta0 ?_
  replace W := W.lo (Nat.le_trans W.1.2.1 W.1.2.2) (Nat.le_refl (zn κ))
  unfold w_Ma_fail_0
  have hE : f5_Ma_fail a1 (am6 κ a0) = f5_Ma_fail a1 (am6 κ a0) := rfl
  intro κ_1 hκ_1
  replace hE := rb_i5 hE (am_ui6 (m := a0) (f := maFailure) (by first | exact hκ_1 | (rw [hκ_1]; congr 1; assumption)) (by decide))
  have tκ_1 : zT κ_1 a0 = 7 := by rw [hκ_1]; exact Ta0
  intro W2
  intro κ_3 hκ_3
  replace hE := rb_i5 hE (am_ui6 (m := a0) (f := maOutcome) (by first | exact hκ_3 | (rw [hκ_3]; congr 1; assumption)) (by decide))
  have tκ_3 : zT κ_3 a0 = 7 := by rw [hκ_3]; exact tκ_1
  intro W4
  refine h _ ?_
  · refine and_5 ?_ (fun o9 => hE)  -- q1
    have f1 : zF (objF a0) κ κ_1 := by rw [hκ_1]; exact zF_ui rfl
    have f2 : zF (objF a0) κ_1 κ_3 := by rw [hκ_3]; exact zF_ui rfl
    refine ⟨f1.tr f2, by rw [hκ_3, hκ_1]; rfl, by rw [hκ_3, hκ_1]; rfl, by rw [hκ_3, hκ_1]; rfl, fun f b h1 h2 => ?_, ?_, ?_⟩
    · rw [hκ_3, hκ_1]
      exact (if_neg h2).trans (if_neg h1)
    · have e : zI κ_3 maFailure a0 = zI κ_1 maFailure a0 := by rw [hκ_3]; rfl
      rw [e, hκ_1]
      exact if_pos ⟨rfl, rfl⟩
    · rw [hκ_3]
      exact if_pos ⟨rfl, rfl⟩

theorem Ma_slot_q6 {C : zC} {n0 : Nat} {a0 : Nat} {a1 : Int32} {a2 : Int32} {κ : zS} {Q : Int32 → zS → Prop} (W : zW C n0 κ) (Ta0 : zT κ a0 = 7)  (h : ∀ (v : Int32), ((True) ∧ f5_Ma_slot a1 a2 (am6 κ a0) = .inl (am6 κ a0, v)) → Q v κ) : zRun C 0 mMa_slot [.ref a0, .int a1, .int a2] κ (oI Q noX) := by
  refine Ma_slot_run W Ta0 ?_
  replace W := W.lo (Nat.le_trans W.1.2.1 W.1.2.2) (Nat.le_refl (zn κ))
  unfold w_Ma_slot_0
  have hE : f5_Ma_slot a1 a2 (am6 κ a0) = f5_Ma_slot a1 a2 (am6 κ a0) := rfl
  refine ⟨fun c1 => ?_, fun c1 => ?_⟩
  · skip
    replace hE := rb_f5 hE c1
    refine ⟨fun c2 => ?_, fun c2 => ?_⟩
    · skip
      replace hE := rb_f5 hE c2
      refine h _ ?_
      · refine and_5 ?_ (fun o9 => hE)  -- q1
        trivial
    · skip
      replace hE := rb_t5 hE c2
      refine h _ ?_
      · refine and_5 ?_ (fun o9 => hE)  -- q2
        trivial
  · skip
    replace hE := rb_t5 hE c1
    refine h _ ?_
    · refine and_5 ?_ (fun o9 => hE)  -- q3
      trivial

theorem Ma_cellAt_q6 {C : zC} {n0 : Nat} {a0 : Nat} {a1 : Int32} {a2 : Int32} {κ : zS} {Q : Int32 → zS → Prop} (W : zW C n0 κ) (Ta0 : zT κ a0 = 7)  (hp : coI κ (zR κ maCode a0)) (h : ∀ (v : Int32), ((v = -1 ∨ (0 ≤ v.toInt ∧ v.toInt < 34)) ∧ f5_Ma_cellAt a1 a2 (am6 κ a0) = .inl (am6 κ a0, v)) → Q v κ) : zRun C 0 mMa_cellAt [.ref a0, .int a1, .int a2] κ (oI Q noX) := by
  refine Ma_cellAt_run W Ta0 ?_
  replace W := W.lo (Nat.le_trans W.1.2.1 W.1.2.2) (Nat.le_refl (zn κ))
  unfold w_Ma_cellAt_0
  have H := hp.1
  have V := hp.2.1
  have B := hp.2.2.2.2.2.2.2.2
  have hj31 : ∀ (l0 : Nat) (l1 : Int32) (l2 : Int32) (s0 : Int32) (τ : zS), zW C (zn κ) τ → zT τ l0 = 7 → ((κ = τ ∧ a0 = l0 ∧ a1 = l1 ∧ a2 = l2 ∧ (s0 = 0 ∨ (0 ≤ a1.toInt ∧ a1.toInt < 3 ∧ 0 ≤ a2.toInt ∧ a2.toInt < (zA κ (zR κ coArraySizes (zR κ maCode a0)) a1.toNatClampNeg).toInt))) ∧ f5_Ma_cellAt a1 a2 (am6 κ a0) = f5_Ma_cellAt_31 l1 l2 s0 (am6 τ a0)) → w_Ma_cellAt_31 C (zn κ) Q  l0 l1 l2 s0 τ := by
    rintro _ _ _ y31_s0 _ W31 T31_0 ⟨⟨rfl, rfl, rfl, rfl, j31⟩, hE⟩
    unfold w_Ma_cellAt_31
    refine ⟨fun c1 => ?_, fun c1 => ?_⟩
    · skip
      replace hE := rb_t5 hE c1
      refine h _ ?_
      · refine and_5 ?_ (fun o9 => hE)  -- q1
        exact Or.inl rfl
    · skip
      replace hE := rb_f5 hE c1
      have J := j31.resolve_left c1
      have kn := cnk (x := a1) J.1
      have b9 := B a1.toNatClampNeg (by omega)
      refine ⟨?_, ?_⟩
      · rw [inb_iff]; omega  -- b2
      refine h _ ?_
      · refine and_5 ?_ (fun o9 => hE)  -- q3
        right
        have e1 : (zI κ coVars (zR κ maCode a0) + zA κ (zR κ coArrayBases (zR κ maCode a0)) a1.toNatClampNeg).toInt = (zI κ coVars (zR κ maCode a0)).toInt + (zA κ (zR κ coArrayBases (zR κ maCode a0)) a1.toNatClampNeg).toInt := add_i (by omega) (by omega)
        rw [add_i (by rw [e1]; omega) (by rw [e1]; omega), e1]
        omega
  have hE : f5_Ma_cellAt a1 a2 (am6 κ a0) = f5_Ma_cellAt a1 a2 (am6 κ a0) := rfl
  refine ⟨fun c2 => ?_, fun c2 => ?_⟩
  · skip
    replace hE := rb_t5 hE c2
    refine hj31 _ _ _ _ _ W ?_ ?_
    · exact Ta0  -- t4
    · refine and_5 ?_ (fun o9 => hE)  -- k5
      first | exact ⟨rfl, rfl, rfl, rfl, Or.inl rfl⟩ | exact ⟨rfl, rfl, rfl, rfl, Or.inr (by simp only [lti, lei, t0i, show (3 : Int32).toInt = 3 from rfl] at *; omega)⟩
  · skip
    replace hE := rb_f5 hE c2
    refine ⟨fun c3 => ?_, fun c3 => ?_⟩
    · skip
      replace hE := rb_t5 hE c3
      refine hj31 _ _ _ _ _ W ?_ ?_
      · exact Ta0  -- t6
      · refine and_5 ?_ (fun o9 => hE)  -- k7
        first | exact ⟨rfl, rfl, rfl, rfl, Or.inl rfl⟩ | exact ⟨rfl, rfl, rfl, rfl, Or.inr (by simp only [lti, lei, t0i, show (3 : Int32).toInt = 3 from rfl] at *; omega)⟩
    · skip
      replace hE := rb_f5 hE c3
      refine ⟨fun c4 => ?_, fun c4 => ?_⟩
      · skip
        replace hE := rb_t5 hE c4
        refine hj31 _ _ _ _ _ W ?_ ?_
        · exact Ta0  -- t8
        · refine and_5 ?_ (fun o9 => hE)  -- k9
          first | exact ⟨rfl, rfl, rfl, rfl, Or.inl rfl⟩ | exact ⟨rfl, rfl, rfl, rfl, Or.inr (by simp only [lti, lei, t0i, show (3 : Int32).toInt = 3 from rfl] at *; omega)⟩
      · skip
        replace hE := rb_f5 hE c4
        refine ⟨?_, ?_⟩
        · rw [inb_iff]
          simp only [lti, lei, t0i, show (3 : Int32).toInt = 3 from rfl] at *
          omega
        refine ⟨fun c5 => ?_, fun c5 => ?_⟩
        · skip
          replace hE := rb_t5 hE c5
          refine hj31 _ _ _ _ _ W ?_ ?_
          · exact Ta0  -- t11
          · refine and_5 ?_ (fun o9 => hE)  -- k12
            first | exact ⟨rfl, rfl, rfl, rfl, Or.inl rfl⟩ | exact ⟨rfl, rfl, rfl, rfl, Or.inr (by simp only [lti, lei, t0i, show (3 : Int32).toInt = 3 from rfl] at *; omega)⟩
        · skip
          replace hE := rb_f5 hE c5
          refine hj31 _ _ _ _ _ W ?_ ?_
          · exact Ta0  -- t13
          · refine and_5 ?_ (fun o9 => hE)  -- k14
            first | exact ⟨rfl, rfl, rfl, rfl, Or.inl rfl⟩ | exact ⟨rfl, rfl, rfl, rfl, Or.inr (by simp only [lti, lei, t0i, show (3 : Int32).toInt = 3 from rfl] at *; omega)⟩

theorem Ma_put_q6 {C : zC} {n0 : Nat} {a0 : Nat} {a1 : Int32} {a2 : Int32} {κ : zS} {Q : zS → Prop} (W : zW C n0 κ) (Ta0 : zT κ a0 = 7)  (hp : maL κ a0) (h : ∀ (κ' : zS), ((zF (oneF maMemory a0) κ κ' ∧ zI κ' = zI κ ∧ zR κ' = zR κ ∧ zN κ' = zN κ ∧ (∀ x, x ≠ zR κ maMemory a0 → zA κ' x = zA κ x) ∧ zR κ maWeights a0 ≠ zR κ maMemory a0) ∧ f5_Ma_put a1 a2 (am6 κ a0) = .inl (am6 κ' a0, ())) → Q κ') : zRun C 0 mMa_put [.ref a0, .int a1, .int a2] κ (oV Q noX) := by
  refine Ma_put_run W Ta0 ?_
  replace W := W.lo (Nat.le_trans W.1.2.1 W.1.2.2) (Nat.le_refl (zn κ))
  unfold w_Ma_put_0
  have B := W.n (ty_maMemory W Ta0)
  have nw : zR κ maWeights a0 ≠ zR κ maMemory a0 := ow_ne W (show zr maWeights = some 20 by decide +kernel) (by decide) Ta0 (show zr maMemory = some 20 by decide +kernel) (by decide) Ta0 (by decide)
  have hE : f5_Ma_put a1 a2 (am6 κ a0) = f5_Ma_put a1 a2 (am6 κ a0) := rfl
  refine ⟨fun c1 => ?_, fun c1 => ?_⟩
  · skip
    replace hE := rb_t5 hE c1
    refine h _ ?_
    · refine and_5 ?_ (fun o9 => hE)  -- q1
      exact ⟨zF.rf, rfl, rfl, rfl, fun _ _ => rfl, nw⟩
  · skip
    replace hE := rb_f5 hE c1
    refine ⟨fun c2 => ?_, fun c2 => ?_⟩
    · skip
      replace hE := rb_t5 hE c2
      refine h _ ?_
      · refine and_5 ?_ (fun o9 => hE)  -- q2
        exact ⟨zF.rf, rfl, rfl, rfl, fun _ _ => rfl, nw⟩
    · skip
      replace hE := rb_f5 hE c2
      refine ⟨?_, ?_⟩
      · rw [lti, t0i] at c1
        rw [lei, ofn_i B] at c2
        rw [inb_iff]; omega
      intro κ_3 hκ_3
      replace hE := rb_i5 hE (am_ua6 (m := a0) (f := maMemory) W Ta0 hκ_3 (by decide))
      have tκ_3 : zT κ_3 a0 = 7 := by rw [hκ_3]; exact Ta0
      intro W4
      refine h _ ?_
      · refine and_5 ?_ (fun o9 => hE)  -- q4
        refine ⟨?_, by rw [hκ_3]; rfl, by rw [hκ_3]; rfl, by rw [hκ_3]; rfl, fun x h => by rw [hκ_3]; exact if_neg h, nw⟩
        rw [hκ_3]; exact zF_ua (by rw [ow_maMemory W Ta0]; exact ⟨rfl, rfl⟩)

theorem Ma_fetch_q6 {C : zC} {n0 : Nat} {a0 : Nat} {a1 : Int32} {a2 : Int32} {κ : zS} {Q : Int32 → zS → Prop} (W : zW C n0 κ) (Ta0 : zT κ a0 = 7)  (hp : maL κ a0) (h : ∀ (v : Int32), ((True) ∧ f5_Ma_fetch a1 a2 (am6 κ a0) = .inl (am6 κ a0, v)) → Q v κ) : zRun C 0 mMa_fetch [.ref a0, .int a1, .int a2] κ (oI Q noX) := by
  refine Ma_fetch_run W Ta0 ?_
  replace W := W.lo (Nat.le_trans W.1.2.1 W.1.2.2) (Nat.le_refl (zn κ))
  unfold w_Ma_fetch_0
  have B := W.n (ty_maMemory W Ta0)
  have hj24 : ∀ (l0 : Nat) (s0 : Int32) (τ : zS), zW C (zn κ) τ → zT τ l0 = 7 → ((κ = τ ∧ a0 = l0 ∧ True) ∧ f5_Ma_fetch a1 a2 (am6 κ a0) = f5_Ma_fetch_24 s0 (am6 τ a0)) → w_Ma_fetch_24 C (zn κ) Q  l0 s0 τ := by
    rintro _ y24_s0 _ W24 T24_0 ⟨⟨rfl, rfl, j24⟩, hE⟩
    unfold w_Ma_fetch_24
    refine ⟨fun c1 => ?_, fun c1 => ?_⟩
    · skip
      replace hE := rb_t5 hE c1
      refine h _ ?_
      · refine and_5 ?_ (fun o9 => hE)  -- q1
        trivial
    · skip
      replace hE := rb_f5 hE c1
      refine ⟨fun c2 => ?_, fun c2 => ?_⟩
      · skip
        replace hE := rb_t5 hE c2
        refine h _ ?_
        · refine and_5 ?_ (fun o9 => hE)  -- q2
          trivial
      · skip
        replace hE := rb_f5 hE c2
        refine ⟨?_, ?_⟩
        · simp only [lti, lei, t0i, ofn_i B] at *
          rw [inb_iff]; omega
        refine h _ ?_
        · refine and_5 ?_ (fun o9 => hE)  -- q4
          trivial
  have hE : f5_Ma_fetch a1 a2 (am6 κ a0) = f5_Ma_fetch a1 a2 (am6 κ a0) := rfl
  refine ⟨fun c3 => ?_, fun c3 => ?_⟩
  · skip
    replace hE := rb_f5 hE c3
    refine ⟨fun c4 => ?_, fun c4 => ?_⟩
    · skip
      replace hE := rb_f5 hE c4
      refine hj24 _ _ _ W ?_ ?_
      · exact Ta0  -- t5
      · refine and_5 ?_ (fun o9 => hE)  -- k6
        exact ⟨rfl, rfl, trivial⟩
    · skip
      replace hE := rb_t5 hE c4
      refine hj24 _ _ _ W ?_ ?_
      · exact Ta0  -- t7
      · refine and_5 ?_ (fun o9 => hE)  -- k8
        exact ⟨rfl, rfl, trivial⟩
  · skip
    replace hE := rb_t5 hE c3
    refine h _ ?_
    · refine and_5 ?_ (fun o9 => hE)  -- q9
      trivial

theorem Ma_combine_q6 {C : zC} {n0 : Nat} {a0 : Int32} {a1 : Int32} {a2 : Int32} {κ : zS} {Q : Int32 → zS → Prop} (W : zW C n0 κ)   (h : ∀ (v : Int32), ((True) ∧ v = f5_Ma_combine a0 a1 a2) → Q v κ) : zRun C 0 mMa_combine [.int a0, .int a1, .int a2] κ (oI Q noX) := by
  refine Ma_combine_run W  ?_
  replace W := W.lo (Nat.le_trans W.1.2.1 W.1.2.2) (Nat.le_refl (zn κ))
  unfold w_Ma_combine_0
  have hE : f5_Ma_combine a0 a1 a2 = f5_Ma_combine a0 a1 a2 := rfl
  refine ⟨fun c1 => ?_, fun c1 => ?_, fun c1 => ?_, fun c1 => ?_, fun c1 => ?_, fun c1 => ?_, fun c1 => ?_, fun c1 => ?_, fun c1 => ?_, fun c1 => ?_, fun c1 => ?_, fun c1 => ?_, fun c1 => ?_⟩
  · skip
    replace hE := (rb_f5 (rb_f5 (rb_f5 (rb_f5 (rb_f5 (rb_f5 (rb_f5 (rb_f5 (rb_f5 (rb_f5 (rb_f5 (rb_f5 hE (by omega)) (by omega)) (by omega)) (by omega)) (by omega)) (by omega)) (by omega)) (by omega)) (by omega)) (by omega)) (by omega)) (by omega))
    refine ⟨fun c2 => ?_, fun c2 => ?_⟩
    · skip
      replace hE := rb_t5 hE c2
      refine h _ ?_
      · refine and_5 ?_ (fun o9 => hE.symm)  -- q1
        first | trivial | assumption
    · skip
      replace hE := rb_f5 hE c2
      refine ⟨?_, ?_⟩
      · first | trivial | assumption  -- b2
      refine h _ ?_
      · refine and_5 ?_ (fun o9 => hE.symm)  -- q3
        first | trivial | assumption
  · skip
    replace hE := rb_t5 hE c1
    refine ⟨fun c3 => ?_, fun c3 => ?_⟩
    · skip
      replace hE := rb_f5 hE c3
      refine h _ ?_
      · refine and_5 ?_ (fun o9 => hE.symm)  -- q4
        first | trivial | assumption
    · skip
      replace hE := rb_t5 hE c3
      refine ⟨fun c4 => ?_, fun c4 => ?_⟩
      · skip
        replace hE := rb_t5 hE c4
        refine h _ ?_
        · refine and_5 ?_ (fun o9 => hE.symm)  -- q5
          first | trivial | assumption
      · skip
        replace hE := rb_f5 hE c4
        refine h _ ?_
        · refine and_5 ?_ (fun o9 => hE.symm)  -- q6
          first | trivial | assumption
  · skip
    replace hE := rb_t5 (rb_f5 hE (by rw [c1]; decide)) c1
    refine ⟨fun c5 => ?_, fun c5 => ?_⟩
    · skip
      replace hE := rb_t5 hE c5
      refine h _ ?_
      · refine and_5 ?_ (fun o9 => hE.symm)  -- q7
        first | trivial | assumption
    · skip
      replace hE := rb_f5 hE c5
      refine ⟨fun c6 => ?_, fun c6 => ?_⟩
      · skip
        replace hE := rb_t5 hE c6
        refine h _ ?_
        · refine and_5 ?_ (fun o9 => hE.symm)  -- q8
          first | trivial | assumption
      · skip
        replace hE := rb_f5 hE c6
        refine h _ ?_
        · refine and_5 ?_ (fun o9 => hE.symm)  -- q9
          first | trivial | assumption
  · skip
    replace hE := rb_t5 (rb_f5 (rb_f5 hE (by rw [c1]; decide)) (by rw [c1]; decide)) c1
    refine ⟨fun c7 => ?_, fun c7 => ?_⟩
    · skip
      replace hE := rb_f5 hE c7
      refine h _ ?_
      · refine and_5 ?_ (fun o9 => hE.symm)  -- q10
        first | trivial | assumption
    · skip
      replace hE := rb_t5 hE c7
      refine h _ ?_
      · refine and_5 ?_ (fun o9 => hE.symm)  -- q11
        first | trivial | assumption
  · skip
    replace hE := rb_t5 (rb_f5 (rb_f5 (rb_f5 hE (by rw [c1]; decide)) (by rw [c1]; decide)) (by rw [c1]; decide)) c1
    refine ⟨fun c8 => ?_, fun c8 => ?_⟩
    · skip
      replace hE := rb_t5 hE c8
      refine h _ ?_
      · refine and_5 ?_ (fun o9 => hE.symm)  -- q12
        first | trivial | assumption
    · skip
      replace hE := rb_f5 hE c8
      refine h _ ?_
      · refine and_5 ?_ (fun o9 => hE.symm)  -- q13
        first | trivial | assumption
  · skip
    replace hE := rb_t5 (rb_f5 (rb_f5 (rb_f5 (rb_f5 hE (by rw [c1]; decide)) (by rw [c1]; decide)) (by rw [c1]; decide)) (by rw [c1]; decide)) c1
    refine ⟨fun c9 => ?_, fun c9 => ?_⟩
    · skip
      replace hE := rb_t5 hE c9
      refine h _ ?_
      · refine and_5 ?_ (fun o9 => hE.symm)  -- q14
        first | trivial | assumption
    · skip
      replace hE := rb_f5 hE c9
      refine h _ ?_
      · refine and_5 ?_ (fun o9 => hE.symm)  -- q15
        first | trivial | assumption
  · skip
    replace hE := rb_t5 (rb_f5 (rb_f5 (rb_f5 (rb_f5 (rb_f5 hE (by rw [c1]; decide)) (by rw [c1]; decide)) (by rw [c1]; decide)) (by rw [c1]; decide)) (by rw [c1]; decide)) c1
    refine ⟨fun c10 => ?_, fun c10 => ?_⟩
    · skip
      replace hE := rb_t5 hE c10
      refine h _ ?_
      · refine and_5 ?_ (fun o9 => hE.symm)  -- q16
        first | trivial | assumption
    · skip
      replace hE := rb_f5 hE c10
      refine h _ ?_
      · refine and_5 ?_ (fun o9 => hE.symm)  -- q17
        first | trivial | assumption
  · skip
    replace hE := rb_t5 (rb_f5 (rb_f5 (rb_f5 (rb_f5 (rb_f5 (rb_f5 hE (by rw [c1]; decide)) (by rw [c1]; decide)) (by rw [c1]; decide)) (by rw [c1]; decide)) (by rw [c1]; decide)) (by rw [c1]; decide)) c1
    refine ⟨fun c11 => ?_, fun c11 => ?_⟩
    · skip
      replace hE := rb_t5 hE c11
      refine h _ ?_
      · refine and_5 ?_ (fun o9 => hE.symm)  -- q18
        first | trivial | assumption
    · skip
      replace hE := rb_f5 hE c11
      refine h _ ?_
      · refine and_5 ?_ (fun o9 => hE.symm)  -- q19
        first | trivial | assumption
  · skip
    replace hE := rb_t5 (rb_f5 (rb_f5 (rb_f5 (rb_f5 (rb_f5 (rb_f5 (rb_f5 hE (by rw [c1]; decide)) (by rw [c1]; decide)) (by rw [c1]; decide)) (by rw [c1]; decide)) (by rw [c1]; decide)) (by rw [c1]; decide)) (by rw [c1]; decide)) c1
    refine ⟨fun c12 => ?_, fun c12 => ?_⟩
    · skip
      replace hE := rb_t5 hE c12
      refine h _ ?_
      · refine and_5 ?_ (fun o9 => hE.symm)  -- q20
        first | trivial | assumption
    · skip
      replace hE := rb_f5 hE c12
      refine h _ ?_
      · refine and_5 ?_ (fun o9 => hE.symm)  -- q21
        first | trivial | assumption
  · skip
    replace hE := rb_t5 (rb_f5 (rb_f5 (rb_f5 (rb_f5 (rb_f5 (rb_f5 (rb_f5 (rb_f5 hE (by rw [c1]; decide)) (by rw [c1]; decide)) (by rw [c1]; decide)) (by rw [c1]; decide)) (by rw [c1]; decide)) (by rw [c1]; decide)) (by rw [c1]; decide)) (by rw [c1]; decide)) c1
    refine h _ ?_
    · refine and_5 ?_ (fun o9 => hE.symm)  -- q22
      first | trivial | assumption
  · skip
    replace hE := rb_t5 (rb_f5 (rb_f5 (rb_f5 (rb_f5 (rb_f5 (rb_f5 (rb_f5 (rb_f5 (rb_f5 hE (by rw [c1]; decide)) (by rw [c1]; decide)) (by rw [c1]; decide)) (by rw [c1]; decide)) (by rw [c1]; decide)) (by rw [c1]; decide)) (by rw [c1]; decide)) (by rw [c1]; decide)) (by rw [c1]; decide)) c1
    refine h _ ?_
    · refine and_5 ?_ (fun o9 => hE.symm)  -- q23
      first | trivial | assumption
  · skip
    replace hE := rb_t5 (rb_f5 (rb_f5 (rb_f5 (rb_f5 (rb_f5 (rb_f5 (rb_f5 (rb_f5 (rb_f5 (rb_f5 hE (by rw [c1]; decide)) (by rw [c1]; decide)) (by rw [c1]; decide)) (by rw [c1]; decide)) (by rw [c1]; decide)) (by rw [c1]; decide)) (by rw [c1]; decide)) (by rw [c1]; decide)) (by rw [c1]; decide)) (by rw [c1]; decide)) c1
    refine h _ ?_
    · refine and_5 ?_ (fun o9 => hE.symm)  -- q24
      first | trivial | assumption
  · skip
    replace hE := rb_t5 (rb_f5 (rb_f5 (rb_f5 (rb_f5 (rb_f5 (rb_f5 (rb_f5 (rb_f5 (rb_f5 (rb_f5 (rb_f5 hE (by rw [c1]; decide)) (by rw [c1]; decide)) (by rw [c1]; decide)) (by rw [c1]; decide)) (by rw [c1]; decide)) (by rw [c1]; decide)) (by rw [c1]; decide)) (by rw [c1]; decide)) (by rw [c1]; decide)) (by rw [c1]; decide)) (by rw [c1]; decide)) c1
    refine ⟨fun c13 => ?_, fun c13 => ?_⟩
    · skip
      replace hE := rb_t5 hE c13
      refine h _ ?_
      · refine and_5 ?_ (fun o9 => hE.symm)  -- q25
        first | trivial | assumption
    · skip
      replace hE := rb_f5 hE c13
      refine ⟨?_, ?_⟩
      · first | trivial | assumption  -- b26
      refine h _ ?_
      · refine and_5 ?_ (fun o9 => hE.symm)  -- q27
        first | trivial | assumption

end
section
set_option maxHeartbeats 1600000
/-! the class's machine: work -/
theorem Ma_work_q6 {C : zC} {n0 : Nat} {a0 : Nat} {κ : zS} {Q : Int32 → zS → Prop} (W : zW C n0 κ) (Ta0 : zT κ a0 = 7)  (hp : mkI κ a0) (h : ∀ (v : Int32) (κ' : zS), ((mF κ κ' a0 ∧ mS κ κ' a0) ∧ f5_Ma_work (am6 κ a0) = .inl (am6 κ' a0, v)) → Q v κ') : zRun C 1 mMa_work [.ref a0] κ (oI Q noX) := by
  refine Ma_work_run W Ta0 ?_
  replace W := W.lo (Nat.le_trans W.1.2.1 W.1.2.2) (Nat.le_refl (zn κ))
  unfold w_Ma_work_0
  have hE : f5_Ma_work (am6 κ a0) = f5_Ma_work (am6 κ a0) := rfl
  unfold w_Ma_work_2
  refine ⟨fun n l0 l1 τ => n = ((zI κ coLength (zR κ maCode a0)).toInt - (zI τ maPc a0).toInt).toNat ∧ ((a0 = l0 ∧ (mF κ τ a0 ∧ mS κ τ a0) ∧ 0 ≤ l1.toInt ∧ l1.toInt ≤ 256) ∧ ∃ m5, n < m5 ∧ f5_Ma_work (am6 κ a0) = f5_Ma_work_2 m5 l1 (am6 τ a0)), ⟨_, rfl, ?_⟩, ?_⟩
  · refine and_5 ?_ (fun o9 => ⟨fu5, by first | exact fb5 | (unfold fu5; omega) | decide, hE⟩)  -- j1
    exact ⟨rfl, ⟨mF.rf, mS.rf⟩, by decide, by decide⟩
  rintro n2 _ x2_1 κ2 W2 T2_0 ⟨hn2, ⟨rfl, i2⟩, m2, hm2, hE⟩
  obtain ⟨m2, rfl⟩ : ∃ m9, m2 = m9 + 1 := ⟨m2 - 1, by omega⟩
  have hj278 : ∀ (l0 : Nat) (l1 : Int32) (τ : zS), zW C (zn κ) τ → zT τ l0 = 7 → ((a0 = l0 ∧ wkJ κ τ a0 (zI κ2 maPc a0) l1) ∧ f5_Ma_work (am6 κ a0) = f5_Ma_work_278 (f5_Ma_work_2 m2) l1 (am6 τ a0)) → w_Ma_work_278 C (zn κ) Q (fun (l0' : Nat) (l1' : Int32) (τ : zS) => ∃ k < n2, (fun (n : Nat) (l0 : Nat) (l1 : Int32) (τ : zS) => n = ((zI κ coLength (zR κ maCode a0)).toInt - (zI τ maPc a0).toInt).toNat ∧ ((a0 = l0 ∧ (mF κ τ a0 ∧ mS κ τ a0) ∧ 0 ≤ l1.toInt ∧ l1.toInt ≤ 256) ∧ ∃ m5, n < m5 ∧ f5_Ma_work (am6 κ a0) = f5_Ma_work_2 m5 l1 (am6 τ a0))) k l0' l1' τ) l0 l1 τ := by
    clear hE
    rintro _ y278_1 τ278 W278 T278_0 ⟨⟨rfl, j278⟩, hE⟩
    unfold w_Ma_work_278
    intro κ_1 hκ_1
    replace hE := rb_i5 hE (am_ui6 (m := a0) (f := maPc) (by first | exact hκ_1 | (rw [hκ_1]; congr 1; assumption)) (by decide))
    have tκ_1 : zT κ_1 a0 = 7 := by rw [hκ_1]; exact T278_0
    intro W2
    refine lp_b5 ?_ (fun d9 => ⟨rfl, ?_⟩)
    · have e : zI κ_1 maPc a0 = zI κ2 maPc a0 + 1 := by
        rw [hκ_1]
        refine (if_pos ⟨rfl, rfl⟩).trans ?_
        rw [j278.2.2.1]
      have b := j278.2.2.2
      have e1 := inc_i (x := zI κ2 maPc a0) b.1 b.2
      rw [hn2, e, e1]; omega
    · refine and_5 ?_ (fun o9 => ⟨m2, by omega, hE⟩)  -- i3
      exact ⟨rfl, ⟨j278.1.1.tr (mF_ui hκ_1 (by decide)), j278.1.2.tr (mS_ui hκ_1 (by decide))⟩, j278.2.1⟩
  have hj252 : ∀ (l0 : Nat) (l1 : Int32) (l2 : Int32) (τ : zS), zW C (zn κ) τ → zT τ l0 = 7 → ((a0 = l0 ∧ wkJ κ τ a0 (zI κ2 maPc a0) l1 ∧ l1.toInt ≤ 255 ∧ 1 ≤ l1.toInt) ∧ f5_Ma_work (am6 κ a0) = f5_Ma_work_252 (f5_Ma_work_2 m2) l1 l2 (am6 τ a0)) → w_Ma_work_252 C (zn κ) Q (fun (l0' : Nat) (l1' : Int32) (τ : zS) => ∃ k < n2, (fun (n : Nat) (l0 : Nat) (l1 : Int32) (τ : zS) => n = ((zI κ coLength (zR κ maCode a0)).toInt - (zI τ maPc a0).toInt).toNat ∧ ((a0 = l0 ∧ (mF κ τ a0 ∧ mS κ τ a0) ∧ 0 ≤ l1.toInt ∧ l1.toInt ≤ 256) ∧ ∃ m5, n < m5 ∧ f5_Ma_work (am6 κ a0) = f5_Ma_work_2 m5 l1 (am6 τ a0))) k l0' l1' τ) l0 l1 l2 τ := by
    clear hE
    rintro _ y252_1 y252_2 τ252 W252 T252_0 ⟨⟨rfl, j252⟩, hE⟩
    unfold w_Ma_work_252
    obtain ⟨J, u1, u2⟩ := j252
    have L := (mkI_f J.1.1 W Ta0 hp).1.1.2.1
    have e1 := dec_i (x := y252_1) (by omega)
    refine ⟨?_, ?_⟩
    · rw [inb_iff, e1]; omega  -- b4
    refine ⟨?_, ?_⟩
    · rw [inb_iff]; omega  -- b5
    refine Ma_combine_q6 W252   (fun r3 q5 => ?_)
    obtain ⟨q5, z9⟩ := q5
    replace hE := rb_p5 hE z9
    intro W6
    intro M7
    refine ⟨?_, ?_⟩
    · rw [inb_iff, e1]; omega  -- b6
    intro κ_8 hκ_8
    replace hE := rb_i5 hE (am_ua6 (m := a0) (f := maStack) W6 T252_0 hκ_8 (by decide))
    have tκ_8 : zT κ_8 a0 = 7 := by rw [hκ_8]; exact T252_0
    intro W9
    refine hj278 _ _ _ W9 ?_ ?_
    · exact (wkS J W252 T252_0 hκ_8 J.2.1.1 J.2.1.2).1  -- t7
    · refine and_5 ?_ (fun o9 => hE)  -- k8
      exact ⟨rfl, (wkS J W252 T252_0 hκ_8 J.2.1.1 J.2.1.2).2⟩
  have hj222 : ∀ (l0 : Nat) (l1 : Int32) (l2 : Int32) (τ : zS), zW C (zn κ) τ → zT τ l0 = 7 → ((a0 = l0 ∧ wkJ κ τ a0 (zI κ2 maPc a0) l1) ∧ f5_Ma_work (am6 κ a0) = f5_Ma_work_222 (f5_Ma_work_2 m2) l1 l2 (am6 τ a0)) → w_Ma_work_222 C (zn κ) Q (fun (l0' : Nat) (l1' : Int32) (τ : zS) => ∃ k < n2, (fun (n : Nat) (l0 : Nat) (l1 : Int32) (τ : zS) => n = ((zI κ coLength (zR κ maCode a0)).toInt - (zI τ maPc a0).toInt).toNat ∧ ((a0 = l0 ∧ (mF κ τ a0 ∧ mS κ τ a0) ∧ 0 ≤ l1.toInt ∧ l1.toInt ≤ 256) ∧ ∃ m5, n < m5 ∧ f5_Ma_work (am6 κ a0) = f5_Ma_work_2 m5 l1 (am6 τ a0))) k l0' l1' τ) l0 l1 l2 τ := by
    clear hE
    rintro _ y222_1 y222_2 τ222 W222 T222_0 ⟨⟨rfl, j222⟩, hE⟩
    unfold w_Ma_work_222
    refine ⟨fun c10 => ?_, fun c10 => ?_⟩
    · skip
      replace hE := rb_t5 hE c10
      refine hj278 _ _ _ W222 ?_ ?_
      · exact T222_0  -- t9
      · refine and_5 ?_ (fun o9 => hE)  -- k10
        exact ⟨rfl, j222⟩
    · skip
      replace hE := rb_f5 hE c10
      intro x11 hx11
      replace hE := rb_p5 hE hx11
      have L := (mkI_f j222.1.1 W Ta0 hp).1.1.2.1
      have D := j222.2.1
      have f1 : (-1 : Int32).toInt = -1 := rfl
      have c9 : 1 < y222_1.toInt := by rw [lei, t1i] at c10; omega
      have em : x11.toInt = y222_1.toInt - 1 := by rw [hx11, add_i (by rw [f1]; omega) (by rw [f1]; omega), f1]; omega
      refine ⟨fun c12 => ?_, fun c12 => ?_⟩
      · skip
        replace hE := rb_t5 hE c12
        refine hj252 _ _ _ _ W222 ?_ ?_
        · exact T222_0  -- t11
        · refine and_5 ?_ (fun o9 => hE)  -- k12
          exact ⟨rfl, ⟨j222.1, ⟨by omega, by omega⟩, j222.2.2⟩, by omega, by omega⟩
      · skip
        replace hE := rb_f5 hE c12
        refine ⟨?_, ?_⟩
        · rw [inb_iff]; omega  -- b13
        refine ⟨fun c13 => ?_, fun c13 => ?_⟩
        · skip
          replace hE := rb_f5 hE c13
          refine hj252 _ _ _ _ W222 ?_ ?_
          · exact T222_0  -- t14
          · refine and_5 ?_ (fun o9 => hE)  -- k15
            exact ⟨rfl, ⟨j222.1, ⟨by omega, by omega⟩, j222.2.2⟩, by omega, by omega⟩
        · skip
          replace hE := rb_t5 hE c13
          intro κ_14 hκ_14
          replace hE := rb_i5 hE (am_ui6 (m := a0) (f := maFailure) (by first | exact hκ_14 | (rw [hκ_14]; congr 1; assumption)) (by decide))
          have tκ_14 : zT κ_14 a0 = 7 := by rw [hκ_14]; exact T222_0
          intro W15
          refine h _ _ ?_
          · refine and_5 ?_ (fun o9 => hE)  -- q16
            exact ⟨j222.1.1.tr (mF_ui hκ_14 (by decide)), j222.1.2.tr (mS_ui hκ_14 (by decide))⟩
  have hj173 : ∀ (l0 : Nat) (l1 : Int32) (l2 : Int32) (τ : zS), zW C (zn κ) τ → zT τ l0 = 7 → ((a0 = l0 ∧ wkJ κ τ a0 (zI κ2 maPc a0) l1) ∧ f5_Ma_work (am6 κ a0) = f5_Ma_work_173 (f5_Ma_work_2 m2) l1 l2 (am6 τ a0)) → w_Ma_work_173 C (zn κ) Q (fun (l0' : Nat) (l1' : Int32) (τ : zS) => ∃ k < n2, (fun (n : Nat) (l0 : Nat) (l1 : Int32) (τ : zS) => n = ((zI κ coLength (zR κ maCode a0)).toInt - (zI τ maPc a0).toInt).toNat ∧ ((a0 = l0 ∧ (mF κ τ a0 ∧ mS κ τ a0) ∧ 0 ≤ l1.toInt ∧ l1.toInt ≤ 256) ∧ ∃ m5, n < m5 ∧ f5_Ma_work (am6 κ a0) = f5_Ma_work_2 m5 l1 (am6 τ a0))) k l0' l1' τ) l0 l1 l2 τ := by
    clear hE
    rintro _ y173_1 y173_2 τ173 W173 T173_0 ⟨⟨rfl, j173⟩, hE⟩
    unfold w_Ma_work_173
    refine ⟨fun c16 => ?_, fun c16 => ?_⟩
    · skip
      replace hE := rb_t5 hE c16
      refine hj222 _ _ _ _ W173 ?_ ?_
      · exact T173_0  -- t17
      · refine and_5 ?_ (fun o9 => hE)  -- k18
        exact ⟨rfl, j173⟩
    · skip
      replace hE := rb_f5 hE c16
      refine ⟨fun c17 => ?_, fun c17 => ?_⟩
      · skip
        replace hE := rb_t5 hE c17
        refine hj222 _ _ _ _ W173 ?_ ?_
        · exact T173_0  -- t19
        · refine and_5 ?_ (fun o9 => hE)  -- k20
          exact ⟨rfl, j173⟩
      · skip
        replace hE := rb_f5 hE c17
        have L := (mkI_f j173.1.1 W Ta0 hp).1.1.2.1
        have D := j173.2.1
        have c9 : 0 < y173_1.toInt := by rw [lei, t0i] at c17; omega
        have e1 := dec_i c9
        refine ⟨?_, ?_⟩
        · rw [inb_iff, e1]; omega  -- b21
        intro x18 hx18
        replace hE := rb_p5 hE hx18
        refine ⟨fun c19 => ?_, fun c19 => ?_⟩
        · skip
          replace hE := rb_f5 hE c19
          refine ⟨fun c20 => ?_, fun c20 => ?_⟩
          · skip
            replace hE := rb_f5 hE c20
            refine ⟨?_, ?_⟩
            · rw [inb_iff, e1]; omega  -- b22
            intro κ_21 hκ_21
            replace hE := rb_i5 hE (am_ua6 (m := a0) (f := maStack) W173 T173_0 hκ_21 (by decide))
            have tκ_21 : zT κ_21 a0 = 7 := by rw [hκ_21]; exact T173_0
            intro W22
            refine hj278 _ _ _ W22 ?_ ?_
            · exact (wkS j173 W173 T173_0 hκ_21 D.1 D.2).1  -- t23
            · refine and_5 ?_ (fun o9 => hE)  -- k24
              exact ⟨rfl, (wkS j173 W173 T173_0 hκ_21 D.1 D.2).2⟩
          · skip
            replace hE := rb_t5 hE c20
            refine ⟨?_, ?_⟩
            · rw [inb_iff, e1]; omega  -- b25
            intro κ_23 hκ_23
            replace hE := rb_i5 hE (am_ua6 (m := a0) (f := maStack) W173 T173_0 hκ_23 (by decide))
            have tκ_23 : zT κ_23 a0 = 7 := by rw [hκ_23]; exact T173_0
            intro W24
            refine hj278 _ _ _ W24 ?_ ?_
            · exact (wkS j173 W173 T173_0 hκ_23 D.1 D.2).1  -- t26
            · refine and_5 ?_ (fun o9 => hE)  -- k27
              exact ⟨rfl, (wkS j173 W173 T173_0 hκ_23 D.1 D.2).2⟩
        · skip
          replace hE := rb_t5 hE c19
          refine ⟨?_, ?_⟩
          · rw [inb_iff, e1]; omega  -- b28
          intro κ_25 hκ_25
          replace hE := rb_i5 hE (am_ua6 (m := a0) (f := maStack) W173 T173_0 hκ_25 (by decide))
          have tκ_25 : zT κ_25 a0 = 7 := by rw [hκ_25]; exact T173_0
          intro W26
          refine hj278 _ _ _ W26 ?_ ?_
          · exact (wkS j173 W173 T173_0 hκ_25 D.1 D.2).1  -- t29
          · refine and_5 ?_ (fun o9 => hE)  -- k30
            exact ⟨rfl, (wkS j173 W173 T173_0 hκ_25 D.1 D.2).2⟩
  refine ⟨fun c27 => ?_, fun c27 => ?_⟩
  · skip
    replace hE := rb_t5 hE c27
    refine h _ _ ?_
    · refine and_5 ?_ (fun o9 => hE)  -- q31
      exact i2.1
  · skip
    replace hE := rb_f5 hE c27
    refine ⟨fun c28 => ?_, fun c28 => ?_⟩
    · skip
      replace hE := rb_t5 hE c28
      refine h _ _ ?_
      · refine and_5 ?_ (fun o9 => hE)  -- q32
        exact i2.1
    · skip
      replace hE := rb_f5 hE c28
      have I := mkI_f i2.1.1 W Ta0 hp
      have L := I.1.1.2.1
      have LM := I.1.1.1
      have D := i2.2
      have O := I.1.2.2.2.2.2.2.2.2.1
      have bN := W2.n (ty_maStack W2 T2_0)
      rw [lti, t0i] at c27
      rw [lei] at c28
      have J0 : wkJ κ κ2 a0 (zI κ2 maPc a0) x2_1 := ⟨i2.1, i2.2, rfl, by omega, by rw [← I.2]; omega⟩
      refine ⟨?_, ?_⟩
      · rw [inb_iff]; omega  -- b33
      intro x29 hx29
      have pb9 : (zI κ2 maPc a0).toNatClampNeg < (zI κ2 coLength (zR κ2 maCode a0)).toNatClampNeg := by
        have a9 := cnk (x := zI κ2 maPc a0) (by omega)
        have b9 := cnk (x := zI κ2 coLength (zR κ2 maCode a0)) (by omega)
        omega
      replace hE := rb_p5 hE (hx29.trans (am_g6 (m := a0) (Or.inr (Or.inl rfl)) pb9).symm)
      refine ⟨fun c30 => ?_, fun c30 => ?_⟩
      · skip
        replace hE := rb_f5 hE c30
        refine ⟨fun c31 => ?_, fun c31 => ?_⟩
        · skip
          replace hE := rb_t5 hE c31
          refine ⟨fun c32 => ?_, fun c32 => ?_⟩
          · skip
            replace hE := rb_f5 hE c32
            refine hj173 _ _ _ _ W2 ?_ ?_
            · exact T2_0  -- t34
            · refine and_5 ?_ (fun o9 => hE)  -- k35
              exact ⟨rfl, J0⟩
          · skip
            replace hE := rb_t5 hE c32
            refine ⟨fun c33 => ?_, fun c33 => ?_⟩
            · skip
              replace hE := rb_t5 hE c33
              refine hj173 _ _ _ _ W2 ?_ ?_
              · exact T2_0  -- t36
              · refine and_5 ?_ (fun o9 => hE)  -- k37
                exact ⟨rfl, J0⟩
            · skip
              replace hE := rb_f5 hE c33
              have c9 : 0 < x2_1.toInt := by rw [lei, t0i] at c33; omega
              have e1 := dec_i c9
              refine ⟨?_, ?_⟩
              · rw [inb_iff]; omega  -- b38
              refine ⟨?_, ?_⟩
              · rw [inb_iff, e1]; omega  -- b39
              intro T34
              refine Ma_cellAt_q6 W2 T34  ?_ (fun r35 q37 => ?_)
              · exact I.1.2  -- p40
              obtain ⟨q37, z9⟩ := q37
              have g9 : (am6 κ2 a0).2.1 coArgs ((am6 κ2 a0).1 maPc).toNatClampNeg = zA κ2 (zR κ2 coArgs (zR κ2 maCode a0)) (zI κ2 maPc a0).toNatClampNeg := am_g6 (m := a0) (Or.inr (Or.inr rfl)) pb9
              rw [g9] at hE
              replace hE := rb_i5 hE z9
              intro W38
              intro M39
              refine ⟨fun c40 => ?_, fun c40 => ?_⟩
              · skip
                replace hE := rb_f5 hE c40
                refine ⟨?_, ?_⟩
                · have r9 := q37.resolve_left c40
                  rw [inb_iff]; omega
                refine ⟨?_, ?_⟩
                · rw [inb_iff, e1]; omega  -- b42
                intro κ_41 hκ_41
                replace hE := rb_i5 hE (am_ua6 (m := a0) (f := maStack) W38 T2_0 hκ_41 (by decide))
                have tκ_41 : zT κ_41 a0 = 7 := by rw [hκ_41]; exact T2_0
                intro W42
                refine hj278 _ _ _ W42 ?_ ?_
                · exact (wkS J0 W2 T2_0 hκ_41 D.1 D.2).1  -- t43
                · refine and_5 ?_ (fun o9 => hE)  -- k44
                  exact ⟨rfl, (wkS J0 W2 T2_0 hκ_41 D.1 D.2).2⟩
              · skip
                replace hE := rb_t5 hE c40
                intro κ_43 hκ_43
                replace hE := rb_i5 hE (am_ui6 (m := a0) (f := maFailure) (by first | exact hκ_43 | (rw [hκ_43]; congr 1; assumption)) (by decide))
                have tκ_43 : zT κ_43 a0 = 7 := by rw [hκ_43]; exact T2_0
                intro W44
                refine h _ _ ?_
                · refine and_5 ?_ (fun o9 => hE)  -- q45
                  exact ⟨i2.1.1.tr (mF_ui hκ_43 (by decide)), i2.1.2.tr (mS_ui hκ_43 (by decide))⟩
        · skip
          replace hE := rb_f5 hE c31
          refine ⟨fun c45 => ?_, fun c45 => ?_⟩
          · skip
            replace hE := rb_t5 hE c45
            refine hj278 _ _ _ W2 ?_ ?_
            · exact T2_0  -- t46
            · refine and_5 ?_ (fun o9 => hE)  -- k47
              exact ⟨rfl, J0⟩
          · skip
            replace hE := rb_f5 hE c45
            rw [lei, ofn_i bN] at c45
            have e1 : (x2_1 + 1).toInt = x2_1.toInt + 1 := by rw [add_i (by rw [t1i]; omega) (by rw [t1i]; omega), t1i]
            refine ⟨?_, ?_⟩
            · rw [inb_iff]; omega  -- b48
            intro T46
            refine Ma_fetch_q6 W2 T46  ?_ (fun r47 q49 => ?_)
            · exact I.1.1  -- p49
            obtain ⟨q49, z9⟩ := q49
            have g9 : (am6 κ2 a0).2.1 coArgs ((am6 κ2 a0).1 maPc).toNatClampNeg = zA κ2 (zR κ2 coArgs (zR κ2 maCode a0)) (zI κ2 maPc a0).toNatClampNeg := am_g6 (m := a0) (Or.inr (Or.inr rfl)) pb9
            rw [g9] at hE
            replace hE := rb_i5 hE z9
            intro W50
            intro M51
            refine ⟨?_, ?_⟩
            · rw [inb_iff]; omega  -- b50
            intro κ_52 hκ_52
            replace hE := rb_i5 hE (am_ua6 (m := a0) (f := maStack) W50 T2_0 hκ_52 (by decide))
            have tκ_52 : zT κ_52 a0 = 7 := by rw [hκ_52]; exact T2_0
            intro W53
            intro x54 hx54
            replace hE := rb_p5 hE hx54
            refine hj278 _ _ _ W53 ?_ ?_
            · exact (wkS J0 W2 T2_0 hκ_52 D.1 D.2).1  -- t51
            · refine and_5 ?_ (fun o9 => hE)  -- k52
              exact ⟨rfl, (wkS J0 W2 T2_0 hκ_52 (by rw [hx54, e1]; omega) (by rw [hx54, e1]; omega)).2⟩
      · skip
        replace hE := rb_t5 hE c30
        intro κ_55 hκ_55
        replace hE := rb_i5 hE (am_ui6 (m := a0) (f := maPc) (by first | exact hκ_55 | (rw [hκ_55]; congr 1; assumption)) (by decide))
        have tκ_55 : zT κ_55 a0 = 7 := by rw [hκ_55]; exact T2_0
        intro W56
        refine ⟨fun c57 => ?_, fun c57 => ?_⟩
        · skip
          replace hE := rb_t5 hE c57
          refine h _ _ ?_
          · refine and_5 ?_ (fun o9 => hE)  -- q53
            exact ⟨i2.1.1.tr (mF_ui hκ_55 (by decide)), i2.1.2.tr (mS_ui hκ_55 (by decide))⟩
        · skip
          replace hE := rb_f5 hE c57
          refine ⟨?_, ?_⟩
          · have c9 : 0 < x2_1.toInt := by rw [lei, t0i] at c57; omega
            have e1 := dec_i c9
            rw [hκ_55]
            show inb _ (zN κ2 (zR κ2 maStack a0))
            rw [inb_iff, e1]; omega
          refine h _ _ ?_
          · refine and_5 ?_ (fun o9 => hE)  -- q55
            exact ⟨i2.1.1.tr (mF_ui hκ_55 (by decide)), i2.1.2.tr (mS_ui hκ_55 (by decide))⟩

end
section
set_option maxHeartbeats 1600000
/-! the class's machine: aim, proceed, settle -/
theorem Ma_aim_q6 {C : zC} {n0 : Nat} {a0 : Nat} {a1 : Int32} {κ : zS} {Q : zS → Prop} (W : zW C n0 κ) (Ta0 : zT κ a0 = 7)  (hp : mkI κ a0) (h : ∀ (κ' : zS), ((mF κ κ' a0 ∧ mS κ κ' a0) ∧ f5_Ma_aim a1 (am6 κ a0) = .inl (am6 κ' a0, ())) → Q κ') : zRun C 2 mMa_aim [.ref a0, .int a1] κ (oV Q noX) := by
  refine Ma_aim_run W Ta0 ?_
  replace W := W.lo (Nat.le_trans W.1.2.1 W.1.2.2) (Nat.le_refl (zn κ))
  unfold w_Ma_aim_0
  have hj61 : ∀ (l0 : Nat) (s0 : Nat) (s1 : Int32) (τ : zS), zW C (zn κ) τ → zT τ l0 = 7 → zT τ s0 = 7 → ((a0 = l0 ∧ mF κ τ a0 ∧ mS κ τ a0 ∧ s0 = a0) ∧ f5_Ma_aim a1 (am6 κ a0) = f5_Ma_aim_61 s1 (am6 τ a0)) → w_Ma_aim_61 C (zn κ) Q  l0 s0 s1 τ := by
    rintro _ y61_s0 y61_s1 τ61 W61 T61_0 T61_1 ⟨⟨rfl, j61⟩, hE⟩
    unfold w_Ma_aim_61
    intro κ_1 hκ_1
    have h9 : κ_1 = ui τ61 maTarget a0 y61_s1 := by rw [hκ_1, j61.2.2]
    replace hE := rb_i5 hE (am_ui6 (m := a0) (f := maTarget) h9 (by decide))
    have tκ_1 : zT κ_1 a0 = 7 := by rw [h9]; exact T61_0
    intro W2
    refine ⟨fun c3 => ?_, fun c3 => ?_⟩
    · skip
      replace hE := rb_f5 hE c3
      refine h _ ?_
      · refine and_5 ?_ (fun o9 => hE)  -- q1
        obtain ⟨F, S, e⟩ := j61
        rw [e] at hκ_1
        exact ⟨F.tr (mF_ui hκ_1 (by decide)), S.tr (mS_ui hκ_1 (by decide))⟩
    · skip
      replace hE := rb_t5 hE c3
      intro κ_4 hκ_4
      replace hE := rb_i5 hE (am_ui6 (m := a0) (f := maFailure) (by first | exact hκ_4 | (rw [hκ_4]; congr 1; assumption)) (by decide))
      have tκ_4 : zT κ_4 a0 = 7 := by rw [hκ_4]; exact tκ_1
      intro W5
      refine h _ ?_
      · refine and_5 ?_ (fun o9 => hE)  -- q2
        obtain ⟨F, S, e⟩ := j61
        rw [e] at hκ_1
        exact ⟨(F.tr (mF_ui hκ_1 (by decide))).tr (mF_ui hκ_4 (by decide)), (S.tr (mS_ui hκ_1 (by decide))).tr (mS_ui hκ_4 (by decide))⟩
  have hE : f5_Ma_aim a1 (am6 κ a0) = f5_Ma_aim a1 (am6 κ a0) := rfl
  intro T6
  refine Co_column_q6 W T6  ?_ (fun r7 q9 => ?_)
  · exact ⟨hp.2, by decide, by decide⟩  -- p3
  obtain ⟨q9, z9⟩ := q9
  replace hE := rb_p5 hE (z9 a0 Ta0 (by first | rfl | assumption))
  intro W10
  intro M11
  intro T12
  refine Co_column_q6 W10 T12  ?_ (fun r13 q15 => ?_)
  · exact ⟨hp.2, by decide, by decide⟩  -- p4
  obtain ⟨q15, z9⟩ := q15
  replace hE := rb_p5 hE (z9 a0 Ta0 (by first | rfl | assumption))
  intro W16
  intro M17
  refine ⟨fun c18 => ?_, fun c18 => ?_⟩
  · skip
    replace hE := rb_t5 hE c18
    intro T19
    refine Ma_work_q6 W16 T19  ?_ (fun r20 κ_21 q22 => ?_)
    · exact hp  -- p5
    obtain ⟨q22, z9⟩ := q22
    replace hE := rb_i5 hE z9
    have tκ_21 : zT κ_21 a0 = 7 := by first | exact q22.1.t Ta0 (by decide) | exact q22.1.1.t Ta0 (by decide) | (rw [q22]; exact Ta0)
    intro W23
    intro M24
    refine ⟨fun c25 => ?_, fun c25 => ?_⟩
    · skip
      replace hE := rb_f5 hE c25
      refine hj61 _ _ _ _ W23 ?_ ?_ ?_
      · exact q22.1.1.t Ta0 (by decide)  -- t6
      · exact q22.1.1.t Ta0 (by decide)  -- t7
      · refine and_5 ?_ (fun o9 => hE)  -- k8
        exact ⟨rfl, q22.1, q22.2, rfl⟩
    · skip
      replace hE := rb_t5 hE c25
      intro T26
      refine Ma_cellAt_q6 W23 T26  ?_ (fun r27 q29 => ?_)
      · exact (mkI_f q22.1 W Ta0 hp).1.2  -- p9
      obtain ⟨q29, z9⟩ := q29
      replace hE := rb_i5 hE z9
      intro W30
      intro M31
      refine hj61 _ _ _ _ W30 ?_ ?_ ?_
      · exact q22.1.1.t Ta0 (by decide)  -- t10
      · exact q22.1.1.t Ta0 (by decide)  -- t11
      · refine and_5 ?_ (fun o9 => hE)  -- k12
        exact ⟨rfl, q22.1, q22.2, rfl⟩
  · skip
    replace hE := rb_f5 hE c18
    intro T32
    refine Ma_slot_q6 W16 T32  (fun r33 q35 => ?_)
    obtain ⟨q35, z9⟩ := q35
    replace hE := rb_i5 hE z9
    intro W36
    intro M37
    intro κ_38 hκ_38
    replace hE := rb_i5 hE (am_ui6 (m := a0) (f := maTarget) (by first | exact hκ_38 | (rw [hκ_38]; congr 1; assumption)) (by decide))
    have tκ_38 : zT κ_38 a0 = 7 := by rw [hκ_38]; exact Ta0
    intro W39
    refine h _ ?_
    · refine and_5 ?_ (fun o9 => hE)  -- q13
      exact ⟨mF_ui hκ_38 (by decide), mS_ui hκ_38 (by decide)⟩

theorem Ma_proceed_q6 {C : zC} {n0 : Nat} {a0 : Nat} {κ : zS} {Q : zS → Prop} (W : zW C n0 κ) (Ta0 : zT κ a0 = 7)  (hp : mkI κ a0 ∧ mO κ a0) (h : ∀ (κ' : zS), ((mF κ κ' a0 ∧ zI κ' maShared a0 = zI κ maShared a0 ∧ (mO κ' a0 ∨ zI κ' maOutcome a0 = 1) ∧ mG κ κ' a0) ∧ f5_Ma_proceed (am6 κ a0) = .inl (am6 κ' a0, ())) → Q κ') : zRun C 1 mMa_proceed [.ref a0] κ (oV Q noX) := by
  refine Ma_proceed_run W Ta0 ?_
  replace W := W.lo (Nat.le_trans W.1.2.1 W.1.2.2) (Nat.le_refl (zn κ))
  unfold w_Ma_proceed_0
  have hE : f5_Ma_proceed (am6 κ a0) = f5_Ma_proceed (am6 κ a0) := rfl
  unfold w_Ma_proceed_2
  refine ⟨fun n l0 l1 τ => n = (13 - l1.toInt).toNat ∧ ((a0 = l0 ∧ mF κ τ a0 ∧ zI τ maShared a0 = zI κ maShared a0 ∧ mO τ a0 ∧ 0 ≤ l1.toInt ∧ mG κ τ a0) ∧ ∃ m5, n < m5 ∧ f5_Ma_proceed (am6 κ a0) = f5_Ma_proceed_2 m5 l1 (am6 τ a0)), ⟨_, rfl, ?_⟩, ?_⟩
  · refine and_5 ?_ (fun o9 => ⟨fu5, by first | exact fb5 | (unfold fu5; omega) | decide, hE⟩)  -- j1
    exact ⟨rfl, mF.rf, rfl, hp.2, by decide, mG.rf⟩
  rintro n2 _ x2_1 κ2 W2 T2_0 ⟨hn2, ⟨rfl, i2⟩, m2, hm2, hE⟩
  obtain ⟨m2, rfl⟩ : ∃ m9, m2 = m9 + 1 := ⟨m2 - 1, by omega⟩
  refine ⟨fun c1 => ?_, fun c1 => ?_⟩
  · skip
    replace hE := rb_t5 hE c1
    refine h _ ?_
    · refine and_5 ?_ (fun o9 => hE)  -- q2
      exact ⟨i2.1, i2.2.1, Or.inl i2.2.2.1, i2.2.2.2.2⟩
  · skip
    replace hE := rb_f5 hE c1
    obtain ⟨F, eS, O, l0, G⟩ := i2
    have I := (mkI_f F W Ta0 hp.1).1
    have LM := I.1.1
    refine ⟨fun c2 => ?_, fun c2 => ?_⟩
    · skip
      replace hE := rb_t5 hE c2
      intro κ_3 hκ_3
      replace hE := rb_i5 hE (am_ui6 (m := a0) (f := maOpen) (by first | exact hκ_3 | (rw [hκ_3]; congr 1; assumption)) (by decide))
      have tκ_3 : zT κ_3 a0 = 7 := by rw [hκ_3]; exact T2_0
      intro W4
      refine ⟨fun c5 => ?_, fun c5 => ?_⟩
      · skip
        replace hE := rb_t5 hE c5
        intro κ_6 hκ_6
        replace hE := rb_i5 hE (am_ui6 (m := a0) (f := maFrame) (by first | exact hκ_6 | (rw [hκ_6]; congr 1; assumption)) (by decide))
        have tκ_6 : zT κ_6 a0 = 7 := by rw [hκ_6]; exact tκ_3
        intro W7
        refine ⟨?_, ?_⟩
        · have P := mO_pop O hκ_3 c5 hκ_6
          have L := (mkI_f (F.tr ((mF_ui hκ_3 (by decide)).tr (mF_ui hκ_6 (by decide)))) W Ta0 hp.1).1.1.1
          obtain ⟨⟨s, o, f⟩, -⟩ := P
          rw [inb_iff]; omega
        intro x8 hx8
        replace hE := rb_p5 hE hx8
        intro T9
        refine Co_column_q6 W7 T9  ?_ (fun r10 q12 => ?_)
        · exact ⟨(mkI_f (F.tr ((mF_ui hκ_3 (by decide)).tr (mF_ui hκ_6 (by decide)))) W Ta0 hp.1).1.2, by decide, by decide⟩  -- p4
        obtain ⟨q12, z9⟩ := q12
        replace hE := rb_p5 hE (z9 a0 tκ_6 (by first | rfl | assumption))
        intro W13
        intro M14
        intro T15
        refine Co_column_q6 W13 T15  ?_ (fun r16 q18 => ?_)
        · exact ⟨(mkI_f (F.tr ((mF_ui hκ_3 (by decide)).tr (mF_ui hκ_6 (by decide)))) W Ta0 hp.1).1.2, by decide, by decide⟩  -- p5
        obtain ⟨q18, z9⟩ := q18
        replace hE := rb_p5 hE (z9 a0 tκ_6 (by first | rfl | assumption))
        intro W19
        intro M20
        intro T21
        refine Ma_slot_q6 W19 T21  (fun r22 q24 => ?_)
        obtain ⟨q24, z9⟩ := q24
        replace hE := rb_i5 hE z9
        intro W25
        intro M26
        intro T27
        refine Ma_put_q6 W25 T27  ?_ (fun κ_28 q29 => ?_)
        · exact (mkI_f (F.tr ((mF_ui hκ_3 (by decide)).tr (mF_ui hκ_6 (by decide)))) W Ta0 hp.1).1.1  -- p6
        obtain ⟨q29, z9⟩ := q29
        replace hE := rb_i5 hE z9
        have tκ_28 : zT κ_28 a0 = 7 := by first | exact q29.1.t tκ_6 (by decide) | exact q29.1.1.t tκ_6 (by decide) | (rw [q29]; exact tκ_6)
        intro W30
        intro M31
        intro T32
        refine Co_column_q6 W30 T32  ?_ (fun r33 q35 => ?_)
        · exact ⟨(mkI_f ((F.tr ((mF_ui hκ_3 (by decide)).tr (mF_ui hκ_6 (by decide)))).tr (mF_put q29).1) W Ta0 hp.1).1.2, by decide, by decide⟩  -- p7
        obtain ⟨q35, z9⟩ := q35
        replace hE := rb_p5 hE (z9 a0 tκ_28 (by first | rfl | assumption))
        intro W36
        intro M37
        intro κ_38 hκ_38
        replace hE := rb_i5 hE (am_ui6 (m := a0) (f := maGoing) (by first | exact hκ_38 | (rw [hκ_38]; congr 1; assumption)) (by decide))
        have tκ_38 : zT κ_38 a0 = 7 := by rw [hκ_38]; exact tκ_28
        intro W39
        intro κ_40 hκ_40
        replace hE := rb_i5 hE (am_ui6 (m := a0) (f := maAnswer) (by first | exact hκ_40 | (rw [hκ_40]; congr 1; assumption)) (by decide))
        have tκ_40 : zT κ_40 a0 = 7 := by rw [hκ_40]; exact tκ_38
        intro W41
        intro x42 hx42
        replace hE := rb_p5 hE hx42
        refine lp_b5 ?_ (fun d9 => ⟨rfl, ?_⟩)
        · have e12 : (12 : Int32).toInt = 12 := rfl
          rw [lti, e12] at c1
          have e1 : (x2_1 + 1).toInt = x2_1.toInt + 1 := by rw [add_i (by rw [t1i]; omega) (by rw [t1i]; omega), t1i]
          rw [hn2, hx42, e1]; omega
        · refine and_5 ?_ (fun o9 => ⟨m2, by omega, hE⟩)  -- i9
          have e12 : (12 : Int32).toInt = 12 := rfl
          rw [lti, e12] at c1
          have e1 : (x2_1 + 1).toInt = x2_1.toInt + 1 := by rw [add_i (by rw [t1i]; omega) (by rw [t1i]; omega), t1i]
          have P := mO_pop O hκ_3 c5 hκ_6
          have F4 := (((F.tr ((mF_ui hκ_3 (by decide)).tr (mF_ui hκ_6 (by decide)))).tr (mF_put q29).1).tr (mF_ui hκ_38 (by decide))).tr (mF_ui hκ_40 (by decide))
          have S := ((mF_put q29).2.1.tr (mS_ui hκ_38 (by decide))).tr (mS_ui hκ_40 (by decide))
          exact ⟨rfl, F4, (S.1 maShared (by decide)).trans (P.2.trans eS), mO_s S P.1, by rw [hx42, e1]; omega, (G.tr ((mG_ui hκ_3 (by decide)).tr (mG_ui hκ_6 (by decide)))).tr S.2⟩
      · skip
        replace hE := rb_f5 hE c5
        intro κ_43 hκ_43
        replace hE := rb_i5 hE (am_ui6 (m := a0) (f := maOutcome) (by first | exact hκ_43 | (rw [hκ_43]; congr 1; assumption)) (by decide))
        have tκ_43 : zT κ_43 a0 = 7 := by rw [hκ_43]; exact tκ_3
        intro W44
        intro κ_45 hκ_45
        replace hE := rb_i5 hE (am_ui6 (m := a0) (f := maNumber) (by first | exact hκ_45 | (rw [hκ_45]; congr 1; assumption)) (by decide))
        have tκ_45 : zT κ_45 a0 = 7 := by rw [hκ_45]; exact tκ_43
        intro W46
        refine h _ ?_
        · refine and_5 ?_ (fun o9 => hE)  -- q10
          have e : zI κ_45 maOutcome a0 = zI κ_43 maOutcome a0 := by rw [hκ_45]; rfl
          refine ⟨((F.tr (mF_ui hκ_3 (by decide))).tr (mF_ui hκ_43 (by decide))).tr (mF_ui hκ_45 (by decide)), by rw [hκ_45, hκ_43, hκ_3]; exact eS, Or.inr ?_, ((G.tr (mG_ui hκ_3 (by decide))).tr (mG_ui hκ_43 (by decide))).tr (mG_ui hκ_45 (by decide))⟩
          rw [e, hκ_43]
          exact if_pos ⟨rfl, rfl⟩
    · skip
      replace hE := rb_f5 hE c2
      refine ⟨?_, ?_⟩
      · obtain ⟨s, o, f⟩ := O
        rw [inb_iff]; omega
      intro κ_47 hκ_47
      replace hE := rb_i5 hE (am_ua6 (m := a0) (f := maMemory) W2 T2_0 hκ_47 (by decide))
      have tκ_47 : zT κ_47 a0 = 7 := by rw [hκ_47]; exact T2_0
      intro W48
      refine h _ ?_
      · refine and_5 ?_ (fun o9 => hE)  -- q12
        obtain ⟨f1, f2, f3⟩ := mF_ua W2 T2_0 (show zr maMemory = some 20 by decide +kernel) (by decide) hκ_47
        exact ⟨F.tr f1, by rw [f3]; exact eS, Or.inl (mO_i f3 O), G.tr f2.2⟩

theorem Ma_settle_q6 {C : zC} {n0 : Nat} {a0 : Nat} {a1 : Int32} {κ : zS} {Q : zS → Prop} (W : zW C n0 κ) (Ta0 : zT κ a0 = 7)  (hp : mkI κ a0 ∧ mO κ a0 ∧ (zI κ maWays a0).toInt ≤ 64) (h : ∀ (κ' : zS), ((mF κ κ' a0 ∧ zI κ' maShared a0 = zI κ maShared a0 ∧ (mO κ' a0 ∨ zI κ' maOutcome a0 = 1) ∧ mG κ κ' a0) ∧ f5_Ma_settle a1 (am6 κ a0) = .inl (am6 κ' a0, ())) → Q κ') : zRun C 2 mMa_settle [.ref a0, .int a1] κ (oV Q noX) := by
  refine Ma_settle_run W Ta0 ?_
  replace W := W.lo (Nat.le_trans W.1.2.1 W.1.2.2) (Nat.le_refl (zn κ))
  unfold w_Ma_settle_0
  have hj26 : ∀ (l0 : Nat) (τ : zS), zW C (zn κ) τ → zT τ l0 = 7 → ((a0 = l0 ∧ mF κ τ a0 ∧ mS κ τ a0) ∧ f5_Ma_settle a1 (am6 κ a0) = f5_Ma_settle_26 (am6 τ a0)) → w_Ma_settle_26 C (zn κ) Q  l0 τ := by
    rintro _ τ26 W26 T26_0 ⟨⟨rfl, j26⟩, hE⟩
    unfold w_Ma_settle_26
    obtain ⟨F, S⟩ := j26
    have I := (mkI_f F W Ta0 hp.1).1
    have O := mO_s S hp.2.1
    have LM := I.1.1
    refine ⟨?_, ?_⟩
    · obtain ⟨s, o, f⟩ := O
      rw [inb_iff]; omega
    intro T1
    refine Co_column_q6 W26 T1  ?_ (fun r2 q4 => ?_)
    · exact ⟨I.2, by decide, by decide⟩  -- p2
    obtain ⟨q4, z9⟩ := q4
    replace hE := rb_p5 hE (z9 a0 T26_0 (by first | rfl | assumption))
    intro W5
    intro M6
    intro κ_7 hκ_7
    replace hE := rb_i5 hE (am_ui6 (m := a0) (f := maGoing) (by first | exact hκ_7 | (rw [hκ_7]; congr 1; assumption)) (by decide))
    have tκ_7 : zT κ_7 a0 = 7 := by rw [hκ_7]; exact T26_0
    intro W8
    intro κ_9 hκ_9
    replace hE := rb_i5 hE (am_ui6 (m := a0) (f := maAnswer) (by first | exact hκ_9 | (rw [hκ_9]; congr 1; assumption)) (by decide))
    have tκ_9 : zT κ_9 a0 = 7 := by rw [hκ_9]; exact tκ_7
    intro W10
    intro T11
    refine Ma_proceed_q6 W10 T11  ?_ (fun κ_12 q13 => ?_)
    · exact ⟨(mkI_f ((F.tr (mF_ui hκ_7 (by decide))).tr (mF_ui hκ_9 (by decide))) W Ta0 hp.1).1, mO_s ((mS_ui hκ_7 (by decide)).tr (mS_ui hκ_9 (by decide))) O⟩  -- p3
    obtain ⟨q13, z9⟩ := q13
    replace hE := rb_i5 hE z9
    have tκ_12 : zT κ_12 a0 = 7 := by first | exact q13.1.t tκ_9 (by decide) | exact q13.1.1.t tκ_9 (by decide) | (rw [q13]; exact tκ_9)
    intro W14
    intro M15
    refine h _ ?_
    · refine and_5 ?_ (fun o9 => hE)  -- q4
      exact ⟨((F.tr (mF_ui hκ_7 (by decide))).tr (mF_ui hκ_9 (by decide))).tr q13.1, q13.2.1.trans (((S.tr (mS_ui hκ_7 (by decide))).tr (mS_ui hκ_9 (by decide))).1 maShared (by decide)), q13.2.2.1, ((S.tr (mS_ui hκ_7 (by decide))).tr (mS_ui hκ_9 (by decide))).2.tr q13.2.2.2⟩
  have hE : f5_Ma_settle a1 (am6 κ a0) = f5_Ma_settle a1 (am6 κ a0) := rfl
  refine ⟨fun c16 => ?_, fun c16 => ?_⟩
  · skip
    replace hE := rb_t5 hE c16
    refine hj26 _ _ W ?_ ?_
    · exact Ta0  -- t5
    · refine and_5 ?_ (fun o9 => hE)  -- k6
      exact ⟨rfl, mF.rf, mS.rf⟩
  · skip
    replace hE := rb_f5 hE c16
    refine ⟨fun c17 => ?_, fun c17 => ?_⟩
    · skip
      replace hE := rb_t5 hE c17
      refine hj26 _ _ W ?_ ?_
      · exact Ta0  -- t7
      · refine and_5 ?_ (fun o9 => hE)  -- k8
        exact ⟨rfl, mF.rf, mS.rf⟩
    · skip
      replace hE := rb_f5 hE c17
      refine ⟨?_, ?_⟩
      · rw [lti, t0i] at c16
        rw [lei] at c17
        have L := hp.1.1.2.2.2.1
        have w := hp.2.2
        rw [inb_iff]; omega
      intro T18
      refine Ma_put_q6 W T18  ?_ (fun κ_19 q20 => ?_)
      · exact hp.1.1  -- p10
      obtain ⟨q20, z9⟩ := q20
      replace hE := rb_i5 hE z9
      have tκ_19 : zT κ_19 a0 = 7 := by first | exact q20.1.t Ta0 (by decide) | exact q20.1.1.t Ta0 (by decide) | (rw [q20]; exact Ta0)
      intro W21
      intro M22
      refine hj26 _ _ W21 ?_ ?_
      · exact (mF_put q20).1.1.t Ta0 (by decide)  -- t11
      · refine and_5 ?_ (fun o9 => hE)  -- k12
        exact ⟨rfl, (mF_put q20).1, (mF_put q20).2.1⟩

end
