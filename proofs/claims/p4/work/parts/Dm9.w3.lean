set_option maxHeartbeats 1600000
/-! both tapes cut alike -/
def tkA5 (y : Y5) (σ : rS) (B : Nat → Int32) (n Bk t : Nat) : Prop := ∃ p s : Nat, p + s ≤ n ∧ y.2.1 t = Int32.ofNat p ∧ y.2.2.1 t = Int32.ofNat s ∧ σ.2.2.1 6 (Bk + t) = Int32.ofNat p ∧ tR5 B p s (y.1 t) (σ.2.2.1 5 (Bk + t)) (σ.2.2.1 7 (Bk + t)) (σ.2.2.2 8 (Bk + t)) (σ.2.2.1 9 (Bk + t))
def tkZ5 (y : Y5) (σ : rS) (n Bk t : Nat) : Prop := y.1 t = 142 ∧ y.2.1 t = Int32.ofNat n ∧ σ.2.2.1 5 (Bk + t) = 5 ∧ σ.2.2.1 6 (Bk + t) = Int32.ofNat n
def TK5 (y : Y5) (σ : rS) (B : Nat → Int32) (n Bk N : Nat) : Prop := y.2.2.2 = Int32.ofNat N ∧ 0 < N ∧ N ≤ n + 1 ∧ (∀ t, t + 1 < N → tkA5 y σ B n Bk t ∧ y.1 t ≠ 143) ∧ ((tkA5 y σ B n Bk (N - 1) ∧ y.1 (N - 1) = 143) ∨ tkZ5 y σ n Bk (N - 1))
def frT5 (σ σ' : rS) : Prop := (∀ j, j ≠ 4 → σ'.1 j = σ.1 j) ∧ (∀ r j, ¬ (r = 5 ∨ r = 6 ∨ r = 7 ∨ r = 9) → σ'.2.2.1 r j = σ.2.2.1 r j)
theorem tkA_k5 {y y' : Y5} {σ σ' : rS} {B : Nat → Int32} {n Bk t : Nat} (h : tkA5 y σ B n Bk t) (h1 : y'.1 t = y.1 t) (h2 : y'.2.1 t = y.2.1 t) (h3 : y'.2.2.1 t = y.2.2.1 t) (hr : ∀ r, (r = 5 ∨ r = 6 ∨ r = 7 ∨ r = 9) → σ'.2.2.1 r (Bk + t) = σ.2.2.1 r (Bk + t)) (hl : σ'.2.2.2 8 (Bk + t) = σ.2.2.2 8 (Bk + t)) : tkA5 y' σ' B n Bk t := by
  unfold tkA5 at h ⊢
  rw [h1, h2, h3, hr 5 (by omega), hr 6 (by omega), hr 7 (by omega), hr 9 (by omega), hl]
  exact h
theorem cl_5 {k : Nat} (h : k ≤ 67108864) : (Int32.ofNat k).toNatClampNeg = k := by
  have z := ofn_i h
  rw [nc_5, z]
  omega
theorem ct_75 {σ : rS} {T : Nat} (hT : (σ.1 3 + σ.1 4).toNatClampNeg = T) : (∀ j, (g5_cutTape_72 σ).1 j = σ.1 j) ∧ (∀ r j, ¬ (j = T ∧ (r = 5 ∨ r = 6 ∨ r = 7)) → (g5_cutTape_72 σ).2.2.1 r j = σ.2.2.1 r j) ∧ (g5_cutTape_72 σ).2.2.2 = σ.2.2.2 ∧ (g5_cutTape_72 σ).2.2.1 5 T = 5 ∧ (g5_cutTape_72 σ).2.2.1 6 T = σ.1 2 := by
  unfold g5_cutTape_72
  dsimp only [pb5]
  have e : ∀ x y, ((riU (riU σ 5 (σ.1 3 + σ.1 4).toNatClampNeg x) 6 ((riU σ 5 (σ.1 3 + σ.1 4).toNatClampNeg x).1 3 + (riU σ 5 (σ.1 3 + σ.1 4).toNatClampNeg x).1 4).toNatClampNeg y).1 3 + (riU (riU σ 5 (σ.1 3 + σ.1 4).toNatClampNeg x) 6 ((riU σ 5 (σ.1 3 + σ.1 4).toNatClampNeg x).1 3 + (riU σ 5 (σ.1 3 + σ.1 4).toNatClampNeg x).1 4).toNatClampNeg y).1 4).toNatClampNeg = T := fun _ _ => hT
  have e2 : ∀ x, ((riU σ 5 (σ.1 3 + σ.1 4).toNatClampNeg x).1 3 + (riU σ 5 (σ.1 3 + σ.1 4).toNatClampNeg x).1 4).toNatClampNeg = T := fun _ => hT
  rw [e, e2, hT]
  refine ⟨fun _ => rfl, fun r j h => ?_, rfl, ?_, ?_⟩
  · rw [ri34]
    by_cases a : r = 7
    · subst a
      rw [if_pos rfl, if_neg (fun q => h ⟨q, by omega⟩), ri34, if_neg (by decide), ri34, if_neg (by decide)]
    · rw [if_neg a, ri34]
      by_cases b : r = 6
      · subst b
        rw [if_pos rfl, if_neg (fun q => h ⟨q, by omega⟩), ri34, if_neg (by decide)]
      · rw [if_neg b, ri34]
        by_cases c : r = 5
        · subst c
          rw [if_pos rfl, if_neg (fun q => h ⟨q, by omega⟩)]
        · rw [if_neg c]
  · rw [ri34, if_neg (by decide), ri34, if_neg (by decide), ri34, if_pos rfl, if_pos rfl]
    rfl
  · rw [ri34, if_neg (by decide), ri34, if_pos rfl, if_pos rfl]
    rfl
theorem tR_k5 {B : Nat → Int32} {p s : Nat} {K so nu : Int32} {F : Int64} {G : Int32} (h : tR5 B p s K so nu F G) : K ≠ 142 ∧ (K = 143 ↔ so = 4) := by
  have e4 : (142 : Int32).toInt = 142 := rfl
  have e5 : (143 : Int32).toInt = 143 := rfl
  rcases h with ⟨a, b⟩ | ⟨a, b, _⟩ | ⟨a, b, _⟩ | ⟨a, a2, b, _⟩ | ⟨b, c⟩
  · rw [a, b]; exact ⟨by decide, fun _ => rfl, fun _ => rfl⟩
  · rw [a, b]; exact ⟨by decide, fun q => absurd q (by decide), fun q => absurd q (by decide)⟩
  · rw [a, b]; exact ⟨by decide, fun q => absurd q (by decide), fun q => absurd q (by decide)⟩
  · rw [b]
    exact ⟨fun q => by rw [q, e4] at a; omega, fun q => by rw [q, e5] at a; omega, fun q => absurd q (by decide)⟩
  · rw [b]
    rcases c with ⟨c, d, _⟩ | ⟨c, d, _⟩
    · exact ⟨fun q => by rw [q, e4] at d; omega, fun q => by rw [q, e5] at d; omega, fun q => absurd q (by decide)⟩
    · exact ⟨fun q => by rw [q, e4] at d; omega, fun q => by rw [q, e5] at d; omega, fun q => absurd q (by decide)⟩
theorem pu_e5 {f : Nat → Int32} {n x : Int32} {k : Nat} (h : n.toNatClampNeg = k) : pu5 f n x k = x := if_pos h.symm
theorem pu_n5 {f : Nat → Int32} {n x : Int32} {k t : Nat} (h : n.toNatClampNeg = k) (ht : t ≠ k) : pu5 f n x t = f t := if_neg (fun q => ht (q.trans h))
theorem of_e5 {x : Int32} {n : Nat} (h : x.toInt = n) (hn : n ≤ 67108864) : x = Int32.ofNat n := Int32.toInt_inj.mp (by rw [ofn_i hn]; exact h)
theorem sp_l5 {U : U5} {B : Nat → Int32} {n Bk : Nat} (HU : okU5 U) (hB : bU5 U = B) (hn : nU5 U = n) (hn2 : n ≤ 65536) (hBk : Bk ≤ 65537) : ∀ (d mc mr cnt : Nat) (a1 a2 r : Int32) (y : Y5) (σ : rS), okS5 σ → bS5 σ = B → nS5 σ = n → σ.1 3 = Int32.ofNat Bk → σ.1 4 = Int32.ofNat cnt → y.2.2.2 = Int32.ofNat cnt → a2 = Int32.ofNat cnt → 0 ≤ a1.toInt → a1.toInt ≤ n → r.toInt = skqq5 B n false a1.toInt.toNat → cnt ≤ a1.toInt.toNat → n - r.toInt.toNat < d → d ≤ mc → d ≤ mr → (∀ t, t < cnt → tkA5 y σ B n Bk t ∧ y.1 t ≠ 143) → ∃ N, TK5 (f5_Ta_split_9 U mc a1 a2 y) (g5_cutTape_13 mr r 0 σ) B n Bk N ∧ frT5 σ (g5_cutTape_13 mr r 0 σ)
  | 0, _, _, _, _, _, _, _, _, _, _, _, _, _, _, _, _, _, _, _, h, _, _, _ => by omega
  | d + 1, mc, mr, cnt, a1, a2, r, y, σ, HS, sB, sn, s3, s4, hy, ha2, h0, h1, hr, hc, hd, hmc, hmr, hA => by
    obtain ⟨mc, rfl⟩ : ∃ k, mc = k + 1 := ⟨mc - 1, by omega⟩
    obtain ⟨mr, rfl⟩ : ∃ k, mr = k + 1 := ⟨mr - 1, by omega⟩
    have hlen : U.2.1.toInt = n := by have := HU.1; unfold nU5 at hn; omega
    have hsz : (σ.1 2).toInt = n := by have := HS.1; unfold nS5 at sn; omega
    have lc := ofn_i (n := cnt) (by omega)
    have hR : f5_Ta_skipBlanks U a1 = r := Int32.toInt_inj.mp (by rw [sk_U5 HU h0 (by omega), hB, hn, hr])
    have hT : (σ.1 3 + σ.1 4).toNatClampNeg = Bk + cnt := by rw [s3, s4, on_5 (by omega), cl_5 (by omega)]
    have sk1 := sk_leqq5 (B := B) (n := n) (p := a1.toInt.toNat) (c := false) (by omega)
    have sk2 := sk_b5 (B := B) (n := n) (p := a1.toInt.toNat) (c := false)
    have yc : y.2.2.2.toNatClampNeg = cnt := by rw [hy, cl_5 (by omega)]
    have yt : y.2.2.2 + 1 = Int32.ofNat (cnt + 1) := by rw [hy, on_15 (by omega)]
    rw [sp_s5 (by rw [lti, ha2]; omega), hR]
    by_cases c : n ≤ r.toInt.toNat
    · have k1 : kn5 U r = 142 := if_pos (by rw [lei]; omega)
      have e1 : g5_cutTape_13 (mr + 1) r 0 σ = g5_cutTape_72 σ := by
        rw [g5_cutTape_13]
        exact if_pos (by rw [lei]; omega)
      rw [k1, if_pos rfl, e1]
      obtain ⟨q1, q2, q3, q4, q5⟩ := ct_75 hT
      refine ⟨cnt + 1, ⟨yt, by omega, by omega, fun t ht => ?_, Or.inr ⟨pu_e5 yc, ?_, q4, ?_⟩⟩, fun j _ => q1 j, fun r' j hj => q2 r' j (fun q => hj (by omega))⟩
      · obtain ⟨w1, w2⟩ := hA t (by omega)
        have e : (tk5 142 r (sz5 U r) y).1 t = y.1 t := pu_n5 yc (by omega)
        refine ⟨tkA_k5 w1 e (pu_n5 yc (by omega)) (pu_n5 yc (by omega)) (fun r' hr' => q2 r' _ (by omega)) (by rw [q3]), by rw [e]; exact w2⟩
      · show pu5 y.2.1 y.2.2.2 r (cnt + 1 - 1) = _
        rw [show cnt + 1 - 1 = cnt by omega, pu_e5 yc]
        exact of_e5 (by omega) (by omega)
      · rw [show Bk + (cnt + 1 - 1) = Bk + cnt by omega, q5]
        exact of_e5 (by omega) (by omega)
    · have hp : r.toInt.toNat < n := by omega
      have r0 : 0 ≤ r.toInt := by rw [hr]; exact Int.natCast_nonneg _
      obtain ⟨k1, k2⟩ := kn_U5 (r := r) (p := r.toInt.toNat) HU (by omega) (by rw [hn]; exact hp)
      rw [hB, hn] at k1 k2
      obtain ⟨σ1, e, so, nu, F, G, t1, t2, t3, t4⟩ := tk_S5 (a1 := r) (p := r.toInt.toNat) HS (by omega) (by omega) hT
      rw [sB, sn] at t2 t4
      obtain ⟨u1, u2, u3⟩ := tk_b5 t3
      have tR := tR_5 t4
      rw [← k1] at tR
      obtain ⟨n1, n2⟩ := tR_k5 tR
      have te1 := te_ltqq5 (B := B) (n := n) (p := r.toInt.toNat)
      have te2 := te_b5 (B := B) hp
      have hsk : (g5_skip e σ1).toInt = skqq5 B n false e.toInt.toNat := by
        rw [sk_S5 (u3 HS) (by omega) (by have w := t3.1 2; rw [w]; omega), u1, u2, sB, sn]
      have e1 : g5_cutTape_13 (mr + 1) r 0 σ = if so = 4 then g5_cutTape_58 (g5_cutTape_13 mr) (g5_skip e σ1) 1 σ1 else g5_cutTape_58 (g5_cutTape_13 mr) (g5_skip e σ1) 0 σ1 := by
        rw [g5_cutTape_13]
        dsimp only [pm5, pb5]
        rw [if_neg (by rw [lei]; omega), if_pos rfl, t1]
        dsimp only
        rw [t3.1 3, t3.1 4, hT, t3.2.2.2.1]
      rw [if_neg n1, e1]
      have yk : ∀ t, t ≠ cnt → (tk5 (kn5 U r) r (sz5 U r) y).1 t = y.1 t := fun t ht => pu_n5 yc ht
      have yk2 : (tk5 (kn5 U r) r (sz5 U r) y).1 cnt = kn5 U r := pu_e5 yc
      have hs4 : (siU σ1 4 (σ1.1 4 + 1)).1 4 = Int32.ofNat (cnt + 1) := by
        rw [si1, if_pos rfl, t3.1 4, s4, on_15 (by omega)]
      have hs3 : (siU σ1 4 (σ1.1 4 + 1)).1 3 = Int32.ofNat Bk := by
        rw [si1, if_neg (by decide), t3.1 3, s3]
      have hAll : ∀ t, t < cnt → tkA5 (tk5 (kn5 U r) r (sz5 U r) y) (siU σ1 4 (σ1.1 4 + 1)) B n Bk t := fun t ht =>
        tkA_k5 (hA t ht).1 (yk t (by omega)) (pu_n5 yc (by omega)) (pu_n5 yc (by omega)) (fun r' hr' => t3.2.1 r' _ (by omega)) (t3.2.2.1 _ (by omega))
      have hNew : tkA5 (tk5 (kn5 U r) r (sz5 U r) y) (siU σ1 4 (σ1.1 4 + 1)) B n Bk cnt := by
        refine ⟨r.toInt.toNat, tEnq5 B n r.toInt.toNat - r.toInt.toNat, by omega, ?_, ?_, ?_, ?_⟩
        · show pu5 y.2.1 y.2.2.2 r cnt = _
          rw [pu_e5 yc]
          exact of_t5 (by omega)
        · show pu5 y.2.2.1 y.2.2.2 (sz5 U r) cnt = _
          rw [pu_e5 yc]
          exact of_e5 (by omega) (by omega)
        · show σ1.2.2.1 6 (Bk + cnt) = _
          rw [t3.2.2.2.2.1]
          exact of_t5 (by omega)
        · rw [yk2]
          show tR5 _ _ _ _ (σ1.2.2.1 5 (Bk + cnt)) (σ1.2.2.1 7 (Bk + cnt)) (σ1.2.2.2 8 (Bk + cnt)) (σ1.2.2.1 9 (Bk + cnt))
          rw [t3.2.2.2.1, t3.2.2.2.2.2.1, t3.2.2.2.2.2.2.1, t3.2.2.2.2.2.2.2]
          exact tR
      by_cases k3 : kn5 U r = 143
      · rw [if_pos k3, if_pos (n2.mp k3)]
        have e2 : g5_cutTape_58 (g5_cutTape_13 mr) (g5_skip e σ1) 1 σ1 = g5_cutTape_72 (siU σ1 4 (σ1.1 4 + 1)) := by
          unfold g5_cutTape_58
          dsimp only [pb5]
          obtain ⟨mr, rfl⟩ : ∃ k, mr = k + 1 := ⟨mr - 1, by omega⟩
          rw [g5_cutTape_13]
          by_cases z : (siU σ1 4 (σ1.1 4 + 1)).1 2 ≤ g5_skip e σ1
          · rw [if_pos z]
          · rw [if_neg z, if_neg (by decide)]
        rw [e2]
        obtain ⟨q1, q2, q3, q4, q5⟩ := ct_75 (σ := siU σ1 4 (σ1.1 4 + 1)) (T := Bk + cnt + 1) (by rw [hs3, hs4, on_5 (by omega), cl_5 (by omega)]; omega)
        refine ⟨cnt + 1, ⟨yt, by omega, by omega, fun t ht => ?_, Or.inl ⟨?_, ?_⟩⟩, fun j hj => ?_, fun r' j hj => ?_⟩
        · refine ⟨tkA_k5 (hAll t (by omega)) rfl rfl rfl (fun r' hr' => q2 r' _ (by omega)) (by rw [q3]), ?_⟩
          rw [yk t (by omega)]
          exact (hA t (by omega)).2
        · rw [show cnt + 1 - 1 = cnt by omega]
          exact tkA_k5 hNew rfl rfl rfl (fun r' hr' => q2 r' _ (by omega)) (by rw [q3])
        · rw [show cnt + 1 - 1 = cnt by omega, yk2]
          exact k3
        · rw [q1, si1, if_neg hj]
          exact t3.1 j
        · rw [q2 r' j (fun q => hj (by omega))]
          exact t3.2.1 r' j (fun q => hj (by omega))
      · rw [if_neg k3, if_neg (fun q => k3 (n2.mpr q))]
        have e2 : g5_cutTape_58 (g5_cutTape_13 mr) (g5_skip e σ1) 0 σ1 = g5_cutTape_13 mr (g5_skip e σ1) 0 (siU σ1 4 (σ1.1 4 + 1)) := rfl
        rw [e2]
        have er : (r + sz5 U r).toInt = e.toInt := by
          rw [add_i (by omega) (by omega)]
          omega
        have fr1 : frT5 σ (siU σ1 4 (σ1.1 4 + 1)) := ⟨fun j hj => by rw [si1, if_neg hj]; exact t3.1 j, fun r' j hj => t3.2.1 r' j (fun q => hj (by omega))⟩
        have sk3 := sk_leqq5 (B := B) (n := n) (p := e.toInt.toNat) (c := false) (by omega)
        have bb : bS5 (siU σ1 4 (σ1.1 4 + 1)) = B := by
          have z : bS5 (siU σ1 4 (σ1.1 4 + 1)) = bS5 σ1 := rfl
          rw [z, u1, sB]
        have n2' : (siU σ1 4 (σ1.1 4 + 1)).1 2 = σ.1 2 := by rw [si1, if_neg (by decide), t3.1 2]
        obtain ⟨N, g1, g2⟩ := sp_l5 HU hB hn hn2 hBk d mc mr (cnt + 1) (r + sz5 U r) (a2 + 1) (g5_skip e σ1) (tk5 (kn5 U r) r (sz5 U r) y) (siU σ1 4 (σ1.1 4 + 1)) (by unfold okS5 at HS ⊢; rw [n2']; exact HS) bb (by unfold nS5 at sn ⊢; rw [n2']; exact sn) hs3 hs4 yt (by rw [ha2, on_15 (by omega)]) (by omega) (by omega) (by rw [er]; exact hsk) (by omega) (by omega) (by omega) (by omega) (fun t ht => by
          by_cases z : t = cnt
          · rw [z, yk2]; exact ⟨hNew, k3⟩
          · rw [yk t z]; exact ⟨hAll t (by omega), (hA t (by omega)).2⟩)
        exact ⟨N, g1, fun j hj => (g2.1 j hj).trans (fr1.1 j hj), fun r' j hj => (g2.2 r' j hj).trans (fr1.2 r' j hj)⟩
/-- both tapes cut -/
theorem cut_5 {U : U5} {σ : rS} {n Bk : Nat} (HU : okU5 U) (HS : okS5 σ) (hB : bU5 U = bS5 σ) (hn : nU5 U = n) (sn : nS5 σ = n) (hBk : Bk ≤ 65537) (s3 : σ.1 3 = Int32.ofNat Bk) : ∃ N, TK5 (f5_Ta_split U) (g5_cutTape σ) (bS5 σ) n Bk N ∧ frT5 σ (g5_cutTape σ) := by
  have hsz : (σ.1 2).toInt = n := by have := HS.1; unfold nS5 at sn; omega
  have hn2 : n ≤ 65536 := by have := HS.2; omega
  unfold f5_Ta_split g5_cutTape
  dsimp only [pb5]
  have b1 : bS5 (siU σ 4 0) = bS5 σ := rfl
  have e2 : (siU σ 4 0).1 2 = σ.1 2 := rfl
  have o1 : okS5 (siU σ 4 0) := HS
  have hs := sk_S5 (a := 0) o1 (by decide) (by rw [e2, t0i]; exact HS.1)
  have z0 : (0 : Int32).toInt.toNat = 0 := rfl
  have nn : nS5 (siU σ 4 0) = n := sn
  rw [b1, nn, z0] at hs
  obtain ⟨N, g1, g2⟩ := sp_l5 HU hB hn hn2 hBk (n + 1) fu5 fu5 0 0 0 (g5_skip 0 (siU σ 4 0)) y05 (siU σ 4 0) o1 b1 nn s3 rfl rfl rfl (by decide) (by rw [t0i]; omega) (by rw [z0]; exact hs) (by omega) (by omega) (by unfold fu5; omega) (by unfold fu5; omega) (fun t ht => by omega)
  refine ⟨N, g1, fun j hj => (g2.1 j hj).trans ?_, fun r' j hj => g2.2 r' j hj⟩
  rw [si1, if_neg hj]
