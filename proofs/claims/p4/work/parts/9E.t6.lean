set_option maxHeartbeats 1600000
/-! the reference: what flows into a state -/
def vOK (σ : rS) (k : Nat) : Prop := slN σ 102 (34 * k) 16 ∧ slN σ 102 (34 * k + 17) 16 ∧ 0 < slV σ 102 (34 * k + 17)
def gS (σ : rS) (k : Nat) : Nat := if σ.2.2.1 96 k = 0 then 1 else slV σ 102 (34 * k + 17) * (tTI σ k).toNat
def byQ (σ : rS) (a : Int32) : Rat := if a = -1 then 1 else sQ σ a.toNatClampNeg
def byO (σ : rS) (a : Int32) : Prop := a = -1 ∨ (0 ≤ a ∧ a < 2176 ∧ hL σ a.toNatClampNeg (sQ σ a.toNatClampNeg))
def vB : Nat := 65536 ^ 16 * 65536 ^ 129
/-- the sum on its way -/
def siJ (σ τ : rS) (n c F : Nat) : Prop := ∃ S, hS τ S ∧ 0 ≤ S ∧ S ≤ ((c * vB : Nat) : Rat) ∧ S.den ∣ prS (gS σ) n * F
theorem sl_lt {σ : rS} {k c M : Nat} {m : Int32} (hm : m.toInt = M) (h : slN σ k c m) : slV σ k c < 65536 ^ M :=
  Nat.lt_of_lt_of_le (dv_lt h.2.2.1) (Nat.pow_le_pow_right (by decide) (cn_le hm h.2.1))
theorem q_le {q : Rat} {N : Nat} (h : q.num ≤ N) : q ≤ (N : Rat) := by
  rw [Rat.le_iff, Rat.num_natCast, Rat.den_natCast]
  have d : 0 < q.den := den0
  have e : (N : Int) * 1 ≤ (N : Int) * (q.den : Int) := Int.mul_le_mul_of_nonneg_left (by omega) (by omega)
  show q.num * ((1 : Nat) : Int) ≤ _
  omega
theorem mk_num {n d : Nat} : (mkRat (n : Int) d).num ≤ n := by
  rw [Rat.num_mkRat]
  split
  · omega
  · exact Int.ediv_le_self _ (by omega)
theorem mk_le1 {w : Int} {T : Nat} (hT : 0 < T) (h : w ≤ T) : mkRat w T ≤ 1 := by
  have t := nq0 hT
  have e := inv_s (S := (T : Rat)) (by grind)
  have i := Rat.inv_pos.mpr t
  have k : (w : Rat) ≤ ((T : Int) : Rat) := Rat.intCast_le_intCast.mpr h
  have z := Rat.mul_le_mul_of_nonneg_right k (Rat.le_of_lt i)
  rw [mk_d]
  have e2 : ((T : Int) : Rat) * (T : Rat)⁻¹ = 1 := e
  rwa [e2] at z
theorem mk_nn {w : Int} {T : Nat} (hT : 0 < T) (h : 0 ≤ w) : 0 ≤ mkRat w T := by
  have i := Rat.inv_pos.mpr (nq0 hT)
  have k : ((0 : Int) : Rat) ≤ (w : Rat) := Rat.intCast_le_intCast.mpr h
  rw [mk_d]
  exact Rat.mul_nonneg k (Rat.le_of_lt i)
theorem pr_le {x y z A B : Rat} (x0 : 0 ≤ x) (z0 : 0 ≤ z) (hx : x ≤ A) (hy : y ≤ 1) (hz : z ≤ B) : x * y * z ≤ A * B := by
  have a := Rat.mul_le_mul_of_nonneg_left hy x0
  rw [Rat.mul_one] at a
  have b := Rat.mul_le_mul_of_nonneg_right (Rat.le_trans a hx) z0
  have c := Rat.mul_le_mul_of_nonneg_left hz (Rat.le_trans x0 hx)
  exact Rat.le_trans b c
theorem by_b {σ : rS} {a : Int32} (h : byO σ a) : 0 ≤ byQ σ a ∧ byQ σ a ≤ ((65536 ^ 129 : Nat) : Rat) ∧ (byQ σ a).den < 65536 ^ 129 := by
  unfold byQ
  rcases h with z | z
  · rw [if_pos z]
    exact ⟨by decide, q_le (by decide), by decide⟩
  · rw [if_neg (fun y => by rw [y] at z; exact absurd z.1 (by decide))]
    have l := z.2.2
    have u := sl_lt (M := 129) rfl l.1
    have v := sl_lt (M := 129) rfl l.2.1
    rw [l.2.2.2] at v
    exact ⟨hL_nn l, q_le (by rw [← l.2.2.1]; exact Int.ofNat_le.mpr (Nat.le_of_lt u)), v⟩
theorem gS_b {σ : rS} {n k : Nat} (h : pOK σ) (hn : n = (σ.1 70).toNatClampNeg) (hv : ∀ k, k < n → σ.2.2.1 96 k ≠ 0 → vOK σ k) (hk : k < n) : 0 < gS σ k ∧ gS σ k ≤ 65536 ^ 18 := by
  obtain ⟨j, j0, j1, je⟩ := toI h.1.1.1 (by rw [← hn]; exact hk)
  have t := tT_b h j0 j1
  rw [je] at t
  unfold gS
  split
  · exact ⟨by decide, by decide⟩
  · rename_i e
    have v := hv k hk e
    have u := sl_lt (M := 16) rfl v.2.1
    refine ⟨Nat.mul_pos v.2.2 (by omega), ?_⟩
    rw [show 65536 ^ 18 = 65536 ^ 16 * 65536 ^ 2 from (Nat.pow_add 65536 16 2)]
    exact Nat.mul_le_mul (Nat.le_of_lt u) (by omega)
theorem M_b {σ : rS} {n F e : Nat} (h : pOK σ) (hn : n = (σ.1 70).toNatClampNeg) (hv : ∀ k, k < n → σ.2.2.1 96 k ≠ 0 → vOK σ k) (hF : 0 < F) (he : F ≤ 65536 ^ e) : 0 < prS (gS σ) n * F ∧ prS (gS σ) n * F < 65536 ^ (18 * n + e + 1) := by
  have a := prS_pos (D := gS σ) (n := n) (fun i hi => (gS_b h hn hv hi).1)
  have b := prS_le (D := gS σ) (b := 18) (n := n) (fun i hi => (gS_b h hn hv hi).2)
  refine ⟨Nat.mul_pos a hF, ?_⟩
  have c := Nat.mul_le_mul b he
  rw [← Nat.pow_add] at c
  exact Nat.lt_of_le_of_lt c (Nat.pow_lt_pow_right (by decide) (Nat.lt_succ_self _))
theorem in_pre {σ : rS} {S q : Rat} {M N a b c d : Nat} (h : hS σ S) (s0 : 0 ≤ S) (g : hR σ 6 7 q) (M0 : 0 < M) (hd : S.den ∣ M) (hm : M < 65536 ^ a) (hs : S ≤ ((65536 ^ b : Nat) : Rat)) (N0 : 0 < N) (hd2 : q.den ∣ N) (hn : N < 65536 ^ c) (hq : q ≤ ((65536 ^ d : Nat) : Rat)) (ha : a + b + c + d + 3 < 40000) : ((1 : Int32) = 1 ∨ (1 : Int32) = -1) ∧ (σ.1 92 = 1 ∨ σ.1 92 = -1) ∧ numO σ 4 ∧ numO σ 5 ∧ numO σ 6 ∧ numO σ 7 ∧ 0 < nV σ 5 ∧ 0 < nV σ 7 ∧ nL σ 4 + nL σ 7 + 3 < 40000 ∧ nL σ 6 + nL σ 5 + 3 < 40000 ∧ nL σ 5 + nL σ 7 + 3 < 40000 := by
  have r := hS_nn h s0
  have p1 := pl_of r M0 hd hm hs
  have p2 := pl_of g N0 hd2 hn hq
  obtain ⟨r', _, w⟩ := h
  exact ⟨Or.inl rfl, w.imp (fun z => z.1) (fun z => z.1), r.1, r.2.1, g.1, g.2.1, (hR_q r).2, (hR_q g).2, by omega, by omega, by omega⟩
theorem vB_e : vB = 65536 ^ 145 := by
  unfold vB
  rw [← Nat.pow_add]
theorem cV_le {c : Nat} (h : c ≤ 2000000) : c * vB ≤ 65536 ^ 147 := by
  rw [vB_e, show 147 = 2 + 145 from rfl, Nat.pow_add]
  exact Nat.mul_le_mul_right _ (by omega)
theorem siJ_mono {σ τ : rS} {n c d F : Nat} (h : siJ σ τ n c F) (hc : c ≤ d) : siJ σ τ n d F := by
  obtain ⟨S, a1, a2, a3, a4⟩ := h
  exact ⟨S, a1, a2, Rat.le_trans a3 (Rat.natCast_le_natCast.mpr (Nat.mul_le_mul_right _ hc)), a4⟩
/-- one summand more: what add wants, and what it gives -/
theorem siJ_add {σ τ : rS} {n c F e k D : Nat} {q : Rat} (h : pOK σ) (hn : n = (σ.1 70).toNatClampNeg) (hv : ∀ k, k < n → σ.2.2.1 96 k ≠ 0 → vOK σ k) (hF : 0 < F) (he : F ≤ 65536 ^ e) (he2 : e ≤ 4200) (hc : c ≤ 1100000) (J : siJ σ τ n c F) (g : hR τ 6 7 q) (hq : q ≤ (vB : Rat)) (hd : q.den ∣ k * D) (hk : k ∣ prS (gS σ) n) (hD : D ∣ F) (k0 : 0 < k) (k1 : k ≤ 65536 ^ 18) (D0 : 0 < D) (D1 : D < 65536 ^ 129) : (((1 : Int32) = 1 ∨ (1 : Int32) = -1) ∧ (τ.1 92 = 1 ∨ τ.1 92 = -1) ∧ numO τ 4 ∧ numO τ 5 ∧ numO τ 6 ∧ numO τ 7 ∧ 0 < nV τ 5 ∧ 0 < nV τ 7 ∧ nL τ 4 + nL τ 7 + 3 < 40000 ∧ nL τ 6 + nL τ 5 + 3 < 40000 ∧ nL τ 5 + nL τ 7 + 3 < 40000) ∧ ∀ υ : rS, hS υ (sgq (τ.1 92) (fQ τ 4 5) + sgq 1 (fQ τ 6 7)) → siJ σ υ n (c + 1) F := by
  obtain ⟨S, a1, a2, a3, a4⟩ := J
  have n1 : n ≤ 1000 := by rw [hn]; exact cn_le (y := 1000) rfl h.1.1.2
  have m := M_b h hn hv hF he
  have kD : k * D < 65536 ^ 147 := by
    rw [show 147 = 18 + 129 from rfl, Nat.pow_add]
    have z1 := Nat.mul_le_mul_right D k1
    have z2 := Nat.mul_lt_mul_of_pos_left D1 (Nat.pow_pos (n := 18) (by decide : 0 < 65536))
    omega
  have q2 : q ≤ ((65536 ^ 145 : Nat) : Rat) := by rw [← vB_e]; exact hq
  refine ⟨in_pre a1 a2 g m.1 a4 m.2 (Rat.le_trans a3 (Rat.natCast_le_natCast.mpr (cV_le (by omega)))) (Nat.mul_pos k0 D0) hd kD q2 (by omega), fun υ hυ => ⟨S + q, ?_, ?_, ?_, ?_⟩⟩
  · rwa [hS_add a1 g] at hυ
  · exact Rat.add_nonneg a2 (hR_nn g)
  · rw [Nat.add_mul, Nat.one_mul, Rat.natCast_add]
    have z1 := a3
    have z2 := hq
    grind
  · exact den_add a4 (Nat.dvd_trans hd (Nat.mul_dvd_mul hk hD)) (by omega)
theorem tw_le {σ : rS} {j : Int32} (h : pOK σ) (j0 : 0 ≤ j) (j1 : j < σ.1 70) {d : Nat} (hd : d < leN σ j.toNatClampNeg) : twI σ j.toNatClampNeg (loN σ j.toNatClampNeg + d) ≤ tTI σ j.toNatClampNeg := by
  rw [← tT_sum h j0 j1]
  have a := sI_mn (f := fun d => twI σ j.toNatClampNeg (loN σ j.toNatClampNeg + d)) (m := d + 1) (fun i hi => tw_nn h j0 j1 hi) (by omega)
  have b := sI_nn (f := fun d => twI σ j.toNatClampNeg (loN σ j.toNatClampNeg + d)) (n := d) (fun i hi => tw_nn h j0 j1 (by omega))
  have c : sI (fun d => twI σ j.toNatClampNeg (loN σ j.toNatClampNeg + d)) (d + 1) = sI (fun d => twI σ j.toNatClampNeg (loN σ j.toNatClampNeg + d)) d + twI σ j.toNatClampNeg (loN σ j.toNatClampNeg + d) := rfl
  omega
/-- visits loaded and scaled -/
theorem ld_q {σ τ : rS} {k : Nat} {w t : Int64} (hv : vOK σ k) (e6 : nV τ 6 = slV σ 102 (34 * k)) (e7 : nV τ 7 = slV σ 102 (34 * k + 17)) (ht : t.toInt = tTI σ k) (t1 : 1 ≤ tTI σ k) (w0 : 0 ≤ w.toInt) (w1 : w.toInt ≤ tTI σ k) (h96 : σ.2.2.1 96 k ≠ 0) : 0 ≤ fQ τ 6 7 ∧ fQ τ 6 7 ≤ ((65536 ^ 16 : Nat) : Rat) ∧ 0 ≤ mkRat w.toInt t.toInt.toNat ∧ mkRat w.toInt t.toInt.toNat ≤ 1 ∧ (fQ τ 6 7 * mkRat w.toInt t.toInt.toNat).den ∣ gS σ k := by
  have u := sl_lt (M := 16) rfl hv.1
  have T0 : 0 < t.toInt.toNat := by omega
  refine ⟨?_, ?_, mk_nn T0 w0, mk_le1 T0 (by omega), ?_⟩
  · unfold fQ
    exact mk_nn (by rw [e7]; exact hv.2.2) (by omega)
  · unfold fQ
    exact Rat.le_trans (q_le mk_num) (Rat.natCast_le_natCast.mpr (by rw [e6]; exact Nat.le_of_lt u))
  · refine Nat.dvd_trans den_mul ?_
    unfold gS
    rw [if_neg h96, ← ht]
    refine Nat.mul_dvd_mul ?_ (den_mk (by omega))
    unfold fQ
    rw [← e7]
    exact den_mk (by rw [e7]; exact Nat.ne_of_gt hv.2.2)
theorem frS_rf {l : List Nat} {σ : rS} : frS l σ σ := ⟨fun _ _ => rfl, rfl, fun _ _ _ => rfl, rfl, fun _ _ => ⟨rfl, fun _ _ => rfl⟩⟩
theorem siJ_F {σ τ : rS} {n c F G : Nat} (h : siJ σ τ n c F) (hd : F ∣ G) : siJ σ τ n c G := by
  obtain ⟨S, a1, a2, a3, a4⟩ := h
  exact ⟨S, a1, a2, a3, Nat.dvd_trans a4 (Nat.mul_dvd_mul (Nat.dvd_refl _) hd)⟩
theorem siJ_N {l : List Nat} {σ τ υ : rS} {n c F : Nat} (f : frN l τ υ) (h4 : 4 ∉ l) (h5 : 5 ∉ l) (h : siJ σ τ n c F) : siJ σ υ n c F := by
  obtain ⟨S, a1, a2, a3, a4⟩ := h
  exact ⟨S, hS_N f h4 h5 a1, a2, a3, a4⟩
theorem by_f {σ τ : rS} {a : Int32} (h : τ.2.2.1 93 = σ.2.2.1 93) : byQ τ a = byQ σ a ∧ (byO σ a → byO τ a) := by
  have e : sQ τ a.toNatClampNeg = sQ σ a.toNatClampNeg := by unfold sQ slV; rw [h]
  constructor
  · unfold byQ; rw [e]
  · intro z
    rcases z with z | z
    · exact Or.inl z
    · refine Or.inr ⟨z.1, z.2.1, ?_⟩
      rw [e]
      exact hL_e (fun i _ _ => by rw [h]) z.2.2
theorem sl_f {σ τ : rS} {k c : Nat} {m : Int32} (h : τ.2.2.1 k = σ.2.2.1 k) : slV τ k c = slV σ k c ∧ (slN τ k c m ↔ slN σ k c m) := by
  unfold slV slN
  rw [h]
  exact ⟨rfl, Iff.rfl⟩
theorem vOK_f {σ τ : rS} {k : Nat} (h : τ.2.2.1 102 = σ.2.2.1 102) (hv : vOK σ k) : vOK τ k := by
  unfold vOK at *
  rw [(sl_f (m := 16) h).2, (sl_f (m := 16) h).2, (sl_f (m := 16) h).1]
  exact hv
theorem by_vB {σ : rS} {a : Int32} (h : byO σ a) : byQ σ a ≤ (vB : Rat) := Rat.le_trans (by_b h).2.1 (Rat.natCast_le_natCast.mpr (by unfold vB; exact Nat.le_mul_of_pos_left _ (Nat.pow_pos (by decide))))
theorem sumInflow_c {C : rCx} (hC : cOK C) (s E c e : Nat) {σ : rS} {a1 : Int32} {a2 : Int32} {Q : rS → Prop} (hp : pOK σ ∧ s = (σ.1 70).toNatClampNeg ∧ (∀ k, k < s → σ.2.2.1 96 k ≠ 0 → vOK σ k) ∧ byO σ a2 ∧ siJ σ σ s c E ∧ 0 < E ∧ E * (byQ σ a2).den ≤ 65536 ^ e ∧ e ≤ 4200 ∧ c ≤ 1000000) (h : ∀ (σ' : rS), (frS [0, 1, 2, 3, 4, 5, 6, 7, 8, 9, 10, 11, 12, 13, 14] σ σ' ∧ siJ σ σ' s (c + 20001) (E * (byQ σ a2).den)) → Q σ') : cV C 5 m_sumInflow [.ref (co C), .int a1, .int a2] σ Q := by
  refine m_sumInflow_run hC ?_
  unfold w_sumInflow_0
  obtain ⟨hO, hn, hv, hb, J0, E0, hE, he, hc⟩ := hp
  have F0 : 0 < E * (byQ σ a2).den := Nat.mul_pos E0 den0
  have bb := by_b hb
  unfold w_sumInflow_2
  refine ⟨fun n l1 l2 l3 τ => n = (σ.1 70 - l3).toNatClampNeg ∧ (l1 = a1 ∧ l2 = a2 ∧ frS [0, 1, 2, 3, 4, 5, 6, 7, 8, 9, 10, 11, 12, 13, 14] σ τ ∧ 0 ≤ l3 ∧ l3 ≤ σ.1 70 ∧ ∃ d, d ≤ 20000 ∧ (l3 < σ.1 70 → d ≤ loN σ l3.toNatClampNeg) ∧ siJ σ τ s (c + d) (E * (byQ σ a2).den)), ⟨_, rfl, ?_⟩, ?_⟩
  · clear h; exact ⟨rfl, rfl, frS_rf, by decide, hO.1.1.1, 0, by decide, fun _ => Nat.zero_le _, siJ_F J0 (Nat.dvd_mul_right ..)⟩  -- j1
  rintro n2 x2_1 x2_2 x2_3 σ2 ⟨hn2, i2⟩
  obtain ⟨e1, e2, F, a0, a1', d, d1, d2, J⟩ := i2
  have e70 := F.1 70 (by decide)
  have e76 := F.2.2.1 76 (by decide) (by decide)
  rw [e70]
  refine ⟨fun c1 => ?_, fun c1 => ?_⟩
  · skip
    refine ⟨fun c2 => ?_, fun c2 => ?_⟩
    · skip
      refine h _ ?_
      · clear h; exact ⟨F, siJ_mono J (by omega)⟩  -- q2
    · skip
      refine set_c hC  ?_ (fun σ_3 q4 => ?_)
      · clear h; exact ⟨by decide, by decide, by decide⟩  -- p3
      simp only [kn] at q4
      refine set_c hC  ?_ (fun σ_5 q6 => ?_)
      · clear h; exact ⟨by decide, by decide, by decide⟩  -- p4
      simp only [kn] at q6
      have g6 := nV_fr q6.1 (k := 6) (by decide) q4.2.1
      have R1 : hR σ_5 6 7 1 := ⟨g6.1, q6.2.1, by rw [g6.2.1, q4.2.2.1]; rfl, by rw [q6.2.2.1]; rfl⟩
      have F5 := frS_tr F (frS_tr (frS_mono (frS_of q4.1) (sub_of rfl)) (frS_mono (frS_of q6.1) (sub_of rfl)))
      have b5 := by_f (a := a2) (F5.2.2.1 93 (by decide) (by decide))
      refine takeTimes_c hC  ?_ (fun σ_7 q8 => ?_)
      · clear h; rw [(hR_q R1).1, e2]
        exact ⟨b5.2 hb, R1, by have := q4.2.2.2; have := g6.2.2; omega, by have := q6.2.2.2; omega⟩
      rw [(hR_q R1).1, e2, Rat.one_mul] at q8
      have R7 : hR σ_7 6 7 (byQ σ a2) := by rw [← b5.1]; exact q8.2
      have J7 := siJ_N q8.1 (by decide) (by decide) (siJ_N q6.1 (by decide) (by decide) (siJ_N q4.1 (by decide) (by decide) J))
      have A := siJ_add (k := 1) (D := (byQ σ a2).den) hO hn hv F0 hE he (by omega) J7 R7 (by_vB hb) (by rw [Nat.one_mul]; exact Nat.dvd_refl _) (Nat.one_dvd _) (Nat.dvd_mul_left ..) (by decide) (by decide) den0 bb.2.2
      refine add_c hC  ?_ (fun σ_9 q10 => ?_)
      · clear h; exact A.1  -- p6
      refine h _ ?_
      · clear h; exact ⟨frS_tr F5 (frS_tr (frS_mono (frS_of q8.1) (sub_of rfl)) (frS_mono q10.1 (sub_of rfl))), siJ_mono (A.2 _ q10.2) (by omega)⟩  -- q7
  · skip
    have u := uk a0 c1 hO.1.1.2
    have st := ex_st hO.1 a0 u.2.2.2.2.1
    have tb := tT_b hO a0 u.2.2.2.2.1
    have as := cn_succ a0 (Int32.lt_trans u.2.2.2.2.2 (by decide))
    have ks : x2_3.toNatClampNeg < s := by rw [hn]; exact cn_lt a0 u.2.2.2.2.1
    have hi2 := Int32.le_trans st.2.2.1 hO.1.2.2.1.2
    have gb := gS_b hO hn hv ks
    refine ⟨ib_1001.mpr ?_, ?_⟩
    · clear h; exact ⟨a0, Int32.lt_trans u.2.2.2.2.2 (by decide)⟩  -- b8
    intro x11 hx11
    unfold w_sumInflow_18
    refine ⟨fun n l1 l2 l3 l4 τ => n = (σ.2.2.1 76 (x2_3.toNatClampNeg + 1) - l4).toNatClampNeg ∧ (l1 = a1 ∧ l2 = a2 ∧ l3 = x2_3 ∧ frS [0, 1, 2, 3, 4, 5, 6, 7, 8, 9, 10, 11, 12, 13, 14] σ τ ∧ σ.2.2.1 76 x2_3.toNatClampNeg ≤ l4 ∧ l4 ≤ σ.2.2.1 76 (x2_3.toNatClampNeg + 1) ∧ siJ σ τ s (c + l4.toNatClampNeg) (E * (byQ σ a2).den)), ⟨_, rfl, ?_⟩, ?_⟩
    · clear h; rw [hx11, e76]
      exact ⟨e1, e2, rfl, F, Int32.le_refl _, st.2.1, siJ_mono J (by have := d2 u.2.2.2.2.1; unfold loN at this; omega)⟩
    rintro n18 x18_1 x18_2 x18_3 x18_4 σ18 ⟨hn18, i18⟩
    obtain ⟨f1, f2, f3, G, w1, w2, J2⟩ := i18
    have i0 := Int32.le_trans st.1.1 w1
    have g96 := G.2.2.1 96 (by decide) (by decide)
    have g76 := G.2.2.1 76 (by decide) (by decide)
    have g77 := G.2.2.1 77 (by decide) (by decide)
    have g78 := G.2.2.1 78 (by decide) (by decide)
    have g79 := G.2.2.1 79 (by decide) (by decide)
    have g80 := G.2.2.1 80 (by decide) (by decide)
    have g81 := G.2.2.1 81 (by decide) (by decide)
    have g83 := G.2.2.1 83 (by decide) (by decide)
    have g102 := G.2.2.1 102 (by decide) (by decide)
    have hi20 : x18_4.toNatClampNeg ≤ 20000 := cn_le (y := 20000) rfl (Int32.le_trans w2 hi2)
    rw [f3, g96, g76, g77, g78, st.2.2.2.1]
    refine ⟨ib_1000.mpr ?_, ?_⟩
    · clear h; exact ⟨a0, u.2.2.2.2.2⟩  -- b10
    refine ⟨fun c12 => ?_, fun c12 => ?_⟩
    · skip
      intro x13 hx13
      refine ⟨_, cn_lt2 hn2 ?_ ?_, rfl, ?_⟩
      · clear h; rw [hx13]; exact u.1  -- d11
      · clear h; rw [hx13]; exact u.2.1  -- d12
      · clear h; rw [hx13]
        exact ⟨f1, f2, G, u.2.2.1, u.2.2.2.1, x18_4.toNatClampNeg, hi20, fun _ => by rw [as]; unfold loN; exact cn_l w2 i0, J2⟩
    · skip
      refine ⟨ib_1001.mpr ?_, ?_⟩
      · clear h; exact ⟨st.2.2.2.2.2.1, st.2.2.2.2.2.2⟩  -- b14
      refine ⟨fun c14 => ?_, fun c14 => ?_⟩
      · skip
        intro x15 hx15
        refine ⟨_, cn_lt2 hn2 ?_ ?_, rfl, ?_⟩
        · clear h; rw [hx15]; exact u.1  -- d15
        · clear h; rw [hx15]; exact u.2.1  -- d16
        · clear h; rw [hx15]
          exact ⟨f1, f2, G, u.2.2.1, u.2.2.2.1, x18_4.toNatClampNeg, hi20, fun _ => by rw [as]; unfold loN; exact cn_l w2 i0, J2⟩
      · skip
        have z := u2 i0 c14 hi2
        have is := cn_succ i0 (Int32.lt_trans z.2.2.2.2.2.2 (by decide))
        have lo := cn_l w1 st.1.1
        have hl := cn_lt i0 z.2.2.2.2.2.1
        have hd : x18_4.toNatClampNeg - loN σ x2_3.toNatClampNeg < leN σ x2_3.toNatClampNeg := by unfold leN loN; omega
        have el : loN σ x2_3.toNatClampNeg + (x18_4.toNatClampNeg - loN σ x2_3.toNatClampNeg) = x18_4.toNatClampNeg := by unfold loN; omega
        refine ⟨ib_20000.mpr ?_, ?_⟩
        · clear h; exact ⟨i0, z.2.2.2.2.2.2⟩  -- b18
        refine ⟨fun c16 => ?_, fun c16 => ?_⟩
        · skip
          intro x17 hx17
          refine ⟨_, cn_lt2 hn18 ?_ ?_, rfl, ?_⟩
          · clear h; rw [hx17]; exact z.1  -- d19
          · clear h; rw [hx17]; exact z.2.1  -- d20
          · clear h; rw [hx17]
            exact ⟨f1, f2, rfl, G, Int32.le_trans w1 z.2.2.2.1, z.2.2.2.2.1, siJ_mono J2 (by rw [is]; omega)⟩
        · skip
          refine ⟨ib_20000.mpr ?_, ?_⟩
          · clear h; exact ⟨i0, z.2.2.2.2.2.2⟩  -- b22
          refine ⟨fun c18 => ?_, fun c18 => ?_⟩
          · skip
            intro x19 hx19
            refine ⟨_, cn_lt2 hn18 ?_ ?_, rfl, ?_⟩
            · clear h; rw [hx19]; exact z.1  -- d23
            · clear h; rw [hx19]; exact z.2.1  -- d24
            · clear h; rw [hx19]
              exact ⟨f1, f2, rfl, G, Int32.le_trans w1 z.2.2.2.1, z.2.2.2.2.1, siJ_mono J2 (by rw [is]; omega)⟩
          · skip
            refine isTaken_c hC  ?_ (fun r20 q22 => ?_)
            · clear h; exact ⟨a0, u.2.2.2.2.2⟩  -- p26
            have tk := q22.2
            rw [rd, rd, rd, g81, g76, g83] at tk
            refine ⟨fun c23 => ?_, fun c23 => ?_⟩
            · skip
              intro x24 hx24
              refine ⟨_, cn_lt2 hn18 ?_ ?_, rfl, ?_⟩
              · clear h; rw [hx24]; exact z.1  -- d27
              · clear h; rw [hx24]; exact z.2.1  -- d28
              · clear h; rw [hx24]
                exact ⟨f1, f2, rfl, G, Int32.le_trans w1 z.2.2.2.1, z.2.2.2.2.1, siJ_mono J2 (by rw [is]; omega)⟩
            · skip
              refine loadVisits_c hC  ?_ (fun σ_25 q26 => ?_)
              · clear h; have V := vOK_f g102 (hv x2_3.toNatClampNeg ks c12)
                exact ⟨a0, u.2.2.2.2.2, V.1, V.2.1⟩
              have V := hv x2_3.toNatClampNeg ks c12
              have e6 := q26.2.2.2.1
              have e7 := q26.2.2.2.2.1
              rw [(sl_f (m := 16) g102).1] at e6 e7
              have k79 := (q26.1.2.2.1 79 (by decide) (by decide)).trans g79
              have k80 := (q26.1.2.2.1 80 (by decide) (by decide)).trans g80
              have k81 := (q26.1.2.2.1 81 (by decide) (by decide)).trans g81
              refine weightOf_c hC  ?_ (fun r27 q29 => ?_)
              · clear h; exact ⟨a0, u.2.2.2.2.2, i0, z.2.2.2.2.2.2⟩  -- p31
              rw [rd, rd, k81, k79] at q29
              have W := wc_w (σ := σ) (s := x2_3.toNatClampNeg) (t := σ.2.2.1 78 x18_4.toNatClampNeg) (i := x18_4) c16 rfl ((tk.mp c23).resolve_left (by decide)) q29.1 q29.2
              have wb := wc_b hO a0 u.2.2.2.2.1 (t := σ.2.2.1 78 x18_4.toNatClampNeg) hd
              have wl := tw_le hO a0 u.2.2.2.2.1 hd
              rw [el] at wb wl
              refine totalOf_c hC  ?_ (fun r30 q32 => ?_)
              · clear h; exact ⟨a0, u.2.2.2.2.2⟩  -- p32
              have T := tot_I q32
              rw [tT_f k80 k81] at T
              have W0 : 0 ≤ r27.toInt := by rw [W]; exact wb.1
              have W1 : r27.toInt ≤ tTI σ x2_3.toNatClampNeg := by rw [W]; exact Int.le_trans wb.2 wl
              have K := ld_q V e6 e7 T tb.1 W0 W1 c12
              refine scale_c hC  ?_ (fun σ_33 q34 => ?_)
              · clear h; exact ⟨q26.2.1, q26.2.2.1, by rw [e7]; exact V.2.2, l64_0 rfl W0, l64_1 T tb.1, by have := q26.2.2.2.2.2.1; omega, by have := q26.2.2.2.2.2.2; omega⟩  -- p33
              have le1 := Rat.mul_le_mul_of_nonneg_left K.2.2.2.1 K.1
              rw [Rat.mul_one] at le1
              have pl := pl_of (a := 19) (b := 16) q34.2 gb.1 K.2.2.2.2 (Nat.lt_of_le_of_lt gb.2 (Nat.pow_lt_pow_right (by decide) (by decide))) (Rat.le_trans le1 K.2.1)
              have F33 := frS_tr G (frS_tr (frS_mono (frS_of q26.1) (sub_of rfl)) (frS_mono (frS_of q34.1) (sub_of rfl)))
              have b33 := by_f (a := a2) (F33.2.2.1 93 (by decide) (by decide))
              refine takeTimes_c hC  ?_ (fun σ_35 q36 => ?_)
              · clear h; rw [(hR_q q34.2).1, f2]
                exact ⟨b33.2 hb, q34.2, by have := pl.2; omega, by have := pl.1; omega⟩
              rw [(hR_q q34.2).1, f2] at q36
              have R35 : hR σ_35 6 7 (fQ σ_25 6 7 * mkRat r27.toInt r30.toInt.toNat * byQ σ a2) := by rw [← b33.1]; exact q36.2
              have J35 := siJ_N q36.1 (by decide) (by decide) (siJ_N q34.1 (by decide) (by decide) (siJ_N q26.1 (by decide) (by decide) J2))
              have A := siJ_add (k := gS σ x2_3.toNatClampNeg) (D := (byQ σ a2).den) hO hn hv F0 hE he (by omega) J35 R35 (by unfold vB; rw [Rat.natCast_mul]; exact pr_le K.1 bb.1 K.2.1 K.2.2.2.1 bb.2.1) (Nat.dvd_trans den_mul (Nat.mul_dvd_mul K.2.2.2.2 (Nat.dvd_refl _))) (prS_dvd ks) (Nat.dvd_mul_left ..) gb.1 gb.2 den0 bb.2.2
              refine add_c hC  ?_ (fun σ_37 q38 => ?_)
              · clear h; exact A.1  -- p35
              intro x39 hx39
              refine ⟨_, cn_lt2 hn18 ?_ ?_, rfl, ?_⟩
              · clear h; rw [hx39]; exact z.1  -- d36
              · clear h; rw [hx39]; exact z.2.1  -- d37
              · clear h; rw [hx39, is, ← Nat.add_assoc]
                exact ⟨f1, f2, rfl, frS_tr F33 (frS_tr (frS_mono (frS_of q36.1) (sub_of rfl)) (frS_mono q38.1 (sub_of rfl))), Int32.le_trans w1 z.2.2.2.1, z.2.2.2.2.1, A.2 _ q38.2⟩
