set_option maxHeartbeats 1600000
/-! the reference: the worth of a state -/
def wkO (σ : rS) (r q k : Nat) : Prop := slN σ r (34 * k) 16 ∧ slN σ r (34 * k + 17) 16 ∧ 0 < slV σ r (34 * k + 17) ∧ (σ.2.2.1 q k = 1 ∨ σ.2.2.1 q k = -1)
def nxW (σ : rS) (i : Int32) : Prop := σ.2.2.1 77 i.toNatClampNeg = 0 → wkO σ 117 118 (σ.2.2.1 78 i.toNatClampNeg).toNatClampNeg
def wD (σ : rS) (k : Nat) : Nat := if σ.2.2.1 96 k = 0 then 1 else slV σ 117 (34 * k + 17)
theorem wkO_f {σ τ : rS} {r q k : Nat} (h1 : τ.2.2.1 r = σ.2.2.1 r) (h2 : τ.2.2.1 q = σ.2.2.1 q) (h : wkO σ r q k) : wkO τ r q k := by
  unfold wkO at *
  rw [(sl_f (m := 16) h1).2, (sl_f (m := 16) h1).2, (sl_f (m := 16) h1).1, h2]
  exact h
theorem nxW_f {σ τ : rS} {i : Int32} (h77 : τ.2.2.1 77 = σ.2.2.1 77) (h78 : τ.2.2.1 78 = σ.2.2.1 78) (h1 : τ.2.2.1 117 = σ.2.2.1 117) (h2 : τ.2.2.1 118 = σ.2.2.1 118) (h : nxW σ i) : nxW τ i := by
  unfold nxW at *
  rw [h77, h78]
  exact fun z => wkO_f h1 h2 (h z)
theorem frN_S {l : List Nat} {σ τ : rS} (h : frS l σ τ) (e : τ.1 = σ.1) : frN l σ τ := ⟨e, h.2⟩
/-- a sum with its sign and a bound for its denominator -/
def siG (M : Nat) (τ : rS) (c : Nat) (S : Rat) : Prop := hS τ S ∧ S ≤ ((c * wB : Nat) : Rat) ∧ -S ≤ ((c * wB : Nat) : Rat) ∧ S.den ∣ M
theorem siG_L {M a : Nat} {τ : rS} {c : Nat} {S : Rat} (M0 : 0 < M) (hM : M < 65536 ^ a) (hc : c ≤ 200000) (J : siG M τ c S) : numO τ 4 ∧ numO τ 5 ∧ 0 < nV τ 5 ∧ nL τ 5 ≤ a ∧ nL τ 4 ≤ a + 20 ∧ (τ.1 92 = 1 ∨ τ.1 92 = -1) := by
  obtain ⟨a1, a2, a3, a4⟩ := J
  obtain ⟨q, hq, b1, b2, b3⟩ := hS_abs a1 a2 a3
  have p := pl_of (b := 20) hq M0 (by rw [b2]; exact a4) hM (Rat.le_trans b1 (Rat.natCast_le_natCast.mpr (cW_le hc)))
  exact ⟨hq.1, hq.2.1, (hR_q hq).2, p.1, p.2, b3⟩
theorem siG_mono {M : Nat} {τ : rS} {c d : Nat} {S : Rat} (h : siG M τ c S) (hc : c ≤ d) : siG M τ d S := by
  have z : ((c * wB : Nat) : Rat) ≤ ((d * wB : Nat) : Rat) := Rat.natCast_le_natCast.mpr (Nat.mul_le_mul_right _ hc)
  exact ⟨h.1, Rat.le_trans h.2.1 z, Rat.le_trans h.2.2.1 z, h.2.2.2⟩
theorem siG_N {l : List Nat} {M : Nat} {τ υ : rS} {c : Nat} {S : Rat} (f : frN l τ υ) (h4 : 4 ∉ l) (h5 : 5 ∉ l) (h : siG M τ c S) : siG M υ c S := ⟨hS_N f h4 h5 h.1, h.2⟩
theorem siG_0 {M : Nat} {τ : rS} (h : hS τ 0) : siG M τ 0 0 := ⟨h, by rw [Nat.zero_mul]; exact Rat.le_refl, by rw [Nat.zero_mul]; exact Rat.le_refl, Nat.one_dvd _⟩
theorem hS_addy {σ : rS} {p : Rat} {x : Int32} (h : hS σ p) : sgq (σ.1 92) (fQ σ 4 5) + sgq x (fQ σ 6 7) = p + sgq x (fQ σ 6 7) := by
  obtain ⟨r, hr, w⟩ := h
  rw [(hR_q hr).1]
  rcases w with z | z
  · rw [z.1, z.2, sgq_1]
  · rw [z.1, z.2, sgq_m]
theorem siG_add {M a : Nat} {τ : rS} {c : Nat} {S : Rat} {x : Int32} (hx : x = 1 ∨ x = -1) (M0 : 0 < M) (hM : M < 65536 ^ a) (ha : a ≤ 39000) (hc : c ≤ 100000) (J : siG M τ c S) (o6 : numO τ 6) (o7 : numO τ 7) (p7 : 0 < nV τ 7) (l6 : nL τ 6 ≤ 400) (l7 : nL τ 7 ≤ 400) (hq : fQ τ 6 7 ≤ (wB : Rat)) (hd : (fQ τ 6 7).den ∣ M) : ((x = 1 ∨ x = -1) ∧ (τ.1 92 = 1 ∨ τ.1 92 = -1) ∧ numO τ 4 ∧ numO τ 5 ∧ numO τ 6 ∧ numO τ 7 ∧ 0 < nV τ 5 ∧ 0 < nV τ 7 ∧ nL τ 4 + nL τ 7 + 3 < 40000 ∧ nL τ 6 + nL τ 5 + 3 < 40000 ∧ nL τ 5 + nL τ 7 + 3 < 40000) ∧ ∀ υ : rS, hS υ (sgq (τ.1 92) (fQ τ 4 5) + sgq x (fQ τ 6 7)) → siG M υ (c + 1) (S + sgq x (fQ τ 6 7)) := by
  have L := siG_L M0 hM (by omega) J
  obtain ⟨a1, a2, a3, a4⟩ := J
  have q0 : 0 ≤ fQ τ 6 7 := mk_nn p7 (by omega)
  have sb := sgq_b (x := x) q0 hq
  refine ⟨⟨hx, L.2.2.2.2.2, L.1, L.2.1, o6, o7, L.2.2.1, p7, by omega, by omega, by omega⟩, fun υ hυ => ⟨?_, ?_, ?_, ?_⟩⟩
  · rwa [hS_addy a1] at hυ
  · rw [Nat.add_mul, Nat.one_mul, Rat.natCast_add]
    have z1 := sb.1
    grind
  · rw [Nat.add_mul, Nat.one_mul, Rat.natCast_add]
    have z1 := sb.2.1
    grind
  · exact den_add a4 (by rw [sb.2.2]; exact hd) (by omega)
theorem nV_lt {σ : rS} {r k : Nat} (h : numO σ r) (hl : nL σ r ≤ k) : nV σ r < 65536 ^ k := Nat.lt_of_lt_of_le (dv_lt h.2.2.1) (Nat.pow_le_pow_right (by decide) hl)
theorem p16_wB : ((65536 ^ 16 : Nat) : Rat) ≤ (wB : Rat) := Rat.natCast_le_natCast.mpr (by unfold wB; exact Nat.le_mul_of_pos_right _ (Nat.pow_pos (by decide)))
theorem fQ_b {σ : rS} (o6 : numO σ 6) (p7 : 0 < nV σ 7) (l6 : nL σ 6 ≤ 16) : 0 ≤ fQ σ 6 7 ∧ fQ σ 6 7 ≤ ((65536 ^ 16 : Nat) : Rat) ∧ (fQ σ 6 7).den ∣ nV σ 7 := by
  unfold fQ
  exact ⟨mk_nn p7 (by omega), Rat.le_trans (q_le mk_num) (Rat.natCast_le_natCast.mpr (Nat.le_of_lt (nV_lt o6 l6))), den_mk (by omega)⟩
theorem loadNext_c {C : rCx} (hC : cOK C)  {σ : rS} {a1 : Int32} {Q : Int32 → rS → Prop} (hp : exO σ ∧ 0 ≤ a1 ∧ a1 < σ.1 72 ∧ nxW σ a1) (h : ∀ (v : Int32) (σ' : rS), (frN [6, 7] σ σ' ∧ numO σ' 6 ∧ numO σ' 7 ∧ 0 < nV σ' 7 ∧ nL σ' 6 ≤ 16 ∧ nL σ' 7 ≤ 16 ∧ (v = 1 ∨ v = -1) ∧ (σ.2.2.1 77 a1.toNatClampNeg ≠ 0 → nV σ' 7 = 1) ∧ (σ.2.2.1 77 a1.toNatClampNeg = 0 → nV σ' 7 = slV σ 117 (34 * (σ.2.2.1 78 a1.toNatClampNeg).toNatClampNeg + 17))) → Q v σ') : cI C 1 m_loadNext [.ref (co C), .int a1] σ Q := by
  refine m_loadNext_run hC ?_
  unfold w_loadNext_0
  obtain ⟨hO, h0, h1, hw⟩ := hp
  have k1 := Int32.lt_of_lt_of_le h1 hO.2.2.1.2
  have nx := hO.2.2.2.2 _ (cn_lt h0 h1)
  refine ⟨ib_20000.mpr ?_, ?_⟩
  · clear h; exact ⟨h0, k1⟩  -- b1
  refine ⟨fun c1 => ?_, fun c1 => ?_⟩
  · skip
    refine set_c hC  ?_ (fun σ_2 q3 => ?_)
    · clear h; exact ⟨by decide, by decide, by decide⟩  -- p2
    simp only [kn] at q3
    refine set_c hC  ?_ (fun σ_4 q5 => ?_)
    · clear h; exact ⟨by decide, by decide, by decide⟩  -- p3
    simp only [kn] at q5
    have g6 := nV_fr q5.1 (k := 6) (by decide) q3.2.1
    refine h _ _ ?_
    · clear h; exact ⟨frN_tr (frN_mono q3.1 (sub_of rfl)) (frN_mono q5.1 (sub_of rfl)), g6.1, q5.2.1, by rw [q5.2.2.1]; decide, by have := g6.2.2; have := q3.2.2.2; omega, by have := q5.2.2.2; omega, Or.inl rfl, fun _ => by rw [q5.2.2.1]; rfl, fun z => absurd z c1⟩  -- q4
  · skip
    refine ⟨ib_20000.mpr ?_, ?_⟩
    · clear h; exact ⟨h0, k1⟩  -- b5
    have q := nx.2.1 c1
    have W := hw c1
    have q1 := Int32.lt_of_lt_of_le q.2 hO.1.2
    refine loadWorth_c hC  ?_ (fun σ_6 q7 => ?_)
    · clear h; exact ⟨Or.inr rfl, q.1, q1, W.1, W.2.1⟩  -- p6
    refine ⟨ib_20000.mpr ?_, ?_⟩
    · clear h; exact ⟨h0, k1⟩  -- b7
    refine ⟨ib_1000.mpr ?_, ?_⟩
    · clear h; rw [q7.1.2.2.1 78 (by decide) (by decide)]; exact ⟨q.1, q1⟩  -- b8
    refine h _ _ ?_
    · clear h; rw [q7.1.2.2.1 78 (by decide) (by decide), q7.1.2.2.1 118 (by decide) (by decide)]
      exact ⟨q7.1, q7.2.1, q7.2.2.1, by rw [q7.2.2.2.2.1]; exact W.2.2.1, q7.2.2.2.2.2.1, q7.2.2.2.2.2.2, W.2.2.2, fun z => absurd c1 z, fun _ => q7.2.2.2.2.1⟩

theorem isWorthDone_c {C : rCx} (hC : cOK C)  {σ : rS} {a1 : Int32} {Q : Int32 → rS → Prop} (hp : exO σ ∧ 0 ≤ a1 ∧ a1 < σ.1 70) (h : ∀ (v : Int32), (nb v ∧ (v ≠ 0 ↔ ∀ i : Int32, σ.2.2.1 76 a1.toNatClampNeg ≤ i → i < σ.2.2.1 76 (a1.toNatClampNeg + 1) → σ.2.2.1 77 i.toNatClampNeg = 0 → σ.2.2.1 96 (σ.2.2.1 78 i.toNatClampNeg).toNatClampNeg ≠ 0)) → Q v σ) : cI C 0 m_isWorthDone [.ref (co C), .int a1] σ Q := by
  refine m_isWorthDone_run hC ?_
  unfold w_isWorthDone_0
  obtain ⟨hO, h0, h1⟩ := hp
  have k1 := Int32.lt_of_lt_of_le h1 hO.1.2
  have st := ex_st hO h0 h1
  have hi2 := Int32.le_trans st.2.2.1 hO.2.2.1.2
  refine ⟨ib_1001.mpr ?_, ?_⟩
  · clear h; exact ⟨h0, Int32.lt_trans k1 (by decide)⟩  -- b1
  intro x1 hx1
  unfold w_isWorthDone_9
  refine ⟨fun n l1 l2 l3 τ => n = (σ.2.2.1 76 (a1.toNatClampNeg + 1) - l3).toNatClampNeg ∧ (σ = τ ∧ l1 = a1 ∧ nb l2 ∧ σ.2.2.1 76 a1.toNatClampNeg ≤ l3 ∧ l3 ≤ σ.2.2.1 76 (a1.toNatClampNeg + 1) ∧ (l2 ≠ 0 ↔ ∀ i : Int32, σ.2.2.1 76 a1.toNatClampNeg ≤ i → i < l3 → σ.2.2.1 77 i.toNatClampNeg = 0 → σ.2.2.1 96 (σ.2.2.1 78 i.toNatClampNeg).toNatClampNeg ≠ 0)), ⟨_, rfl, ?_⟩, ?_⟩
  · clear h; rw [hx1]
    exact ⟨rfl, rfl, nb_1, Int32.le_refl _, st.2.1, fun _ i i1 i2 => absurd i2 (Int32.not_lt.mpr i1), fun _ => by decide⟩
  rintro n9 x9_1 x9_2 x9_3 _ ⟨hn9, rfl, i9⟩
  have hj53 : ∀ (l1 : Int32) (l3 : Int32) (s0 : Int32) (τ : rS), (σ = τ ∧ l1 = a1 ∧ l3 = x9_3 ∧ ¬ σ.2.2.1 76 (a1.toNatClampNeg + 1) ≤ x9_3 ∧ nb s0 ∧ (s0 ≠ 0 ↔ x9_2 ≠ 0 ∧ (σ.2.2.1 77 x9_3.toNatClampNeg = 0 → σ.2.2.1 96 (σ.2.2.1 78 x9_3.toNatClampNeg).toNatClampNeg ≠ 0))) → w_isWorthDone_53 C Q (fun l1' l2' l3' τ => ∃ k < n9, (fun n l1 l2 l3 τ => n = (σ.2.2.1 76 (a1.toNatClampNeg + 1) - l3).toNatClampNeg ∧ (σ = τ ∧ l1 = a1 ∧ nb l2 ∧ σ.2.2.1 76 a1.toNatClampNeg ≤ l3 ∧ l3 ≤ σ.2.2.1 76 (a1.toNatClampNeg + 1) ∧ (l2 ≠ 0 ↔ ∀ i : Int32, σ.2.2.1 76 a1.toNatClampNeg ≤ i → i < l3 → σ.2.2.1 77 i.toNatClampNeg = 0 → σ.2.2.1 96 (σ.2.2.1 78 i.toNatClampNeg).toNatClampNeg ≠ 0))) k l1' l2' l3' τ) l1 l3 s0 τ := by
    rintro y53_1 y53_3 y53_s0 _ ⟨rfl, j53⟩
    unfold w_isWorthDone_53
    intro x2 hx2
    obtain ⟨e1, g1, g2, g3, g4⟩ := i9
    obtain ⟨y1, y3, y4, y5, y6⟩ := j53
    have i0 := Int32.le_trans st.1.1 g2
    have z := u2 i0 y4 hi2
    refine ⟨_, cn_lt2 hn9 ?_ ?_, rfl, ?_⟩
    · clear h; rw [hx2, y3]; exact z.1  -- d3
    · clear h; rw [hx2, y3]; exact z.2.1  -- d4
    · clear h; rw [hx2, y3]
      refine ⟨rfl, y1, y5, Int32.le_trans g2 z.2.2.2.1, z.2.2.2.2.1, ?_⟩
      rw [y6, g4]
      constructor
      · intro q i i1 i2
        rcases i_sp i0 z.2.2.2.2.2.2 i2 with e | e
        · rw [e]; exact q.2
        · exact q.1 i i1 e
      · intro q
        exact ⟨fun i i1 i2 => q i i1 (Int32.lt_of_lt_of_le i2 z.2.2.2.1), q x9_3 g2 (by have := z.2.2.2.1; have w := z.2.2.2.2.2.2; grind)⟩
  obtain ⟨e1, g1, g2, g3, g4⟩ := i9
  have i0 := Int32.le_trans st.1.1 g2
  rw [e1, st.2.2.2.1]
  refine ⟨ib_1001.mpr ?_, ?_⟩
  · clear h; exact ⟨st.2.2.2.2.2.1, st.2.2.2.2.2.2⟩  -- b6
  refine ⟨fun c3 => ?_, fun c3 => ?_⟩
  · skip
    refine ⟨?_, h _ ?_⟩
    · clear h; exact g1  -- b7
    · clear h; have e : x9_3 = σ.2.2.1 76 (a1.toNatClampNeg + 1) := Int32.le_antisymm g3 c3
      rw [e] at g4
      exact ⟨g1, g4⟩
  · skip
    refine ⟨fun c4 => ?_, fun c4 => ?_⟩
    · skip
      refine hj53 _ _ _ _ ?_
      · clear h; exact ⟨rfl, rfl, rfl, c3, nb_0, fun z => absurd rfl z, fun z => absurd c4 z.1⟩  -- k9
    · skip
      have z := u2 i0 c3 hi2
      have l72 := Int32.lt_of_lt_of_le z.2.2.2.2.2.1 st.2.2.1
      refine ⟨ib_20000.mpr ?_, ?_⟩
      · clear h; exact ⟨i0, z.2.2.2.2.2.2⟩  -- b10
      refine ⟨fun c5 => ?_, fun c5 => ?_⟩
      · skip
        refine hj53 _ _ _ _ ?_
        · clear h; exact ⟨rfl, rfl, rfl, c3, nb_1, fun _ => ⟨c4, fun y => absurd y c5⟩, fun _ => by decide⟩  -- k11
      · skip
        refine ⟨ib_20000.mpr ?_, ?_⟩
        · clear h; exact ⟨i0, z.2.2.2.2.2.2⟩  -- b12
        refine ⟨ib_1000.mpr ?_, ?_⟩
        · clear h; have q := (hO.2.2.2.2 _ (cn_lt i0 l72)).2.1 c5
          exact ⟨q.1, Int32.lt_of_lt_of_le q.2 hO.1.2⟩
        refine ⟨fun c6 => ?_, fun c6 => ?_⟩
        · skip
          refine hj53 _ _ _ _ ?_
          · clear h; exact ⟨rfl, rfl, rfl, c3, nb_0, fun z => absurd rfl z, fun z => absurd c6 (z.2 c5)⟩  -- k14
        · skip
          refine hj53 _ _ _ _ ?_
          · clear h; exact ⟨rfl, rfl, rfl, c3, nb_1, fun _ => ⟨c4, fun _ => c6⟩, fun _ => by decide⟩  -- k15

theorem isGreater_c {C : rCx} (hC : cOK C)  {σ : rS} {a1 : Int32} {Q : Int32 → rS → Prop} (hp : exO σ ∧ 0 ≤ a1 ∧ a1 < σ.1 72 ∧ nxW σ a1 ∧ numO σ 4 ∧ numO σ 5 ∧ nL σ 4 ≤ 400 ∧ nL σ 5 ≤ 400) (h : ∀ (v : Int32) (σ' : rS), (frN [6, 7, 8, 9] σ σ' ∧ nb v) → Q v σ') : cI C 2 m_isGreater [.ref (co C), .int a1] σ Q := by
  refine m_isGreater_run hC ?_
  unfold w_isGreater_0
  obtain ⟨hO, h0, h1, hw, o4, o5, l4, l5⟩ := hp
  have hj37 : ∀ (l2 : Int32) (s0 : Int32) (τ : rS), (frN [6, 7, 8, 9] σ τ ∧ numO τ 6 ∧ numO τ 7 ∧ nL τ 6 ≤ 16 ∧ nL τ 7 ≤ 16) → w_isGreater_37 C Q  l2 s0 τ := by
    rintro y37_2 y37_s0 τ37 j37
    unfold w_isGreater_37
    obtain ⟨Y, o6, o7, l6, l7⟩ := j37
    have g4 := nV_fr Y (k := 4) (by decide) o4
    have g5 := nV_fr Y (k := 5) (by decide) o5
    refine ⟨fun c1 => ?_, fun c1 => ?_⟩
    · skip
      refine times_c hC  ?_ (fun σ_2 q3 => ?_)
      · clear h; simp only [kn]
        exact ⟨by decide, by decide, by decide, by decide, by decide, by decide, by decide, by decide, o6, g5.1, by have := g5.2.2; omega⟩
      simp only [kn] at q3
      have h4 := nV_fr q3.1 (k := 4) (by decide) g4.1
      have h7 := nV_fr q3.1 (k := 7) (by decide) o7
      refine times_c hC  ?_ (fun σ_4 q5 => ?_)
      · clear h; simp only [kn]
        exact ⟨by decide, by decide, by decide, by decide, by decide, by decide, by decide, by decide, h4.1, h7.1, by have := h4.2.2; have := g4.2.2; have := h7.2.2; omega⟩
      simp only [kn] at q5
      have h8 := nV_fr q5.1 (k := 8) (by decide) q3.2.1
      have F := frN_tr Y (frN_tr (frN_mono q3.1 (sub_of rfl)) (frN_mono q5.1 (sub_of rfl)))
      refine compare_c hC  ?_ (fun r6 q8 => ?_)
      · clear h; simp only [kn]; exact ⟨by decide, by decide, by decide, by decide, h8.1, q5.2.1⟩  -- p3
      refine ⟨fun c9 => ?_, fun c9 => ?_⟩
      · skip
        refine ⟨fun c10 => ?_, fun c10 => ?_⟩
        · skip
          refine h _ _ ?_
          · clear h; exact ⟨F, nb_0⟩  -- q4
        · skip
          refine h _ _ ?_
          · clear h; exact ⟨F, nb_1⟩  -- q5
      · skip
        refine ⟨fun c11 => ?_, fun c11 => ?_⟩
        · skip
          refine h _ _ ?_
          · clear h; exact ⟨F, nb_0⟩  -- q6
        · skip
          refine h _ _ ?_
          · clear h; exact ⟨F, nb_1⟩  -- q7
    · skip
      refine ⟨fun c12 => ?_, fun c12 => ?_⟩
      · skip
        refine h _ _ ?_
        · clear h; exact ⟨Y, nb_0⟩  -- q8
      · skip
        refine h _ _ ?_
        · clear h; exact ⟨Y, nb_1⟩  -- q9
  have hj20 : ∀ (s0 : Int32) (τ : rS), (frN [6, 7, 8, 9] σ τ ∧ numO τ 6 ∧ numO τ 7 ∧ nL τ 6 ≤ 16 ∧ nL τ 7 ≤ 16) → w_isGreater_20 C Q  s0 τ := by
    rintro y20_s0 τ20 j20
    unfold w_isGreater_20
    refine isZero_c hC  ?_ (fun r13 q15 => ?_)
    · clear h; exact ⟨by decide, by decide⟩  -- p10
    refine ⟨fun c16 => ?_, fun c16 => ?_⟩
    · skip
      refine hj37 _ _ _ ?_
      · clear h; exact j20  -- k11
    · skip
      refine hj37 _ _ _ ?_
      · clear h; exact j20  -- k12
  refine loadNext_c hC  ?_ (fun r17 σ_18 q19 => ?_)
  · clear h; exact ⟨hO, h0, h1, hw⟩  -- p13
  refine isZero_c hC  ?_ (fun r20 q22 => ?_)
  · clear h; exact ⟨by decide, by decide⟩  -- p14
  refine ⟨fun c23 => ?_, fun c23 => ?_⟩
  · skip
    refine hj20 _ _ ?_
    · clear h; exact ⟨frN_mono q19.1 (sub_of rfl), q19.2.1, q19.2.2.1, q19.2.2.2.2.1, q19.2.2.2.2.2.1⟩  -- k15
  · skip
    refine hj20 _ _ ?_
    · clear h; exact ⟨frN_mono q19.1 (sub_of rfl), q19.2.1, q19.2.2.1, q19.2.2.2.2.1, q19.2.2.2.2.2.1⟩  -- k16

theorem takeNext_c {C : rCx} (hC : cOK C)  {σ : rS} {a1 : Int32} {Q : rS → Prop} (hp : exO σ ∧ 0 ≤ a1 ∧ a1 < σ.1 72 ∧ nxW σ a1) (h : ∀ (σ' : rS), (frS [0, 1, 2, 3, 4, 5, 6, 7, 8, 9, 10] σ σ' ∧ numO σ' 4 ∧ numO σ' 5 ∧ 0 < nV σ' 5 ∧ nL σ' 4 ≤ 400 ∧ nL σ' 5 ≤ 400 ∧ (σ'.1 92 = 1 ∨ σ'.1 92 = -1)) → Q σ') : cV C 5 m_takeNext [.ref (co C), .int a1] σ Q := by
  refine m_takeNext_run hC ?_
  unfold w_takeNext_0
  obtain ⟨hO, h0, h1, hw⟩ := hp
  refine clearSum_c hC  (fun σ_1 q2 => ?_)
  refine loadNext_c hC  ?_ (fun r3 σ_4 q5 => ?_)
  · clear h; exact ⟨exO_o hO (fun k hk => q2.1.1 k (by omega)) (fun k hk => q2.1.2.2.1 k (by omega) (by omega)), h0, by rw [q2.1.1 72 (by decide)]; exact h1, nxW_f (q2.1.2.2.1 77 (by decide) (by decide)) (q2.1.2.2.1 78 (by decide) (by decide)) (q2.1.2.2.1 117 (by decide) (by decide)) (q2.1.2.2.1 118 (by decide) (by decide)) hw⟩  -- p1
  have fb := fQ_b q5.2.1 q5.2.2.2.1 q5.2.2.2.2.1
  have m7 := nV_lt q5.2.2.1 q5.2.2.2.2.2.1
  have A := siG_add (a := 16) (M := nV σ_4 7) (x := r3) q5.2.2.2.2.2.2.1 q5.2.2.2.1 m7 (by decide) (by decide) (siG_N q5.1 (by decide) (by decide) (siG_0 q2.2)) q5.2.1 q5.2.2.1 q5.2.2.2.1 (by have := q5.2.2.2.2.1; omega) (by have := q5.2.2.2.2.2.1; omega) (Rat.le_trans fb.2.1 p16_wB) fb.2.2
  refine add_c hC  ?_ (fun σ_6 q7 => ?_)
  · clear h; exact A.1  -- p2
  refine h _ ?_
  · clear h; have L := siG_L (a := 16) q5.2.2.2.1 m7 (by decide) (A.2 _ q7.2)
    exact ⟨frS_tr (frS_mono q2.1 (sub_of rfl)) (frS_tr (frS_mono (frS_of q5.1) (sub_of rfl)) (frS_mono q7.1 (sub_of rfl))), L.1, L.2.1, L.2.2.1, by have := L.2.2.2.2.1; omega, by have := L.2.2.2.1; omega, L.2.2.2.2.2⟩
