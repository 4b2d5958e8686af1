set_option maxHeartbeats 1600000
/-! the reference: which nexts are meant, what a state's visits weigh -/
def mtV (σ : rS) (how v : Int32) (i : Nat) : Int32 :=
  if how = 0 then (if σ.2.2.1 77 i = 1 ∧ σ.2.2.1 75 (35 * σ.2.2.1 78 i).toNatClampNeg = v then 1 else 0)
  else if how = 1 ∨ how = 3 then (if σ.2.2.1 77 i = 2 ∧ σ.2.2.1 78 i = v then 1 else 0)
  else if how = 2 then (if σ.2.2.1 77 i = 1 ∧ σ.2.2.1 78 i = v then 1 else 0)
  else if how = 4 then (if σ.2.2.1 77 i = 3 then 1 else 0)
  else if how = 5 then (if σ.2.2.1 77 i = 0 ∧ σ.2.2.1 95 (σ.2.2.1 78 i).toNatClampNeg = 0 then 1 else 0)
  else if how = 6 then (if σ.2.2.1 77 i = 1 ∨ σ.2.2.1 77 i = 2 then 1 else 0)
  else (if σ.2.2.1 77 i = 1 then 1 else 0)
def vsV (σ : rS) (k : Nat) : Int32 := if σ.2.2.1 95 k = 0 then 0 else if σ.2.2.1 102 (34 * k) ≤ 0 then 0 else 1
theorem ne_of_ti {a : Int32} {k : Int32} (h : a.toInt ≠ k.toInt) : a ≠ k := fun e => h (by rw [e])
theorem isMeant_c {C : rCx} (hC : cOK C)  {σ : rS} {a1 : Int32} {a2 : Int32} {a3 : Int32} {Q : Int32 → rS → Prop} (hp : exO σ ∧ 0 ≤ a1 ∧ a1 < σ.1 72) (h : ∀ (v : Int32), (v = mtV σ a2 a3 a1.toNatClampNeg) → Q v σ) : cI C 0 m_isMeant [.ref (co C), .int a1, .int a2, .int a3] σ Q := by
  refine m_isMeant_run hC ?_
  unfold w_isMeant_0
  obtain ⟨hO, h0, h1⟩ := hp
  have k1 := Int32.lt_of_lt_of_le h1 hO.2.2.1.2
  have nx := hO.2.2.2.2 _ (cn_lt h0 h1)
  refine ⟨ib_20000.mpr ?_, ?_⟩
  · clear h; exact ⟨h0, Int32.lt_of_lt_of_le h1 hO.2.2.1.2⟩  -- b1
  intro x1 hx1
  refine ⟨ib_20000.mpr ?_, ?_⟩
  · clear h; exact ⟨h0, k1⟩  -- b2
  intro x2 hx2
  refine ⟨fun c3 => ?_, fun c3 => ?_, fun c3 => ?_, fun c3 => ?_, fun c3 => ?_, fun c3 => ?_, fun c3 => ?_, fun c3 => ?_⟩
  · skip
    refine ⟨fun c4 => ?_, fun c4 => ?_⟩
    · skip
      refine h _ ?_
      · clear h; have n0 := ne_of_ti (a := a2) (k := 0) (by rw [show (0 : Int32).toInt = 0 from rfl]; omega)
        have n1 := ne_of_ti (a := a2) (k := 1) (by rw [show (1 : Int32).toInt = 1 from rfl]; omega)
        have n2 := ne_of_ti (a := a2) (k := 2) (by rw [show (2 : Int32).toInt = 2 from rfl]; omega)
        have n3 := ne_of_ti (a := a2) (k := 3) (by rw [show (3 : Int32).toInt = 3 from rfl]; omega)
        have n4 := ne_of_ti (a := a2) (k := 4) (by rw [show (4 : Int32).toInt = 4 from rfl]; omega)
        have n5 := ne_of_ti (a := a2) (k := 5) (by rw [show (5 : Int32).toInt = 5 from rfl]; omega)
        have n6 := ne_of_ti (a := a2) (k := 6) (by rw [show (6 : Int32).toInt = 6 from rfl]; omega)
        unfold mtV
        rw [if_neg n0, if_neg (fun z => z.elim n1 n3), if_neg n2, if_neg n4, if_neg n5, if_neg n6, if_neg (by rw [← hx1]; exact c4)]
    · skip
      refine h _ ?_
      · clear h; have n0 := ne_of_ti (a := a2) (k := 0) (by rw [show (0 : Int32).toInt = 0 from rfl]; omega)
        have n1 := ne_of_ti (a := a2) (k := 1) (by rw [show (1 : Int32).toInt = 1 from rfl]; omega)
        have n2 := ne_of_ti (a := a2) (k := 2) (by rw [show (2 : Int32).toInt = 2 from rfl]; omega)
        have n3 := ne_of_ti (a := a2) (k := 3) (by rw [show (3 : Int32).toInt = 3 from rfl]; omega)
        have n4 := ne_of_ti (a := a2) (k := 4) (by rw [show (4 : Int32).toInt = 4 from rfl]; omega)
        have n5 := ne_of_ti (a := a2) (k := 5) (by rw [show (5 : Int32).toInt = 5 from rfl]; omega)
        have n6 := ne_of_ti (a := a2) (k := 6) (by rw [show (6 : Int32).toInt = 6 from rfl]; omega)
        unfold mtV
        rw [if_neg n0, if_neg (fun z => z.elim n1 n3), if_neg n2, if_neg n4, if_neg n5, if_neg n6, if_pos (by rw [← hx1]; exact c4)]
  · skip
    refine ⟨fun c5 => ?_, fun c5 => ?_⟩
    · skip
      refine h _ ?_
      · clear h; have e : a2 = 0 := Int32.toInt_inj.mp c3
        unfold mtV
        rw [if_pos e, if_neg (fun z => c5 (by rw [hx1]; exact z.1))]
    · skip
      refine ⟨ib_35000.mpr ?_, ?_⟩
      · clear h; have q := nx.2.2 (by rw [← hx1]; exact c5)
        rw [hx2]
        exact (xe q.1 (Int32.lt_of_lt_of_le q.2 hO.2.1.2) (i := 0) (by decide) (by decide)).2
      refine ⟨fun c6 => ?_, fun c6 => ?_⟩
      · skip
        refine h _ ?_
        · clear h; have e : a2 = 0 := Int32.toInt_inj.mp c3
          unfold mtV
          rw [if_pos e, if_neg (fun z => c6 (by rw [hx2]; exact z.2))]
      · skip
        refine h _ ?_
        · clear h; have e : a2 = 0 := Int32.toInt_inj.mp c3
          rw [hx1] at c5
          rw [hx2] at c6
          unfold mtV
          rw [if_pos e, if_pos ⟨c5, c6⟩]
  · skip
    unfold w_isMeant_86
    refine ⟨fun c7 => ?_, fun c7 => ?_⟩
    · skip
      refine h _ ?_
      · clear h; have e : a2 = 1 := Int32.toInt_inj.mp c3
        unfold mtV
        rw [if_neg (by rw [e]; decide), if_pos (Or.inl e), if_neg (fun z => c7 (by rw [hx1]; exact z.1))]
    · skip
      refine ⟨fun c8 => ?_, fun c8 => ?_⟩
      · skip
        refine h _ ?_
        · clear h; have e : a2 = 1 := Int32.toInt_inj.mp c3
          unfold mtV
          rw [if_neg (by rw [e]; decide), if_pos (Or.inl e), if_neg (fun z => c8 (by rw [hx2]; exact z.2))]
      · skip
        refine h _ ?_
        · clear h; have e : a2 = 1 := Int32.toInt_inj.mp c3
          rw [hx1] at c7
          rw [hx2] at c8
          unfold mtV
          rw [if_neg (by rw [e]; decide), if_pos (Or.inl e), if_pos ⟨c7, c8⟩]
  · skip
    refine ⟨fun c9 => ?_, fun c9 => ?_⟩
    · skip
      refine h _ ?_
      · clear h; have e : a2 = 2 := Int32.toInt_inj.mp c3
        unfold mtV
        rw [if_neg (by rw [e]; decide), if_neg (by rw [e]; decide), if_pos e, if_neg (fun z => c9 (by rw [hx1]; exact z.1))]
    · skip
      refine ⟨fun c10 => ?_, fun c10 => ?_⟩
      · skip
        refine h _ ?_
        · clear h; have e : a2 = 2 := Int32.toInt_inj.mp c3
          unfold mtV
          rw [if_neg (by rw [e]; decide), if_neg (by rw [e]; decide), if_pos e, if_neg (fun z => c10 (by rw [hx2]; exact z.2))]
      · skip
        refine h _ ?_
        · clear h; have e : a2 = 2 := Int32.toInt_inj.mp c3
          rw [hx1] at c9
          rw [hx2] at c10
          unfold mtV
          rw [if_neg (by rw [e]; decide), if_neg (by rw [e]; decide), if_pos e, if_pos ⟨c9, c10⟩]
  · skip
    unfold w_isMeant_86
    refine ⟨fun c11 => ?_, fun c11 => ?_⟩
    · skip
      refine h _ ?_
      · clear h; have e : a2 = 3 := Int32.toInt_inj.mp c3
        unfold mtV
        rw [if_neg (by rw [e]; decide), if_pos (Or.inr e), if_neg (fun z => c11 (by rw [hx1]; exact z.1))]
    · skip
      refine ⟨fun c12 => ?_, fun c12 => ?_⟩
      · skip
        refine h _ ?_
        · clear h; have e : a2 = 3 := Int32.toInt_inj.mp c3
          unfold mtV
          rw [if_neg (by rw [e]; decide), if_pos (Or.inr e), if_neg (fun z => c12 (by rw [hx2]; exact z.2))]
      · skip
        refine h _ ?_
        · clear h; have e : a2 = 3 := Int32.toInt_inj.mp c3
          rw [hx1] at c11
          rw [hx2] at c12
          unfold mtV
          rw [if_neg (by rw [e]; decide), if_pos (Or.inr e), if_pos ⟨c11, c12⟩]
  · skip
    refine ⟨fun c13 => ?_, fun c13 => ?_⟩
    · skip
      refine h _ ?_
      · clear h; have e : a2 = 4 := Int32.toInt_inj.mp c3
        unfold mtV
        rw [if_neg (by rw [e]; decide), if_neg (by rw [e]; decide), if_neg (by rw [e]; decide), if_pos e, if_neg (by rw [← hx1]; exact c13)]
    · skip
      refine h _ ?_
      · clear h; have e : a2 = 4 := Int32.toInt_inj.mp c3
        unfold mtV
        rw [if_neg (by rw [e]; decide), if_neg (by rw [e]; decide), if_neg (by rw [e]; decide), if_pos e, if_pos (by rw [← hx1]; exact c13)]
  · skip
    refine ⟨fun c14 => ?_, fun c14 => ?_⟩
    · skip
      refine h _ ?_
      · clear h; have e : a2 = 5 := Int32.toInt_inj.mp c3
        unfold mtV
        rw [if_neg (by rw [e]; decide), if_neg (by rw [e]; decide), if_neg (by rw [e]; decide), if_neg (by rw [e]; decide), if_pos e, if_neg (fun z => c14 (by rw [hx1]; exact z.1))]
    · skip
      refine ⟨ib_1000.mpr ?_, ?_⟩
      · clear h; have q := nx.2.1 (by rw [← hx1]; exact c14)
        rw [hx2]
        exact ⟨q.1, Int32.lt_of_lt_of_le q.2 hO.1.2⟩
      refine ⟨fun c15 => ?_, fun c15 => ?_⟩
      · skip
        refine h _ ?_
        · clear h; have e : a2 = 5 := Int32.toInt_inj.mp c3
          unfold mtV
          rw [if_neg (by rw [e]; decide), if_neg (by rw [e]; decide), if_neg (by rw [e]; decide), if_neg (by rw [e]; decide), if_pos e, if_neg (fun z => c15 (by rw [hx2]; exact z.2))]
      · skip
        refine h _ ?_
        · clear h; have e : a2 = 5 := Int32.toInt_inj.mp c3
          rw [hx1] at c14
          rw [hx2] at c15
          unfold mtV
          rw [if_neg (by rw [e]; decide), if_neg (by rw [e]; decide), if_neg (by rw [e]; decide), if_neg (by rw [e]; decide), if_pos e, if_pos ⟨c14, c15⟩]
  · skip
    refine ⟨fun c16 => ?_, fun c16 => ?_⟩
    · skip
      refine h _ ?_
      · clear h; have e : a2 = 6 := Int32.toInt_inj.mp c3
        rw [hx1] at c16
        unfold mtV
        rw [if_neg (by rw [e]; decide), if_neg (by rw [e]; decide), if_neg (by rw [e]; decide), if_neg (by rw [e]; decide), if_neg (by rw [e]; decide), if_pos e, if_pos (Or.inl c16)]
    · skip
      refine ⟨fun c17 => ?_, fun c17 => ?_⟩
      · skip
        refine h _ ?_
        · clear h; have e : a2 = 6 := Int32.toInt_inj.mp c3
          rw [hx1] at c16 c17
          unfold mtV
          rw [if_neg (by rw [e]; decide), if_neg (by rw [e]; decide), if_neg (by rw [e]; decide), if_neg (by rw [e]; decide), if_neg (by rw [e]; decide), if_pos e, if_neg (fun z => z.elim c16 c17)]
      · skip
        refine h _ ?_
        · clear h; have e : a2 = 6 := Int32.toInt_inj.mp c3
          rw [hx1] at c17
          unfold mtV
          rw [if_neg (by rw [e]; decide), if_neg (by rw [e]; decide), if_neg (by rw [e]; decide), if_neg (by rw [e]; decide), if_neg (by rw [e]; decide), if_pos e, if_pos (Or.inr c17)]

theorem isVisited_c {C : rCx} (hC : cOK C)  {σ : rS} {a1 : Int32} {Q : Int32 → rS → Prop} (hp : 0 ≤ a1 ∧ a1 < 1000) (h : ∀ (v : Int32), (v = vsV σ a1.toNatClampNeg) → Q v σ) : cI C 0 m_isVisited [.ref (co C), .int a1] σ Q := by
  refine m_isVisited_run hC ?_
  unfold w_isVisited_0
  obtain ⟨h0, h1⟩ := hp
  have v0 := vx0 h0 h1
  refine ⟨ib_1000.mpr ?_, ?_⟩
  · clear h; exact ⟨h0, h1⟩  -- b1
  refine ⟨fun c1 => ?_, fun c1 => ?_⟩
  · skip
    refine h _ ?_
    · clear h; unfold vsV; rw [if_pos c1]  -- q2
  · skip
    refine ⟨ib_34000.mpr ?_, ?_⟩
    · clear h; exact v0.1  -- b3
    refine ⟨fun c2 => ?_, fun c2 => ?_⟩
    · skip
      refine h _ ?_
      · clear h; rw [v0.2] at c2; unfold vsV; rw [if_neg c1, if_pos c2]  -- q4
    · skip
      refine h _ ?_
      · clear h; rw [v0.2] at c2; unfold vsV; rw [if_neg c1, if_neg c2]  -- q5

/-- the visits of a state -/
def fV (σ : rS) (k : Nat) : Rat := mkRat (slV σ 102 (34 * k)) (slV σ 102 (34 * k + 17))
def gV (σ : rS) (k : Nat) : Nat := slV σ 102 (34 * k + 17) * (tTI σ k).toNat
def wB : Nat := 65536 ^ 16 * 65536 ^ 2
/-- a sum with its sign, on its way -/
def siS (σ τ : rS) (n c : Nat) (S : Rat) : Prop := hS τ S ∧ S ≤ ((c * wB : Nat) : Rat) ∧ -S ≤ ((c * wB : Nat) : Rat) ∧ S.den ∣ prS (gV σ) n
theorem gV_b {σ : rS} {n k : Nat} (h : pOK σ) (hn : n = (σ.1 70).toNatClampNeg) (hv : ∀ k, k < n → vOK σ k) (hk : k < n) : 0 < gV σ k ∧ gV σ k ≤ 65536 ^ 18 := by
  obtain ⟨j, j0, j1, je⟩ := toI h.1.1.1 (by rw [← hn]; exact hk)
  have t := tT_b h j0 j1
  rw [je] at t
  unfold gV
  have v := hv k hk
  have u := sl_lt (M := 16) rfl v.2.1
  refine ⟨Nat.mul_pos v.2.2 (by omega), ?_⟩
  rw [show 65536 ^ 18 = 65536 ^ 16 * 65536 ^ 2 from (Nat.pow_add 65536 16 2)]
  exact Nat.mul_le_mul (Nat.le_of_lt u) (by omega)
theorem MV_b {σ : rS} {n : Nat} (h : pOK σ) (hn : n = (σ.1 70).toNatClampNeg) (hv : ∀ k, k < n → vOK σ k) : 0 < prS (gV σ) n ∧ prS (gV σ) n < 65536 ^ (18 * n + 1) := by
  have a := prS_pos (D := gV σ) (n := n) (fun i hi => (gV_b h hn hv hi).1)
  have b := prS_le (D := gV σ) (b := 18) (n := n) (fun i hi => (gV_b h hn hv hi).2)
  exact ⟨a, Nat.lt_of_le_of_lt b (Nat.pow_lt_pow_right (by decide) (Nat.lt_succ_self _))⟩
theorem cW_le {c : Nat} (h : c ≤ 200000) : c * wB ≤ 65536 ^ 20 := by
  unfold wB
  rw [← Nat.pow_add, show 20 = 2 + (16 + 2) from rfl, Nat.pow_add 65536 2]
  exact Nat.mul_le_mul_right _ (by omega)
/-- a number that is held as sign and size -/
theorem hS_abs {σ : rS} {S : Rat} {b : Nat} (h : hS σ S) (h1 : S ≤ (b : Rat)) (h2 : -S ≤ (b : Rat)) : ∃ q, hR σ 4 5 q ∧ q ≤ (b : Rat) ∧ q.den = S.den ∧ (σ.1 92 = 1 ∨ σ.1 92 = -1) := by
  obtain ⟨q, hq, z | z⟩ := h
  · exact ⟨q, hq, by rw [← z.2]; exact h1, by rw [z.2], Or.inl z.1⟩
  · refine ⟨q, hq, ?_, by rw [z.2, den_neg], Or.inr z.1⟩
    rw [z.2, Rat.neg_neg] at h2
    exact h2
theorem siS_L {σ τ : rS} {n c : Nat} {S : Rat} (h : pOK σ) (hn : n = (σ.1 70).toNatClampNeg) (hv : ∀ k, k < n → vOK σ k) (hc : c ≤ 200000) (J : siS σ τ n c S) : numO τ 4 ∧ numO τ 5 ∧ 0 < nV τ 5 ∧ nL τ 5 ≤ 18 * n + 1 ∧ nL τ 4 ≤ 18 * n + 1 + 20 ∧ (τ.1 92 = 1 ∨ τ.1 92 = -1) := by
  obtain ⟨a1, a2, a3, a4⟩ := J
  obtain ⟨q, hq, b1, b2, b3⟩ := hS_abs a1 a2 a3
  have m := MV_b h hn hv
  have p := pl_of (b := 20) hq m.1 (by rw [b2]; exact a4) m.2 (Rat.le_trans b1 (Rat.natCast_le_natCast.mpr (cW_le hc)))
  exact ⟨hq.1, hq.2.1, (hR_q hq).2, p.1, p.2, b3⟩
theorem hS_addx {σ : rS} {p q : Rat} {x : Int32} (h : hS σ p) (g : hR σ 6 7 q) : sgq (σ.1 92) (fQ σ 4 5) + sgq x (fQ σ 6 7) = p + sgq x q := by
  obtain ⟨r, hr, w⟩ := h
  rw [(hR_q g).1, (hR_q hr).1]
  rcases w with z | z
  · rw [z.1, z.2, sgq_1]
  · rw [z.1, z.2, sgq_m]
theorem siS_mono {σ τ : rS} {n c d : Nat} {S : Rat} (h : siS σ τ n c S) (hc : c ≤ d) : siS σ τ n d S := by
  have z : ((c * wB : Nat) : Rat) ≤ ((d * wB : Nat) : Rat) := Rat.natCast_le_natCast.mpr (Nat.mul_le_mul_right _ hc)
  exact ⟨h.1, Rat.le_trans h.2.1 z, Rat.le_trans h.2.2.1 z, h.2.2.2⟩
theorem siS_N {l : List Nat} {σ τ υ : rS} {n c : Nat} {S : Rat} (f : frN l τ υ) (h4 : 4 ∉ l) (h5 : 5 ∉ l) (h : siS σ τ n c S) : siS σ υ n c S := ⟨hS_N f h4 h5 h.1, h.2⟩
theorem siS_0 {σ τ : rS} {n : Nat} (h : hS τ 0) : siS σ τ n 0 0 := ⟨h, by rw [Nat.zero_mul]; exact Rat.le_refl, by rw [Nat.zero_mul]; exact Rat.le_refl, Nat.one_dvd _⟩
theorem sgq_b {x : Int32} {q W : Rat} (q0 : 0 ≤ q) (h : q ≤ W) : sgq x q ≤ W ∧ -(sgq x q) ≤ W ∧ (sgq x q).den = q.den := by
  unfold sgq
  split
  · exact ⟨h, by grind, rfl⟩
  · exact ⟨by grind, by grind, den_neg⟩
theorem siS_add {σ τ : rS} {n c M : Nat} {S q : Rat} {x : Int32} (hx : x = 1 ∨ x = -1) (h : pOK σ) (hn : n = (σ.1 70).toNatClampNeg) (hv : ∀ k, k < n → vOK σ k) (hc : c ≤ 100000) (J : siS σ τ n c S) (g : hR τ 6 7 q) (hq : q ≤ (wB : Rat)) (hd : q.den ∣ M) (hM : M ∣ prS (gV σ) n) (M0 : 0 < M) (M1 : M ≤ 65536 ^ 18) : ((x = 1 ∨ x = -1) ∧ (τ.1 92 = 1 ∨ τ.1 92 = -1) ∧ numO τ 4 ∧ numO τ 5 ∧ numO τ 6 ∧ numO τ 7 ∧ 0 < nV τ 5 ∧ 0 < nV τ 7 ∧ nL τ 4 + nL τ 7 + 3 < 40000 ∧ nL τ 6 + nL τ 5 + 3 < 40000 ∧ nL τ 5 + nL τ 7 + 3 < 40000) ∧ ∀ υ : rS, hS υ (sgq (τ.1 92) (fQ τ 4 5) + sgq x (fQ τ 6 7)) → siS σ υ n (c + 1) (S + sgq x q) := by
  have n1 : n ≤ 1000 := by rw [hn]; exact cn_le (y := 1000) rfl h.1.1.2
  have L := siS_L h hn hv (by omega) J
  have w18 : wB = 65536 ^ 18 := by unfold wB; rw [← Nat.pow_add]
  have p := pl_of (a := 19) (b := 18) g M0 hd (Nat.lt_of_le_of_lt M1 (Nat.pow_lt_pow_right (by decide) (by decide))) (by rw [← w18]; exact hq)
  obtain ⟨a1, a2, a3, a4⟩ := J
  have sb := sgq_b (x := x) (hR_nn g) hq
  refine ⟨⟨hx, L.2.2.2.2.2, L.1, L.2.1, g.1, g.2.1, L.2.2.1, (hR_q g).2, by omega, by omega, by omega⟩, fun υ hυ => ⟨?_, ?_, ?_, ?_⟩⟩
  · rwa [hS_addx a1 g] at hυ
  · rw [Nat.add_mul, Nat.one_mul, Rat.natCast_add]
    have z1 := sb.1
    grind
  · rw [Nat.add_mul, Nat.one_mul, Rat.natCast_add]
    have z1 := sb.2.1
    grind
  · exact den_add a4 (by rw [sb.2.2]; exact Nat.dvd_trans hd hM) (Nat.ne_of_gt (MV_b h hn hv).1)
theorem mk_leN {w : Int} {T N : Nat} (hT : 0 < T) (h : w ≤ (N : Int) * (T : Int)) : mkRat w T ≤ (N : Rat) := by
  have t := nq0 hT
  have e := inv_s (S := (T : Rat)) (by grind)
  have i := Rat.inv_pos.mpr t
  have k : (w : Rat) ≤ (((N : Int) * (T : Int) : Int) : Rat) := Rat.intCast_le_intCast.mpr h
  rw [Rat.intCast_mul] at k
  have z := Rat.mul_le_mul_of_nonneg_right k (Rat.le_of_lt i)
  rw [mk_d]
  have e2 : ((T : Int) : Rat) * (T : Rat)⁻¹ = 1 := e
  rw [Rat.mul_assoc, e2, Rat.mul_one] at z
  exact z
theorem sgn_mk {F : Rat} {w b : Int} {T : Nat} {x : Int32} (h : (x = 1 ∧ 0 ≤ b) ∨ (x = -1 ∧ b ≤ 0)) : sgq x (F * mkRat (w * (b.natAbs : Int)) T) = F * mkRat (w * b) T := by
  rcases h with z | z
  · rw [z.1, sgq_1, show (b.natAbs : Int) = b by omega]
  · rw [z.1, sgq_m, show (b.natAbs : Int) = -b by omega, Int.mul_neg, ← Rat.neg_mkRat]
    grind
