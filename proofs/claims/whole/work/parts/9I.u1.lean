section
set_option maxHeartbeats 1600000
/-! the reference: which nexts are meant, what a state's visits weigh -/
def mtV (σ : rS) (how v : Int32) (i : Nat) : Int32 :=
  if how = 0 then (if σ.2.2.1 77 i = 1 ∧ σ.2.2.1 75 (35 * σ.2.2.1 78 i).toNatClampNeg = v then 1 else 0)
  else if how = 1 ∨ how = 3 then (if σ.2.2.1 77 i = 2 ∧ σ.2.2.1 78 i = v then 1 else 0)
  else if how = 2 then (if σ.2.2.1 77 i = 1 ∧ σ.2.2.1 78 i = v then 1 else 0)
  else if how = 4 then (if σ.2.2.1 77 i = 3 then 1 else 0)
  else if how = 5 then (if σ.2.2.1 77 i = 0 ∧ σ.2.2.1 95 (σ.2.2.1 78 i).toNatClampNeg = 0 then 1 else 0)
  else if how = 6 then (if σ.2.2.1 77 i = 1 ∨ σ.2.2.1 77 i = 2 then 1 else 0)
  else (if σ.2.2.1 77 i = 1 then 1 else 0)
def vsV (σ : rS) (k : Nat) : Int32 := if σ.2.2.1 95 k = 0 then 0 else if σ.2.2.1 102 (34 * k) ≤ 0 then 0 else 1
theorem ne_of_ti {a : Int32} {k : Int32} (h : a.toInt ≠ k.toInt) : a ≠ k := fun e => h (by rw [e])
theorem isMeant_c {C : rCx} (hC : cOK C)  {σ : rS} {a1 : Int32} {a2 : Int32} {a3 : Int32} {Q : Int32 → rS → Prop} (hp : exO σ ∧ 0 ≤ a1 ∧ a1 < σ.1 72) (h : ∀ (v : Int32), (v = mtV σ a2 a3 a1.toNatClampNeg) → Q v σ) : cI C 0 m_isMeant [.ref (co C), .int a1, .int a2, .int a3] σ Q := by
  refine m_isMeant_run hC ?_
  unfold w_isMeant_0
  obtain ⟨hO, h0, h1⟩ := hp
  have k1 := Int32.lt_of_lt_of_le h1 hO.2.2.1.2
  have nx := hO.2.2.2.2 _ (cn_lt h0 h1)
  refine ⟨ib_20000.mpr ?_, ?_⟩
  · clear h; exact ⟨h0, Int32.lt_of_lt_of_le h1 hO.2.2.1.2⟩  -- b1
  intro x1 hx1
  refine ⟨ib_20000.mpr ?_, ?_⟩
  · clear h; exact ⟨h0, k1⟩  -- b2
  intro x2 hx2
  refine ⟨fun c3 => ?_, fun c3 => ?_, fun c3 => ?_, fun c3 => ?_, fun c3 => ?_, fun c3 => ?_, fun c3 => ?_, fun c3 => ?_⟩
  · skip
    refine ⟨fun c4 => ?_, fun c4 => ?_⟩
    · skip
      refine h _ ?_
      · clear h; have n0 := ne_of_ti (a := a2) (k := 0) (by rw [show (0 : Int32).toInt = 0 from rfl]; omega)
        have n1 := ne_of_ti (a := a2) (k := 1) (by rw [show (1 : Int32).toInt = 1 from rfl]; omega)
        have n2 := ne_of_ti (a := a2) (k := 2) (by rw [show (2 : Int32).toInt = 2 from rfl]; omega)
        have n3 := ne_of_ti (a := a2) (k := 3) (by rw [show (3 : Int32).toInt = 3 from rfl]; omega)
        have n4 := ne_of_ti (a := a2) (k := 4) (by rw [show (4 : Int32).toInt = 4 from rfl]; omega)
        have n5 := ne_of_ti (a := a2) (k := 5) (by rw [show (5 : Int32).toInt = 5 from rfl]; omega)
        have n6 := ne_of_ti (a := a2) (k := 6) (by rw [show (6 : Int32).toInt = 6 from rfl]; omega)
        unfold mtV
        rw [if_neg n0, if_neg (fun z => z.elim n1 n3), if_neg n2, if_neg n4, if_neg n5, if_neg n6, if_neg (by rw [← hx1]; exact c4)]
    · skip
      refine h _ ?_
      · clear h; have n0 := ne_of_ti (a := a2) (k := 0) (by rw [show (0 : Int32).toInt = 0 from rfl]; omega)
        have n1 := ne_of_ti (a := a2) (k := 1) (by rw [show (1 : Int32).toInt = 1 from rfl]; omega)
        have n2 := ne_of_ti (a := a2) (k := 2) (by rw [show (2 : Int32).toInt = 2 from rfl]; omega)
        have n3 := ne_of_ti (a := a2) (k := 3) (by rw [show (3 : Int32).toInt = 3 from rfl]; omega)
        have n4 := ne_of_ti (a := a2) (k := 4) (by rw [show (4 : Int32).toInt = 4 from rfl]; omega)
        have n5 := ne_of_ti (a := a2) (k := 5) (by rw [show (5 : Int32).toInt = 5 from rfl]; omega)
        have n6 := ne_of_ti (a := a2) (k := 6) (by rw [show (6 : Int32).toInt = 6 from rfl]; omega)
        unfold mtV
        rw [if_neg n0, if_neg (fun z => z.elim n1 n3), if_neg n2, if_neg n4, if_neg n5, if_neg n6, if_pos (by rw [← hx1]; exact c4)]
  · skip
    refine ⟨fun c5 => ?_, fun c5 => ?_⟩
    · skip
      refine h _ ?_
      · clear h; have e : a2 = 0 := Int32.toInt_inj.mp c3
        unfold mtV
        rw [if_pos e, if_neg (fun z => c5 (by rw [hx1]; exact z.1))]
    · skip
      refine ⟨ib_35000.mpr ?_, ?_⟩
      · clear h; have q := nx.2.2 (by rw [← hx1]; exact c5)
        rw [hx2]
        exact (xe q.1 (Int32.lt_of_lt_of_le q.2 hO.2.1.2) (i := 0) (by decide) (by decide)).2
      refine ⟨fun c6 => ?_, fun c6 => ?_⟩
      · skip
        refine h _ ?_
        · clear h; have e : a2 = 0 := Int32.toInt_inj.mp c3
          unfold mtV
          rw [if_pos e, if_neg (fun z => c6 (by rw [hx2]; exact z.2))]
      · skip
        refine h _ ?_
        · clear h; have e : a2 = 0 := Int32.toInt_inj.mp c3
          rw [hx1] at c5
          rw [hx2] at c6
          unfold mtV
          rw [if_pos e, if_pos ⟨c5, c6⟩]
  · skip
    unfold w_isMeant_86
    refine ⟨fun c7 => ?_, fun c7 => ?_⟩
    · skip
      refine h _ ?_
      · clear h; have e : a2 = 1 := Int32.toInt_inj.mp c3
        unfold mtV
        rw [if_neg (by rw [e]; decide), if_pos (Or.inl e), if_neg (fun z => c7 (by rw [hx1]; exact z.1))]
    · skip
      refine ⟨fun c8 => ?_, fun c8 => ?_⟩
      · skip
        refine h _ ?_
        · clear h; have e : a2 = 1 := Int32.toInt_inj.mp c3
          unfold mtV
          rw [if_neg (by rw [e]; decide), if_pos (Or.inl e), if_neg (fun z => c8 (by rw [hx2]; exact z.2))]
      · skip
        refine h _ ?_
        · clear h; have e : a2 = 1 := Int32.toInt_inj.mp c3
          rw [hx1] at c7
          rw [hx2] at c8
          unfold mtV
          rw [if_neg (by rw [e]; decide), if_pos (Or.inl e), if_pos ⟨c7, c8⟩]
  · skip
    refine ⟨fun c9 => ?_, fun c9 => ?_⟩
    · skip
      refine h _ ?_
      · clear h; have e : a2 = 2 := Int32.toInt_inj.mp c3
        unfold mtV
        rw [if_neg (by rw [e]; decide), if_neg (by rw [e]; decide), if_pos e, if_neg (fun z => c9 (by rw [hx1]; exact z.1))]
    · skip
      refine ⟨fun c10 => ?_, fun c10 => ?_⟩
      · skip
        refine h _ ?_
        · clear h; have e : a2 = 2 := Int32.toInt_inj.mp c3
          unfold mtV
          rw [if_neg (by rw [e]; decide), if_neg (by rw [e]; decide), if_pos e, if_neg (fun z => c10 (by rw [hx2]; exact z.2))]
      · skip
        refine h _ ?_
        · clear h; have e : a2 = 2 := Int32.toInt_inj.mp c3
          rw [hx1] at c9
          rw [hx2] at c10
          unfold mtV
          rw [if_neg (by rw [e]; decide), if_neg (by rw [e]; decide), if_pos e, if_pos ⟨c9, c10⟩]
  · skip
    unfold w_isMeant_86
    refine ⟨fun c11 => ?_, fun c11 => ?_⟩
    · skip
      refine h _ ?_
      · clear h; have e : a2 = 3 := Int32.toInt_inj.mp c3
        unfold mtV
        rw [if_neg (by rw [e]; decide), if_pos (Or.inr e), if_neg (fun z => c11 (by rw [hx1]; exact z.1))]
    · skip
      refine ⟨fun c12 => ?_, fun c12 => ?_⟩
      · skip
        refine h _ ?_
        · clear h; have e : a2 = 3 := Int32.toInt_inj.mp c3
          unfold mtV
          rw [if_neg (by rw [e]; decide), if_pos (Or.inr e), if_neg (fun z => c12 (by rw [hx2]; exact z.2))]
      · skip
        refine h _ ?_
        · clear h; have e : a2 = 3 := Int32.toInt_inj.mp c3
          rw [hx1] at c11
          rw [hx2] at c12
          unfold mtV
          rw [if_neg (by rw [e]; decide), if_pos (Or.inr e), if_pos ⟨c11, c12⟩]
  · skip
    refine ⟨fun c13 => ?_, fun c13 => ?_⟩
    · skip
      refine h _ ?_
      · clear h; have e : a2 = 4 := Int32.toInt_inj.mp c3
        unfold mtV
        rw [if_neg (by rw [e]; decide), if_neg (by rw [e]; decide), if_neg (by rw [e]; decide), if_pos e, if_neg (by rw [← hx1]; exact c13)]
    · skip
      refine h _ ?_
      · clear h; have e : a2 = 4 := Int32.toInt_inj.mp c3
        unfold mtV
        rw [if_neg (by rw [e]; decide), if_neg (by rw [e]; decide), if_neg (by rw [e]; decide), if_pos e, if_pos (by rw [← hx1]; exact c13)]
  · skip
    refine ⟨fun c14 => ?_, fun c14 => ?_⟩
    · skip
      refine h _ ?_
      · clear h; have e : a2 = 5 := Int32.toInt_inj.mp c3
        unfold mtV
        rw [if_neg (by rw [e]; decide), if_neg (by rw [e]; decide), if_neg (by rw [e]; decide), if_neg (by rw [e]; decide), if_pos e, if_neg (fun z => c14 (by rw [hx1]; exact z.1))]
    · skip
      refine ⟨ib_1000.mpr ?_, ?_⟩
      · clear h; have q := nx.2.1 (by rw [← hx1]; exact c14)
        rw [hx2]
        exact ⟨q.1, Int32.lt_of_lt_of_le q.2 hO.1.2⟩
      refine ⟨fun c15 => ?_, fun c15 => ?_⟩
      · skip
        refine h _ ?_
        · clear h; have e : a2 = 5 := Int32.toInt_inj.mp c3
          unfold mtV
          rw [if_neg (by rw [e]; decide), if_neg (by rw [e]; decide), if_neg (by rw [e]; decide), if_neg (by rw [e]; decide), if_pos e, if_neg (fun z => c15 (by rw [hx2]; exact z.2))]
      · skip
        refine h _ ?_
        · clear h; have e : a2 = 5 := Int32.toInt_inj.mp c3
          rw [hx1] at c14
          rw [hx2] at c15
          unfold mtV
          rw [if_neg (by rw [e]; decide), if_neg (by rw [e]; decide), if_neg (by rw [e]; decide), if_neg (by rw [e]; decide), if_pos e, if_pos ⟨c14, c15⟩]
  · skip
    refine ⟨fun c16 => ?_, fun c16 => ?_⟩
    · skip
      refine h _ ?_
      · clear h; have e : a2 = 6 := Int32.toInt_inj.mp c3
        rw [hx1] at c16
        unfold mtV
        rw [if_neg (by rw [e]; decide), if_neg (by rw [e]; decide), if_neg (by rw [e]; decide), if_neg (by rw [e]; decide), if_neg (by rw [e]; decide), if_pos e, if_pos (Or.inl c16)]
    · skip
      refine ⟨fun c17 => ?_, fun c17 => ?_⟩
      · skip
        refine h _ ?_
        · clear h; have e : a2 = 6 := Int32.toInt_inj.mp c3
          rw [hx1] at c16 c17
          unfold mtV
          rw [if_neg (by rw [e]; decide), if_neg (by rw [e]; decide), if_neg (by rw [e]; decide), if_neg (by rw [e]; decide), if_neg (by rw [e]; decide), if_pos e, if_neg (fun z => z.elim c16 c17)]
      · skip
        refine h _ ?_
        · clear h; have e : a2 = 6 := Int32.toInt_inj.mp c3
          rw [hx1] at c17
          unfold mtV
          rw [if_neg (by rw [e]; decide), if_neg (by rw [e]; decide), if_neg (by rw [e]; decide), if_neg (by rw [e]; decide), if_neg (by rw [e]; decide), if_pos e, if_pos (Or.inr c17)]

theorem isVisited_c {C : rCx} (hC : cOK C)  {σ : rS} {a1 : Int32} {Q : Int32 → rS → Prop} (hp : 0 ≤ a1 ∧ a1 < 1000) (h : ∀ (v : Int32), (v = vsV σ a1.toNatClampNeg) → Q v σ) : cI C 0 m_isVisited [.ref (co C), .int a1] σ Q := by
  refine m_isVisited_run hC ?_
  unfold w_isVisited_0
  obtain ⟨h0, h1⟩ := hp
  have v0 := vx0 h0 h1
  refine ⟨ib_1000.mpr ?_, ?_⟩
  · clear h; exact ⟨h0, h1⟩  -- b1
  refine ⟨fun c1 => ?_, fun c1 => ?_⟩
  · skip
    refine h _ ?_
    · clear h; unfold vsV; rw [if_pos c1]  -- q2
  · skip
    refine ⟨ib_34000.mpr ?_, ?_⟩
    · clear h; exact v0.1  -- b3
    refine ⟨fun c2 => ?_, fun c2 => ?_⟩
    · skip
      refine h _ ?_
      · clear h; rw [v0.2] at c2; unfold vsV; rw [if_neg c1, if_pos c2]  -- q4
    · skip
      refine h _ ?_
      · clear h; rw [v0.2] at c2; unfold vsV; rw [if_neg c1, if_neg c2]  -- q5

/-- the visits of a state -/
def fV (σ : rS) (k : Nat) : Rat := mkRat (slV σ 102 (34 * k)) (slV σ 102 (34 * k + 17))
def gV (σ : rS) (k : Nat) : Nat := slV σ 102 (34 * k + 17) * (tTI σ k).toNat
def wB : Nat := 65536 ^ 16 * 65536 ^ 2
/-- a sum with its sign, on its way -/
def siS (σ τ : rS) (n c : Nat) (S : Rat) : Prop := hS τ S ∧ S ≤ ((c * wB : Nat) : Rat) ∧ -S ≤ ((c * wB : Nat) : Rat) ∧ S.den ∣ prS (gV σ) n
theorem gV_b {σ : rS} {n k : Nat} (h : pOK σ) (hn : n = (σ.1 70).toNatClampNeg) (hv : ∀ k, k < n → vOK σ k) (hk : k < n) : 0 < gV σ k ∧ gV σ k ≤ 65536 ^ 18 := by
  obtain ⟨j, j0, j1, je⟩ := toI h.1.1.1 (by rw [← hn]; exact hk)
  have t := tT_b h j0 j1
  rw [je] at t
  unfold gV
  have v := hv k hk
  have u := sl_lt (M := 16) rfl v.2.1
  refine ⟨Nat.mul_pos v.2.2 (by omega), ?_⟩
  rw [show 65536 ^ 18 = 65536 ^ 16 * 65536 ^ 2 from (Nat.pow_add 65536 16 2)]
  exact Nat.mul_le_mul (Nat.le_of_lt u) (by omega)
theorem MV_b {σ : rS} {n : Nat} (h : pOK σ) (hn : n = (σ.1 70).toNatClampNeg) (hv : ∀ k, k < n → vOK σ k) : 0 < prS (gV σ) n ∧ prS (gV σ) n < 65536 ^ (18 * n + 1) := by
  have a := prS_pos (D := gV σ) (n := n) (fun i hi => (gV_b h hn hv hi).1)
  have b := prS_le (D := gV σ) (b := 18) (n := n) (fun i hi => (gV_b h hn hv hi).2)
  exact ⟨a, Nat.lt_of_le_of_lt b (Nat.pow_lt_pow_right (by decide) (Nat.lt_succ_self _))⟩
theorem cW_le {c : Nat} (h : c ≤ 200000) : c * wB ≤ 65536 ^ 20 := by
  unfold wB
  rw [← Nat.pow_add, show 20 = 2 + (16 + 2) from rfl, Nat.pow_add 65536 2]
  exact Nat.mul_le_mul_right _ (by omega)
/-- a number that is held as sign and size -/
theorem hS_abs {σ : rS} {S : Rat} {b : Nat} (h : hS σ S) (h1 : S ≤ (b : Rat)) (h2 : -S ≤ (b : Rat)) : ∃ q, hR σ 4 5 q ∧ q ≤ (b : Rat) ∧ q.den = S.den ∧ (σ.1 92 = 1 ∨ σ.1 92 = -1) := by
  obtain ⟨q, hq, z | z⟩ := h
  · exact ⟨q, hq, by rw [← z.2]; exact h1, by rw [z.2], Or.inl z.1⟩
  · refine ⟨q, hq, ?_, by rw [z.2, den_neg], Or.inr z.1⟩
    rw [z.2, Rat.neg_neg] at h2
    exact h2
theorem siS_L {σ τ : rS} {n c : Nat} {S : Rat} (h : pOK σ) (hn : n = (σ.1 70).toNatClampNeg) (hv : ∀ k, k < n → vOK σ k) (hc : c ≤ 200000) (J : siS σ τ n c S) : numO τ 4 ∧ numO τ 5 ∧ 0 < nV τ 5 ∧ nL τ 5 ≤ 18 * n + 1 ∧ nL τ 4 ≤ 18 * n + 1 + 20 ∧ (τ.1 92 = 1 ∨ τ.1 92 = -1) := by
  obtain ⟨a1, a2, a3, a4⟩ := J
  obtain ⟨q, hq, b1, b2, b3⟩ := hS_abs a1 a2 a3
  have m := MV_b h hn hv
  have p := pl_of (b := 20) hq m.1 (by rw [b2]; exact a4) m.2 (Rat.le_trans b1 (Rat.natCast_le_natCast.mpr (cW_le hc)))
  exact ⟨hq.1, hq.2.1, (hR_q hq).2, p.1, p.2, b3⟩
theorem hS_addx {σ : rS} {p q : Rat} {x : Int32} (h : hS σ p) (g : hR σ 6 7 q) : sgq (σ.1 92) (fQ σ 4 5) + sgq x (fQ σ 6 7) = p + sgq x q := by
  obtain ⟨r, hr, w⟩ := h
  rw [(hR_q g).1, (hR_q hr).1]
  rcases w with z | z
  · rw [z.1, z.2, sgq_1]
  · rw [z.1, z.2, sgq_m]
theorem siS_mono {σ τ : rS} {n c d : Nat} {S : Rat} (h : siS σ τ n c S) (hc : c ≤ d) : siS σ τ n d S := by
  have z : ((c * wB : Nat) : Rat) ≤ ((d * wB : Nat) : Rat) := Rat.natCast_le_natCast.mpr (Nat.mul_le_mul_right _ hc)
  exact ⟨h.1, Rat.le_trans h.2.1 z, Rat.le_trans h.2.2.1 z, h.2.2.2⟩
theorem siS_N {l : List Nat} {σ τ υ : rS} {n c : Nat} {S : Rat} (f : frN l τ υ) (h4 : 4 ∉ l) (h5 : 5 ∉ l) (h : siS σ τ n c S) : siS σ υ n c S := ⟨hS_N f h4 h5 h.1, h.2⟩
theorem siS_0 {σ τ : rS} {n : Nat} (h : hS τ 0) : siS σ τ n 0 0 := ⟨h, by rw [Nat.zero_mul]; exact Rat.le_refl, by rw [Nat.zero_mul]; exact Rat.le_refl, Nat.one_dvd _⟩
theorem sgq_b {x : Int32} {q W : Rat} (q0 : 0 ≤ q) (h : q ≤ W) : sgq x q ≤ W ∧ -(sgq x q) ≤ W ∧ (sgq x q).den = q.den := by
  unfold sgq
  split
  · exact ⟨h, by grind, rfl⟩
  · exact ⟨by grind, by grind, den_neg⟩
theorem siS_add {σ τ : rS} {n c M : Nat} {S q : Rat} {x : Int32} (hx : x = 1 ∨ x = -1) (h : pOK σ) (hn : n = (σ.1 70).toNatClampNeg) (hv : ∀ k, k < n → vOK σ k) (hc : c ≤ 100000) (J : siS σ τ n c S) (g : hR τ 6 7 q) (hq : q ≤ (wB : Rat)) (hd : q.den ∣ M) (hM : M ∣ prS (gV σ) n) (M0 : 0 < M) (M1 : M ≤ 65536 ^ 18) : ((x = 1 ∨ x = -1) ∧ (τ.1 92 = 1 ∨ τ.1 92 = -1) ∧ numO τ 4 ∧ numO τ 5 ∧ numO τ 6 ∧ numO τ 7 ∧ 0 < nV τ 5 ∧ 0 < nV τ 7 ∧ nL τ 4 + nL τ 7 + 3 < 40000 ∧ nL τ 6 + nL τ 5 + 3 < 40000 ∧ nL τ 5 + nL τ 7 + 3 < 40000) ∧ ∀ υ : rS, hS υ (sgq (τ.1 92) (fQ τ 4 5) + sgq x (fQ τ 6 7)) → siS σ υ n (c + 1) (S + sgq x q) := by
  have n1 : n ≤ 1000 := by rw [hn]; exact cn_le (y := 1000) rfl h.1.1.2
  have L := siS_L h hn hv (by omega) J
  have w18 : wB = 65536 ^ 18 := by unfold wB; rw [← Nat.pow_add]
  have p := pl_of (a := 19) (b := 18) g M0 hd (Nat.lt_of_le_of_lt M1 (Nat.pow_lt_pow_right (by decide) (by decide))) (by rw [← w18]; exact hq)
  obtain ⟨a1, a2, a3, a4⟩ := J
  have sb := sgq_b (x := x) (hR_nn g) hq
  refine ⟨⟨hx, L.2.2.2.2.2, L.1, L.2.1, g.1, g.2.1, L.2.2.1, (hR_q g).2, by omega, by omega, by omega⟩, fun υ hυ => ⟨?_, ?_, ?_, ?_⟩⟩
  · rwa [hS_addx a1 g] at hυ
  · rw [Nat.add_mul, Nat.one_mul, Rat.natCast_add]
    have z1 := sb.1
    grind
  · rw [Nat.add_mul, Nat.one_mul, Rat.natCast_add]
    have z1 := sb.2.1
    grind
  · exact den_add a4 (by rw [sb.2.2]; exact Nat.dvd_trans hd hM) (Nat.ne_of_gt (MV_b h hn hv).1)
theorem mk_leN {w : Int} {T N : Nat} (hT : 0 < T) (h : w ≤ (N : Int) * (T : Int)) : mkRat w T ≤ (N : Rat) := by
  have t := nq0 hT
  have e := inv_s (S := (T : Rat)) (by grind)
  have i := Rat.inv_pos.mpr t
  have k : (w : Rat) ≤ (((N : Int) * (T : Int) : Int) : Rat) := Rat.intCast_le_intCast.mpr h
  rw [Rat.intCast_mul] at k
  have z := Rat.mul_le_mul_of_nonneg_right k (Rat.le_of_lt i)
  rw [mk_d]
  have e2 : ((T : Int) : Rat) * (T : Rat)⁻¹ = 1 := e
  rw [Rat.mul_assoc, e2, Rat.mul_one] at z
  exact z
theorem sgn_mk {F : Rat} {w b : Int} {T : Nat} {x : Int32} (h : (x = 1 ∧ 0 ≤ b) ∨ (x = -1 ∧ b ≤ 0)) : sgq x (F * mkRat (w * (b.natAbs : Int)) T) = F * mkRat (w * b) T := by
  rcases h with z | z
  · rw [z.1, sgq_1, show (b.natAbs : Int) = b by omega]
  · rw [z.1, sgq_m, show (b.natAbs : Int) = -b by omega, Int.mul_neg, ← Rat.neg_mkRat]
    grind

end
section
set_option maxHeartbeats 1600000
/-! the reference: sums of weights -/
theorem l64_mul {x y : Int64} {a b : Int} (hx : x.toInt = a) (hy : y.toInt = b) (a0 : 0 ≤ a) (a1 : a ≤ 8000000) (b0 : 0 ≤ b) (b1 : b ≤ 2147483648) : (x * y).toInt = a * b ∧ 0 ≤ a * b := by
  have n : 0 ≤ a * b := Int.mul_nonneg a0 b0
  have m : a * b ≤ 8000000 * 2147483648 := Int.le_trans (Int.mul_le_mul_of_nonneg_right a1 b0) (Int.mul_le_mul_of_nonneg_left b1 (by omega))
  rw [Int64.toInt_mul, hx, hy]
  exact ⟨Int.bmod_eq_of_le (by omega) (by omega), n⟩
theorem l64_neg {x : Int64} (h : ¬ 0 ≤ x) (h2 : x.toInt.natAbs ≤ 2147483648) : (-x).toInt = (x.toInt.natAbs : Int) ∧ x.toInt ≤ 0 := by
  have z : x.toInt < 0 := by
    have y : ¬ 0 ≤ x.toInt := fun q => h (Int64.le_iff_toInt_le.mpr (by rw [Int64.toInt_zero]; exact q))
    omega
  rw [Int64.toInt_neg]
  refine ⟨?_, by omega⟩
  rw [Int.bmod_eq_of_le (by omega) (by omega)]
  omega
theorem l64_pos {x : Int64} (h : 0 ≤ x) : x.toInt = (x.toInt.natAbs : Int) ∧ 0 ≤ x.toInt := by
  have y := Int64.le_iff_toInt_le.mp h
  rw [Int64.toInt_zero] at y
  exact ⟨by omega, y⟩
theorem l64_z {x : Int64} (h : x = 0) : x.toInt = 0 := by rw [h]; rfl
theorem pr_2 {x y A B : Rat} (x0 : 0 ≤ x) (y0 : 0 ≤ y) (hx : x ≤ A) (hy : y ≤ B) : x * y ≤ A * B := by
  have z := pr_le (y := 1) x0 y0 hx Rat.le_refl hy
  rwa [Rat.mul_one] at z
theorem fV_b {σ : rS} {k : Nat} (hv : vOK σ k) : 0 ≤ fV σ k ∧ fV σ k ≤ ((65536 ^ 16 : Nat) : Rat) ∧ (fV σ k).den ∣ slV σ 102 (34 * k + 17) := by
  have u := sl_lt (M := 16) rfl hv.1
  unfold fV
  exact ⟨mk_nn hv.2.2 (by omega), Rat.le_trans (q_le mk_num) (Rat.natCast_le_natCast.mpr (Nat.le_of_lt u)), den_mk (Nat.ne_of_gt hv.2.2)⟩
theorem tw_b {σ : rS} {j i : Int32} (h : pOK σ) (j0 : 0 ≤ j) (j1 : j < σ.1 70) (i0 : σ.2.2.1 76 j.toNatClampNeg ≤ i) (i1 : i < σ.2.2.1 76 (j.toNatClampNeg + 1)) : 0 ≤ twI σ j.toNatClampNeg i.toNatClampNeg ∧ twI σ j.toNatClampNeg i.toNatClampNeg ≤ tTI σ j.toNatClampNeg ∧ 0 ≤ i ∧ i < 20000 ∧ i < σ.1 72 := by
  have st := ex_st h.1 j0 j1
  have k0 := Int32.le_trans st.1.1 i0
  have lo := cn_l i0 st.1.1
  have hl := cn_lt k0 i1
  have hd : i.toNatClampNeg - loN σ j.toNatClampNeg < leN σ j.toNatClampNeg := by unfold leN loN; omega
  have a := tw_nn h j0 j1 hd
  have b := tw_le h j0 j1 hd
  rw [show loN σ j.toNatClampNeg + (i.toNatClampNeg - loN σ j.toNatClampNeg) = i.toNatClampNeg by unfold loN; omega] at a b
  have l72 := Int32.lt_of_lt_of_le i1 st.2.2.1
  exact ⟨a, b, k0, Int32.lt_of_lt_of_le l72 h.1.2.2.1.2, l72⟩
theorem wt_I {σ τ : rS} {s : Nat} {i : Int32} {v : Int64} (h : (τ.2.2.1 81 s = 0 → v = (τ.2.2.1 79 i.toNatClampNeg).toInt64) ∧ (τ.2.2.1 81 s ≠ 0 → v = 1)) (e81 : τ.2.2.1 81 = σ.2.2.1 81) (e79 : τ.2.2.1 79 = σ.2.2.1 79) (ht : σ.2.2.1 81 s = 0 ∨ i = σ.2.2.1 76 s + σ.2.2.1 83 s) : v.toInt = twI σ s i.toNatClampNeg := by
  rw [e81, e79] at h
  unfold twI
  split
  · rename_i e; rw [h.1 e, Int32.toInt_toInt64]
  · rename_i e; rw [h.2 e, if_pos (by rw [ht.resolve_left e])]; rfl
theorem wq_b {σ : rS} {k : Nat} {w b : Int} (hv : vOK σ k) (w0 : 0 ≤ w) (w1 : w ≤ tTI σ k) (t1 : 1 ≤ tTI σ k) (b0 : 0 ≤ b) (b1 : b ≤ 2147483648) : fV σ k * mkRat (w * b) (tTI σ k).toNat ≤ (wB : Rat) ∧ (fV σ k * mkRat (w * b) (tTI σ k).toNat).den ∣ gV σ k := by
  have f := fV_b hv
  have T0 : 0 < (tTI σ k).toNat := by omega
  constructor
  · unfold wB
    rw [Rat.natCast_mul]
    refine pr_2 f.1 (mk_nn T0 (Int.mul_nonneg w0 b0)) f.2.1 (mk_leN T0 ?_)
    have m := Int.le_trans (Int.mul_le_mul_of_nonneg_right w1 b0) (Int.mul_le_mul_of_nonneg_left b1 (by omega : 0 ≤ tTI σ k))
    rw [show ((tTI σ k).toNat : Int) = tTI σ k by omega]
    rw [show ((65536 ^ 2 : Nat) : Int) = 4294967296 from rfl]
    omega
  · exact Nat.dvd_trans den_mul (Nat.mul_dvd_mul f.2.2 (den_mk (by omega)))
theorem addWeight_c {C : rCx} (hC : cOK C) (s c : Nat) (S : Rat) {σ : rS} {a1 : Int32} {a2 : Int32} {a3 : Int64} {Q : rS → Prop} (hp : pOK σ ∧ s = (σ.1 70).toNatClampNeg ∧ (∀ k, k < s → vOK σ k) ∧ 0 ≤ a1 ∧ a1 < σ.1 70 ∧ σ.2.2.1 76 a1.toNatClampNeg ≤ a2 ∧ a2 < σ.2.2.1 76 (a1.toNatClampNeg + 1) ∧ (σ.2.2.1 81 a1.toNatClampNeg = 0 ∨ a2 = σ.2.2.1 76 a1.toNatClampNeg + σ.2.2.1 83 a1.toNatClampNeg) ∧ a3.toInt.natAbs ≤ 2147483648 ∧ siS σ σ s c S ∧ c ≤ 100000) (h : ∀ (σ' : rS), (frS [0, 1, 2, 3, 4, 5, 6, 7, 8, 9, 10] σ σ' ∧ siS σ σ' s (c + 1) (S + fV σ a1.toNatClampNeg * mkRat (twI σ a1.toNatClampNeg a2.toNatClampNeg * a3.toInt) (tTI σ a1.toNatClampNeg).toNat)) → Q σ') : cV C 5 m_addWeight [.ref (co C), .int a1, .int a2, .long a3] σ Q := by
  refine m_addWeight_run hC ?_
  unfold w_addWeight_0
  obtain ⟨hO, hs, hv, h0, h1, i0, i1, ht, hb, J, hc⟩ := hp
  have k1 := Int32.lt_of_lt_of_le h1 hO.1.1.2
  have ks : a1.toNatClampNeg < s := by rw [hs]; exact cn_lt h0 h1
  have V := hv _ ks
  have tb := tT_b hO h0 h1
  have tw := tw_b hO h0 h1 i0 i1
  have gb := gV_b hO hs hv ks
  have wq := wq_b V tw.1 tw.2.1 tb.1 (b := (a3.toInt.natAbs : Int)) (by omega) (by omega)
  have hj30 : ∀ (l1 : Int32) (l3 : Int64) (s1 : Int64) (s2 : Int64) (τ : rS), (l1 = a1 ∧ l3 = a3 ∧ frN [6, 7] σ τ ∧ numO τ 6 ∧ numO τ 7 ∧ fQ τ 6 7 = fV σ a1.toNatClampNeg ∧ 0 < nV τ 7 ∧ nL τ 6 ≤ 16 ∧ nL τ 7 ≤ 16 ∧ s1.toInt = twI σ a1.toNatClampNeg a2.toNatClampNeg ∧ s2.toInt = (a3.toInt.natAbs : Int)) → w_addWeight_30 C Q  l1 l3 s1 s2 τ := by
    rintro y30_1 y30_3 y30_s1 y30_s2 τ30 j30
    unfold w_addWeight_30
    obtain ⟨y1, y2, Y, o6, o7, e67, p7, l6, l7, z1, z2⟩ := j30
    have m64 := l64_mul z1 z2 tw.1 (by omega) (by omega) (by omega)
    refine totalOf_c hC  ?_ (fun r1 q3 => ?_)
    · clear h; rw [y1]; exact ⟨h0, k1⟩  -- p1
    have T := tot_I q3
    rw [tT_f (Y.2.2.1 80 (by decide) (by decide)) (Y.2.2.1 81 (by decide) (by decide)), y1] at T
    refine scale_c hC  ?_ (fun σ_4 q5 => ?_)
    · clear h; exact ⟨o6, o7, p7, l64_0 m64.1 m64.2, l64_1 T tb.1, by omega, by omega⟩  -- p2
    rw [e67, m64.1, T] at q5
    have J4 := siS_N q5.1 (by decide) (by decide) (siS_N Y (by decide) (by decide) J)
    have F4 : frS [0, 1, 2, 3, 4, 5, 6, 7, 8, 9, 10] σ σ_4 := frS_tr (frS_mono (frS_of Y) (sub_of rfl)) (frS_mono (frS_of q5.1) (sub_of rfl))
    rw [y2]
    refine ⟨fun c6 => ?_, fun c6 => ?_⟩
    · skip
      refine add_c hC  ?_ (fun σ_7 q8 => ?_)
      · clear h; exact (siS_add (x := 1) (Or.inl rfl) hO hs hv hc J4 q5.2 wq.1 wq.2 (prS_dvd ks) gb.1 gb.2).1  -- p3
      refine h _ ?_
      · clear h; have A := (siS_add (x := 1) (Or.inl rfl) hO hs hv hc J4 q5.2 wq.1 wq.2 (prS_dvd ks) gb.1 gb.2).2 _ q8.2
        rw [sgn_mk (Or.inl ⟨rfl, (l64_pos (lg_ge.mp c6)).2⟩)] at A
        exact ⟨frS_tr F4 (frS_mono q8.1 (sub_of rfl)), A⟩
    · skip
      refine add_c hC  ?_ (fun σ_9 q10 => ?_)
      · clear h; exact (siS_add (x := -1) (Or.inr rfl) hO hs hv hc J4 q5.2 wq.1 wq.2 (prS_dvd ks) gb.1 gb.2).1  -- p5
      refine h _ ?_
      · clear h; have A := (siS_add (x := -1) (Or.inr rfl) hO hs hv hc J4 q5.2 wq.1 wq.2 (prS_dvd ks) gb.1 gb.2).2 _ q10.2
        rw [sgn_mk (Or.inr ⟨rfl, (l64_neg (fun z => c6 (lg_ge.mpr z)) hb).2⟩)] at A
        exact ⟨frS_tr F4 (frS_mono q10.1 (sub_of rfl)), A⟩
  refine ⟨fun c11 => ?_, fun c11 => ?_⟩
  · skip
    refine h _ ?_
    · clear h; rw [l64_z (lc_0.mp c11), Int.mul_zero, Rat.zero_mkRat, Rat.mul_zero, Rat.add_zero]
      exact ⟨frS_rf, siS_mono J (by omega)⟩
  · skip
    refine loadVisits_c hC  ?_ (fun σ_12 q13 => ?_)
    · clear h; exact ⟨h0, k1, V.1, V.2.1⟩  -- p8
    have e67 : fQ σ_12 6 7 = fV σ a1.toNatClampNeg := by unfold fQ fV; rw [q13.2.2.2.1, q13.2.2.2.2.1]
    have p7 : 0 < nV σ_12 7 := by rw [q13.2.2.2.2.1]; exact V.2.2
    refine weightOf_c hC  ?_ (fun r14 q16 => ?_)
    · clear h; exact ⟨h0, k1, tw.2.2.1, tw.2.2.2.1⟩  -- p9
    have W := wt_I q16 (q13.1.2.2.1 81 (by decide) (by decide)) (q13.1.2.2.1 79 (by decide) (by decide)) ht
    refine ⟨fun c17 => ?_, fun c17 => ?_⟩
    · skip
      refine hj30 _ _ _ _ _ ?_
      · clear h; exact ⟨rfl, rfl, q13.1, q13.2.1, q13.2.2.1, e67, p7, q13.2.2.2.2.2.1, q13.2.2.2.2.2.2, W, (l64_pos (lg_ge.mp c17)).1⟩  -- k10
    · skip
      refine hj30 _ _ _ _ _ ?_
      · clear h; exact ⟨rfl, rfl, q13.1, q13.2.1, q13.2.2.1, e67, p7, q13.2.2.2.2.2.1, q13.2.2.2.2.2.2, W, (l64_neg (fun z => c17 (lg_ge.mpr z)) hb).1⟩  -- k11

end
section
set_option maxHeartbeats 1600000
/-! the reference: all weights that are meant -/
def byI (σ : rS) (how v b : Int32) (i : Nat) : Int := if mtV σ how v i = 0 then 0 else if b = 0 then 1 else (σ.2.2.1 75 (35 * σ.2.2.1 78 i).toNatClampNeg).toInt
def trm (σ : rS) (how v b : Int32) (k i : Nat) : Rat := (if vsV σ k = 0 then 0 else fV σ k) * mkRat (twI σ k i * byI σ how v b i) (tTI σ k).toNat
def swK (σ : rS) (how v b : Int32) (k n : Nat) : Rat := smQ (fun d => trm σ how v b k (loN σ k + d)) n
def swS (σ : rS) (how v b : Int32) (n : Nat) : Rat := smQ (fun k => swK σ how v b k (leN σ k)) n
abbrev alP (σ : rS) (how v : Int32) : Prop := σ.1 70 = 0 ∧ ((how = 0 ∧ σ.2.2.1 75 0 = v) ∨ (how = 2 ∧ v = 0) ∨ ¬ how < 6)
def alQ (σ : rS) (how v b : Int32) : Rat := if alP σ how v then (if b = 0 then 1 else 0) else 0
def opQ (σ : rS) (how : Int32) : Rat := if how = 5 ∧ ¬ σ.1 70 ≤ 0 ∧ σ.2.2.1 95 0 = 0 then 1 else 0
def swQ (σ : rS) (how v b : Int32) : Rat := swS σ how v b (σ.1 70).toNatClampNeg + alQ σ how v b + opQ σ how
theorem trm_v {σ : rS} {how v b : Int32} {k i : Nat} (h : vsV σ k = 0) : trm σ how v b k i = 0 := by
  unfold trm
  rw [if_pos h, Rat.zero_mul]
theorem trm_t {σ : rS} {how v b : Int32} {k i : Nat} (h : twI σ k i = 0) : trm σ how v b k i = 0 := by
  unfold trm
  rw [h, Int.zero_mul, Rat.zero_mkRat, Rat.mul_zero]
theorem trm_m {σ : rS} {how v b : Int32} {k i : Nat} (h : mtV σ how v i = 0) : trm σ how v b k i = 0 := by
  unfold trm byI
  rw [if_pos h, Int.mul_zero, Rat.zero_mkRat, Rat.mul_zero]
theorem trm_e {σ : rS} {how v b : Int32} {k i : Nat} {y : Int} (h1 : vsV σ k ≠ 0) (h2 : byI σ how v b i = y) : fV σ k * mkRat (twI σ k i * y) (tTI σ k).toNat = trm σ how v b k i := by
  unfold trm
  rw [if_neg h1, h2]
theorem swK_s {σ : rS} {how v b : Int32} {k n i : Nat} (h : loN σ k + n = i) : swK σ how v b k (n + 1) = swK σ how v b k n + trm σ how v b k i := by
  unfold swK
  rw [smQ_s, h]
theorem swS_s {σ : rS} {how v b : Int32} {n : Nat} : swS σ how v b (n + 1) = swS σ how v b n + swK σ how v b n (leN σ n) := by
  unfold swS
  rw [smQ_s]
theorem swK_v {σ : rS} {how v b : Int32} {k n : Nat} (h : vsV σ k = 0) : swK σ how v b k n = 0 := smQ_0 (fun i _ => trm_v h)
theorem tw_n {σ : rS} {s : Nat} {i : Int32} (h0 : 0 ≤ i) (h1 : 0 ≤ σ.2.2.1 76 s + σ.2.2.1 83 s) (h2 : σ.2.2.1 81 s ≠ 0) (h : i ≠ σ.2.2.1 76 s + σ.2.2.1 83 s) : twI σ s i.toNatClampNeg = 0 := by
  unfold twI
  rw [if_neg h2, if_neg (cn_d h0 h1 h)]
theorem mt7 {σ : rS} {v : Int32} {i : Nat} (h : mtV σ 7 v i ≠ 0) : σ.2.2.1 77 i = 1 := by
  unfold mtV at h
  rw [if_neg (by decide), if_neg (by decide), if_neg (by decide), if_neg (by decide), if_neg (by decide), if_neg (by decide)] at h
  by_cases e : σ.2.2.1 77 i = 1
  · exact e
  · rw [if_neg e] at h; exact absurd rfl h
theorem i32_abs {x : Int32} : x.toInt64.toInt.natAbs ≤ 2147483648 := by
  rw [Int32.toInt_toInt64]
  have a := Int32.le_toInt x
  have b := Int32.toInt_lt x
  omega
theorem one_64 : (1 : Int64).toInt.natAbs ≤ 2147483648 := by decide
/-- rows that a sum reads -/
theorem swQ_S {l : List Nat} {σ τ : rS} (f : frS l σ τ) : swQ τ = swQ σ := by
  have r := fun k (h : k ≠ 90 ∧ k ≠ 91) => f.2.2.1 k h.1 h.2
  have e70 := f.1 70 (by decide)
  funext how v b
  unfold swQ swS swK trm byI alQ opQ alP
  unfold mtV vsV fV twI tTI leN loN slV
  rw [e70, r 75 (by decide), r 76 (by decide), r 77 (by decide), r 78 (by decide), r 79 (by decide), r 80 (by decide), r 81 (by decide), r 83 (by decide), r 95 (by decide), r 102 (by decide)]
theorem siS_g {σ σ2 τ : rS} {n c : Nat} {S : Rat} {l : List Nat} (f : frS l σ σ2) (J : siS σ τ n c S) : siS σ2 τ n c S := by
  have e : gV σ2 = gV σ := by
    funext k
    unfold gV
    rw [(sl_f (m := 16) (f.2.2.1 102 (by decide) (by decide))).1, tT_f (f.2.2.1 80 (by decide) (by decide)) (f.2.2.1 81 (by decide) (by decide))]
  unfold siS
  rw [e]
  exact J
theorem tm_S {l : List Nat} {σ τ : rS} (f : frS l σ τ) : fV τ = fV σ ∧ twI τ = twI σ ∧ tTI τ = tTI σ ∧ vsV τ = vsV σ ∧ mtV τ = mtV σ := by
  have r := fun k (h : k ≠ 90 ∧ k ≠ 91) => f.2.2.1 k h.1 h.2
  refine ⟨?_, ?_, ?_, ?_, ?_⟩
  · funext k; unfold fV slV; rw [r 102 (by decide)]
  · funext k i; unfold twI; rw [r 76 (by decide), r 79 (by decide), r 81 (by decide), r 83 (by decide)]
  · funext k; unfold tTI; rw [r 80 (by decide), r 81 (by decide)]
  · funext k; unfold vsV; rw [r 95 (by decide), r 102 (by decide)]
  · funext how v i; unfold mtV; rw [r 75 (by decide), r 77 (by decide), r 78 (by decide), r 95 (by decide)]
theorem pOK_S {l : List Nat} {σ τ : rS} (h : pOK σ) (f : frS l σ τ) : pOK τ := pOK_o h (fun k hk => f.1 k (by omega)) (fun k hk => f.2.2.1 k (by omega) (by omega))
theorem siS_gr {σ σ2 τ : rS} {n c : Nat} {S : Rat} {l : List Nat} (f : frS l σ σ2) (J : siS σ2 τ n c S) : siS σ τ n c S := by
  have e : gV σ2 = gV σ := by
    funext k
    unfold gV
    rw [(sl_f (m := 16) (f.2.2.1 102 (by decide) (by decide))).1, tT_f (f.2.2.1 80 (by decide) (by decide)) (f.2.2.1 81 (by decide) (by decide))]
  unfold siS at J
  rw [e] at J
  exact J
theorem one_wB : (1 : Rat) ≤ (wB : Rat) := (Rat.natCast_le_natCast (a := 1) (b := wB)).mpr (Nat.mul_pos (Nat.pow_pos (by decide)) (Nat.pow_pos (by decide)))
theorem zr_wB : (0 : Rat) ≤ (wB : Rat) := (Rat.natCast_le_natCast (a := 0) (b := wB)).mpr (Nat.zero_le _)
theorem sumWeights_c {C : rCx} (hC : cOK C) (s : Nat) {σ : rS} {a1 : Int32} {a2 : Int32} {a3 : Int32} {Q : rS → Prop} (hp : pOK σ ∧ s = (σ.1 70).toNatClampNeg ∧ (∀ k, k < s → vOK σ k) ∧ (a3 ≠ 0 → a1 = 7)) (h : ∀ (σ' : rS), (frS [0, 1, 2, 3, 4, 5, 6, 7, 8, 9, 10] σ σ' ∧ siS σ σ' s 20002 (swQ σ a1 a2 a3)) → Q σ') : cV C 6 m_sumWeights [.ref (co C), .int a1, .int a2, .int a3] σ Q := by
  refine m_sumWeights_run hC ?_
  unfold w_sumWeights_0
  obtain ⟨hO, hs, hv, h37⟩ := hp
  have n1000 := hO.1.1.2
  have hj190 : ∀ (l1 : Int32) (τ : rS), (l1 = a1 ∧ frS [0, 1, 2, 3, 4, 5, 6, 7, 8, 9, 10] σ τ ∧ siS σ τ s 20001 (swS σ a1 a2 a3 s + alQ σ a1 a2 a3)) → w_sumWeights_190 C Q  l1 τ := by
    rintro y190_1 τ190 j190
    unfold w_sumWeights_190
    obtain ⟨y1, F, J⟩ := j190
    have e70 := F.1 70 (by decide)
    have e95 := F.2.2.1 95 (by decide) (by decide)
    rw [y1, e70, e95]
    refine ⟨fun c1 => ?_, fun c1 => ?_⟩
    · skip
      refine h _ ?_
      · clear h; have e : opQ σ a1 = 0 := if_neg (fun z => c1 z.1)
        unfold swQ
        rw [← hs, e, Rat.add_zero]
        exact ⟨F, siS_mono J (by decide)⟩
    · skip
      refine ⟨fun c2 => ?_, fun c2 => ?_⟩
      · skip
        refine h _ ?_
        · clear h; have e : opQ σ a1 = 0 := if_neg (fun z => z.2.1 c2)
          unfold swQ
          rw [← hs, e, Rat.add_zero]
          exact ⟨F, siS_mono J (by decide)⟩
      · skip
        refine ⟨ib_1000.mpr ?_, ?_⟩
        · clear h; exact ⟨by decide, by decide⟩  -- b3
        refine ⟨fun c3 => ?_, fun c3 => ?_⟩
        · skip
          refine h _ ?_
          · clear h; have e : opQ σ a1 = 0 := if_neg (fun z => c3 z.2.2)
            unfold swQ
            rw [← hs, e, Rat.add_zero]
            exact ⟨F, siS_mono J (by decide)⟩
        · skip
          refine set_c hC  ?_ (fun σ_4 q5 => ?_)
          · clear h; exact ⟨by decide, by decide, by decide⟩  -- p5
          simp only [kn] at q5
          refine set_c hC  ?_ (fun σ_6 q7 => ?_)
          · clear h; exact ⟨by decide, by decide, by decide⟩  -- p6
          simp only [kn] at q7
          have g6 := nV_fr q7.1 (k := 6) (by decide) q5.2.1
          have R : hR σ_6 6 7 1 := ⟨g6.1, q7.2.1, by rw [g6.2.1, q5.2.2.1]; rfl, by rw [q7.2.2.1]; rfl⟩
          have F6 : frS [0, 1, 2, 3, 4, 5, 6, 7, 8, 9, 10] σ σ_6 := frS_tr F (frS_tr (frS_mono (frS_of q5.1) (sub_of rfl)) (frS_mono (frS_of q7.1) (sub_of rfl)))
          have A := siS_add (M := 1) (x := 1) (Or.inl rfl) hO hs hv (by decide) (siS_N q7.1 (by decide) (by decide) (siS_N q5.1 (by decide) (by decide) J)) R one_wB (Nat.dvd_refl 1) (Nat.one_dvd _) (by decide) (by decide)
          refine add_c hC  ?_ (fun σ_8 q9 => ?_)
          · clear h; exact A.1  -- p7
          refine h _ ?_
          · clear h; have e : opQ σ a1 = 1 := if_pos ⟨c1, c2, c3⟩
            have B := A.2 _ q9.2
            unfold swQ
            rw [← hs, e]
            rw [sgq_1] at B
            exact ⟨frS_tr F6 (frS_mono q9.1 (sub_of rfl)), B⟩
  have hj175 : ∀ (l1 : Int32) (s1 : Int32) (s2 : Int64) (τ : rS), (l1 = a1 ∧ s1 = 6 ∧ alP σ a1 a2 ∧ ((a3 = 0 ∧ s2 = 1) ∨ (a3 ≠ 0 ∧ s2 = 0)) ∧ frS [0, 1, 2, 3, 4, 5, 6, 7, 8, 9, 10] σ τ ∧ siS σ τ s 20000 (swS σ a1 a2 a3 s)) → w_sumWeights_175 C Q  l1 s1 s2 τ := by
    rintro y175_1 y175_s1 y175_s2 τ175 j175
    unfold w_sumWeights_175
    obtain ⟨y1, z1, z2, z3, F, J⟩ := j175
    rw [z1]
    refine set_c hC  ?_ (fun σ_10 q11 => ?_)
    · clear h; refine ⟨by decide, by decide, ?_⟩
      rcases z3 with z | z
      · rw [z.2]; decide
      · rw [z.2]; decide
    simp only [kn] at q11
    refine set_c hC  ?_ (fun σ_12 q13 => ?_)
    · clear h; exact ⟨by decide, by decide, by decide⟩  -- p10
    simp only [kn] at q13
    have g6 := nV_fr q13.1 (k := 6) (by decide) q11.2.1
    have R : hR σ_12 6 7 (if a3 = 0 then 1 else 0) := by
      rcases z3 with z | z
      · rw [if_pos z.1]; exact ⟨g6.1, q13.2.1, by rw [g6.2.1, q11.2.2.1, z.2]; rfl, by rw [q13.2.2.1]; rfl⟩
      · rw [if_neg z.1]; exact ⟨g6.1, q13.2.1, by rw [g6.2.1, q11.2.2.1, z.2]; rfl, by rw [q13.2.2.1]; rfl⟩
    have F12 : frS [0, 1, 2, 3, 4, 5, 6, 7, 8, 9, 10] σ σ_12 := frS_tr F (frS_tr (frS_mono (frS_of q11.1) (sub_of rfl)) (frS_mono (frS_of q13.1) (sub_of rfl)))
    have A := siS_add (M := 1) (x := 1) (Or.inl rfl) hO hs hv (by decide) (siS_N q13.1 (by decide) (by decide) (siS_N q11.1 (by decide) (by decide) J)) R (by split; exact one_wB; exact zr_wB) (by split; exact Nat.dvd_refl 1; exact Nat.dvd_refl 1) (Nat.one_dvd _) (by decide) (by decide)
    refine add_c hC  ?_ (fun σ_14 q15 => ?_)
    · clear h; exact A.1  -- p11
    refine hj190 _ _ ?_
    · clear h; have B := A.2 _ q15.2
      have e : alQ σ a1 a2 a3 = if a3 = 0 then 1 else 0 := if_pos z2
      rw [sgq_1, ← e] at B
      exact ⟨y1, frS_tr F12 (frS_mono q15.1 (sub_of rfl)), B⟩
  have hj156 : ∀ (l1 : Int32) (l3 : Int32) (s0 : Int32) (τ : rS), (l1 = a1 ∧ l3 = a3 ∧ ((s0 = 0 ∧ ¬ alP σ a1 a2) ∨ (s0 ≠ 0 ∧ alP σ a1 a2)) ∧ frS [0, 1, 2, 3, 4, 5, 6, 7, 8, 9, 10] σ τ ∧ siS σ τ s 20000 (swS σ a1 a2 a3 s)) → w_sumWeights_156 C Q  l1 l3 s0 τ := by
    rintro y156_1 y156_3 y156_s0 τ156 j156
    unfold w_sumWeights_156
    obtain ⟨y1, y3, z, F, J⟩ := j156
    refine ⟨fun c16 => ?_, fun c16 => ?_⟩
    · skip
      refine hj190 _ _ ?_
      · clear h; have na : ¬ alP σ a1 a2 := by
          rcases z with z | z
          · exact z.2
          · exact absurd c16 z.1
        have e : alQ σ a1 a2 a3 = 0 := if_neg na
        rw [e, Rat.add_zero]
        exact ⟨y1, F, siS_mono J (by decide)⟩
    · skip
      refine ⟨fun c17 => ?_, fun c17 => ?_⟩
      · skip
        refine hj175 _ _ _ _ ?_
        · clear h; have al : alP σ a1 a2 := by
            rcases z with z | z
            · exact absurd z.1 c16
            · exact z.2
          exact ⟨y1, rfl, al, Or.inl ⟨by rw [← y3]; exact c17, rfl⟩, F, J⟩
      · skip
        refine hj175 _ _ _ _ ?_
        · clear h; have al : alP σ a1 a2 := by
            rcases z with z | z
            · exact absurd z.1 c16
            · exact z.2
          exact ⟨y1, rfl, al, Or.inr ⟨by rw [← y3]; exact c17, rfl⟩, F, J⟩
  have hj145 : ∀ (l1 : Int32) (l3 : Int32) (τ : rS), (l1 = a1 ∧ l3 = a3 ∧ σ.1 70 = 0 ∧ ¬ (a1 = 0 ∧ σ.2.2.1 75 0 = a2) ∧ ¬ (a1 = 2 ∧ a2 = 0) ∧ frS [0, 1, 2, 3, 4, 5, 6, 7, 8, 9, 10] σ τ ∧ siS σ τ s 20000 (swS σ a1 a2 a3 s)) → w_sumWeights_145 C Q  l1 l3 τ := by
    rintro y145_1 y145_3 τ145 j145
    unfold w_sumWeights_145
    obtain ⟨y1, y3, z70, n1, n2, F, J⟩ := j145
    refine ⟨fun c18 => ?_, fun c18 => ?_⟩
    · skip
      refine hj156 _ _ _ _ ?_
      · clear h; refine ⟨y1, y3, Or.inl ⟨rfl, ?_⟩, F, J⟩
        rintro ⟨-, q | q | q⟩
        · exact n1 q
        · exact n2 q
        · exact q (by rw [← y1]; exact c18)
    · skip
      refine hj156 _ _ _ _ ?_
      · clear h; exact ⟨y1, y3, Or.inr ⟨by decide, z70, Or.inr (Or.inr (by rw [← y1]; exact c18))⟩, F, J⟩  -- k17
  have hj136 : ∀ (l1 : Int32) (l2 : Int32) (l3 : Int32) (τ : rS), (l1 = a1 ∧ l2 = a2 ∧ l3 = a3 ∧ σ.1 70 = 0 ∧ ¬ (a1 = 0 ∧ σ.2.2.1 75 0 = a2) ∧ frS [0, 1, 2, 3, 4, 5, 6, 7, 8, 9, 10] σ τ ∧ siS σ τ s 20000 (swS σ a1 a2 a3 s)) → w_sumWeights_136 C Q  l1 l2 l3 τ := by
    rintro y136_1 y136_2 y136_3 τ136 j136
    unfold w_sumWeights_136
    obtain ⟨y1, y2, y3, z70, n1, F, J⟩ := j136
    refine ⟨fun c19 => ?_, fun c19 => ?_⟩
    · skip
      refine hj145 _ _ _ ?_
      · clear h; exact ⟨y1, y3, z70, n1, fun q => c19 (by rw [y1]; exact q.1), F, J⟩  -- k18
    · skip
      refine ⟨fun c20 => ?_, fun c20 => ?_⟩
      · skip
        refine hj156 _ _ _ _ ?_
        · clear h; exact ⟨y1, y3, Or.inr ⟨by decide, z70, Or.inr (Or.inl ⟨by rw [← y1]; exact c19, by rw [← y2]; exact c20⟩)⟩, F, J⟩  -- k19
      · skip
        refine hj145 _ _ _ ?_
        · clear h; exact ⟨y1, y3, z70, n1, fun q => c20 (by rw [y2]; exact q.2), F, J⟩  -- k20
  refine clearSum_c hC  (fun σ_21 q22 => ?_)
  unfold w_sumWeights_7
  refine ⟨fun n l1 l2 l3 l4 τ => n = (σ.1 70 - l4).toNatClampNeg ∧ (l1 = a1 ∧ l2 = a2 ∧ l3 = a3 ∧ frS [0, 1, 2, 3, 4, 5, 6, 7, 8, 9, 10] σ τ ∧ 0 ≤ l4 ∧ l4 ≤ σ.1 70 ∧ ∃ d, d ≤ 20000 ∧ (l4 < σ.1 70 → d ≤ loN σ l4.toNatClampNeg) ∧ siS σ τ s d (swS σ a1 a2 a3 l4.toNatClampNeg)), ⟨_, rfl, ?_⟩, ?_⟩
  · clear h; exact ⟨rfl, rfl, rfl, frS_mono q22.1 (sub_of rfl), by decide, hO.1.1.1, 0, by decide, fun _ => Nat.zero_le _, siS_0 q22.2⟩  -- j21
  rintro n7 x7_1 x7_2 x7_3 x7_4 σ7 ⟨hn7, i7⟩
  obtain ⟨e1, e2, e3, F, a0, a1', d, d1, d2, J⟩ := i7
  have e70 := F.1 70 (by decide)
  have e75 := F.2.2.1 75 (by decide) (by decide)
  have e76 := F.2.2.1 76 (by decide) (by decide)
  rw [e70, e75, e76]
  refine ⟨fun c23 => ?_, fun c23 => ?_⟩
  · skip
    refine ⟨fun c24 => ?_, fun c24 => ?_⟩
    · skip
      refine hj156 _ _ _ _ ?_
      · clear h; have e : x7_4 = σ.1 70 := Int32.le_antisymm a1' c23
        rw [e, ← hs] at J
        exact ⟨e1, e3, Or.inl ⟨rfl, fun q => c24 q.1⟩, F, siS_mono J d1⟩
    · skip
      refine ⟨fun c25 => ?_, fun c25 => ?_⟩
      · skip
        refine hj136 _ _ _ _ ?_
        · clear h; have e : x7_4 = σ.1 70 := Int32.le_antisymm a1' c23
          rw [e, ← hs] at J
          exact ⟨e1, e2, e3, c24, fun q => c25 (by rw [e1]; exact q.1), F, siS_mono J d1⟩
      · skip
        refine ⟨ib_35000.mpr ?_, ?_⟩
        · clear h; exact ⟨by decide, by decide⟩  -- b24
        refine ⟨fun c26 => ?_, fun c26 => ?_⟩
        · skip
          refine hj156 _ _ _ _ ?_
          · clear h; have e : x7_4 = σ.1 70 := Int32.le_antisymm a1' c23
            rw [e, ← hs] at J
            exact ⟨e1, e3, Or.inr ⟨by decide, c24, Or.inl ⟨by rw [← e1]; exact c25, by rw [← e2]; exact c26⟩⟩, F, siS_mono J d1⟩
        · skip
          refine hj136 _ _ _ _ ?_
          · clear h; have e : x7_4 = σ.1 70 := Int32.le_antisymm a1' c23
            rw [e, ← hs] at J
            exact ⟨e1, e2, e3, c24, fun q => c26 (by rw [e2]; exact q.2), F, siS_mono J d1⟩
  · skip
    have u := uk a0 c23 n1000
    have st := ex_st hO.1 a0 u.2.2.2.2.1
    have as := cn_succ a0 (Int32.lt_trans u.2.2.2.2.2 (by decide))
    have ks : x7_4.toNatClampNeg < s := by rw [hs]; exact cn_lt a0 u.2.2.2.2.1
    have hi2 := Int32.le_trans st.2.2.1 hO.1.2.2.1.2
    refine ⟨ib_1001.mpr ?_, ?_⟩
    · clear h; exact ⟨a0, Int32.lt_trans u.2.2.2.2.2 (by decide)⟩  -- b27
    intro x27 hx27
    unfold w_sumWeights_25
    refine ⟨fun n l1 l2 l3 l4 l5 τ => n = (σ.2.2.1 76 (x7_4.toNatClampNeg + 1) - l5).toNatClampNeg ∧ (l1 = a1 ∧ l2 = a2 ∧ l3 = a3 ∧ l4 = x7_4 ∧ frS [0, 1, 2, 3, 4, 5, 6, 7, 8, 9, 10] σ τ ∧ σ.2.2.1 76 x7_4.toNatClampNeg ≤ l5 ∧ l5 ≤ σ.2.2.1 76 (x7_4.toNatClampNeg + 1) ∧ siS σ τ s l5.toNatClampNeg (swS σ a1 a2 a3 x7_4.toNatClampNeg + swK σ a1 a2 a3 x7_4.toNatClampNeg (l5.toNatClampNeg - loN σ x7_4.toNatClampNeg))), ⟨_, rfl, ?_⟩, ?_⟩
    · clear h; rw [hx27]
      refine ⟨e1, e2, e3, rfl, F, Int32.le_refl _, st.2.1, ?_⟩
      have dl := d2 u.2.2.2.2.1
      unfold loN at dl ⊢
      rw [Nat.sub_self, show swK σ a1 a2 a3 x7_4.toNatClampNeg 0 = 0 from rfl, Rat.add_zero]
      exact siS_mono J dl
    rintro n25 x25_1 x25_2 x25_3 x25_4 x25_5 σ25 ⟨hn25, i25⟩
    obtain ⟨f1, f2, f3, f4, G, w1, w2, J2⟩ := i25
    have i0 := Int32.le_trans st.1.1 w1
    have g76 := G.2.2.1 76 (by decide) (by decide)
    have g78 := G.2.2.1 78 (by decide) (by decide)
    have g75 := G.2.2.1 75 (by decide) (by decide)
    have g81 := G.2.2.1 81 (by decide) (by decide)
    have g83 := G.2.2.1 83 (by decide) (by decide)
    have tS := tm_S G
    have hi20 : x25_5.toNatClampNeg ≤ 20000 := cn_le (y := 20000) rfl (Int32.le_trans w2 hi2)
    rw [f4]
    refine isVisited_c hC  ?_ (fun r28 q30 => ?_)
    · clear h; exact ⟨a0, u.2.2.2.2.2⟩  -- p29
    rw [tS.2.2.2.1] at q30
    rw [g76, st.2.2.2.1]
    refine ⟨fun c31 => ?_, fun c31 => ?_⟩
    · skip
      intro x32 hx32
      refine ⟨_, cn_lt2 hn7 ?_ ?_, rfl, ?_⟩
      · clear h; rw [hx32]; exact u.1  -- d30
      · clear h; rw [hx32]; exact u.2.1  -- d31
      · clear h; rw [q30] at c31
        rw [swK_v c31] at J2
        rw [hx32]
        exact ⟨f1, f2, f3, G, u.2.2.1, u.2.2.2.1, x25_5.toNatClampNeg, hi20, fun _ => by rw [as]; unfold loN; exact cn_l w2 i0, by rw [as, swS_s, swK_v c31]; exact J2⟩
    · skip
      refine ⟨ib_1001.mpr ?_, ?_⟩
      · clear h; exact ⟨st.2.2.2.2.2.1, st.2.2.2.2.2.2⟩  -- b33
      refine ⟨fun c33 => ?_, fun c33 => ?_⟩
      · skip
        intro x34 hx34
        refine ⟨_, cn_lt2 hn7 ?_ ?_, rfl, ?_⟩
        · clear h; rw [hx34]; exact u.1  -- d34
        · clear h; rw [hx34]; exact u.2.1  -- d35
        · clear h; have e5 : x25_5 = σ.2.2.1 76 (x7_4.toNatClampNeg + 1) := Int32.le_antisymm w2 c33
          have el : x25_5.toNatClampNeg - loN σ x7_4.toNatClampNeg = leN σ x7_4.toNatClampNeg := by rw [e5]; rfl
          rw [el] at J2
          rw [hx34]
          exact ⟨f1, f2, f3, G, u.2.2.1, u.2.2.2.1, x25_5.toNatClampNeg, hi20, fun _ => by rw [as]; unfold loN; exact cn_l w2 i0, by rw [as, swS_s]; exact J2⟩
      · skip
        have z := u2 i0 c33 hi2
        have is := cn_succ i0 (Int32.lt_trans z.2.2.2.2.2.2 (by decide))
        have lo := cn_l w1 st.1.1
        have tw := tw_b hO a0 u.2.2.2.2.1 w1 z.2.2.2.2.2.1
        have el : loN σ x7_4.toNatClampNeg + (x25_5.toNatClampNeg - loN σ x7_4.toNatClampNeg) = x25_5.toNatClampNeg := by unfold loN; omega
        have el2 : x25_5.toNatClampNeg + 1 - loN σ x7_4.toNatClampNeg = x25_5.toNatClampNeg - loN σ x7_4.toNatClampNeg + 1 := by unfold loN; omega
        have hO25 := pOK_S hO G
        have nv : vsV σ x7_4.toNatClampNeg ≠ 0 := by rw [← q30]; exact c31
        refine isTaken_c hC  ?_ (fun r35 q37 => ?_)
        · clear h; exact ⟨a0, u.2.2.2.2.2⟩  -- p37
        have tk := q37.2
        rw [rd, rd, rd, g81, g76, g83] at tk
        refine ⟨fun c38 => ?_, fun c38 => ?_⟩
        · skip
          intro x39 hx39
          refine ⟨_, cn_lt2 hn25 ?_ ?_, rfl, ?_⟩
          · clear h; rw [hx39]; exact z.1  -- d38
          · clear h; rw [hx39]; exact z.2.1  -- d39
          · clear h; have nt := fun y => (tk.mpr y) c38
            have n81 : σ.2.2.1 81 x7_4.toNatClampNeg ≠ 0 := fun y => nt (Or.inr (Or.inl y))
            have tz := tw_n i0 (pl_at hO a0 u.2.2.2.2.1 n81) n81 (fun y => nt (Or.inr (Or.inr y)))
            rw [hx39, is]
            refine ⟨f1, f2, f3, rfl, G, Int32.le_trans w1 z.2.2.2.1, z.2.2.2.2.1, ?_⟩
            rw [el2, swK_s el, trm_t tz, Rat.add_zero]
            exact siS_mono J2 (by omega)
        · skip
          refine isMeant_c hC  ?_ (fun r40 q42 => ?_)
          · clear h; rw [G.1 72 (by decide)]; exact ⟨hO25.1, i0, tw.2.2.2.2⟩  -- p41
          rw [tS.2.2.2.2, f1, f2] at q42
          have tkn := (tk.mp c38).resolve_left (by decide)
          refine ⟨fun c43 => ?_, fun c43 => ?_⟩
          · skip
            intro x44 hx44
            refine ⟨_, cn_lt2 hn25 ?_ ?_, rfl, ?_⟩
            · clear h; rw [hx44]; exact z.1  -- d42
            · clear h; rw [hx44]; exact z.2.1  -- d43
            · clear h; rw [q42] at c43
              rw [hx44, is]
              refine ⟨f1, f2, f3, rfl, G, Int32.le_trans w1 z.2.2.2.1, z.2.2.2.2.1, ?_⟩
              rw [el2, swK_s el, trm_m c43, Rat.add_zero]
              exact siS_mono J2 (by omega)
          · skip
            refine ⟨fun c45 => ?_, fun c45 => ?_⟩
            · skip
              refine addWeight_c hC s x25_5.toNatClampNeg (swS σ a1 a2 a3 x7_4.toNatClampNeg + swK σ a1 a2 a3 x7_4.toNatClampNeg (x25_5.toNatClampNeg - loN σ x7_4.toNatClampNeg)) ?_ (fun σ_46 q47 => ?_)
              · clear h; rw [G.1 70 (by decide), g76, g81, g83]
                exact ⟨hO25, hs, fun k hk => vOK_f (G.2.2.1 102 (by decide) (by decide)) (hv k hk), a0, u.2.2.2.2.1, w1, z.2.2.2.2.2.1, tkn, one_64, siS_g G J2, by omega⟩
              rw [tS.1, tS.2.1, tS.2.2.1] at q47
              have by1 : byI σ a1 a2 a3 x25_5.toNatClampNeg = 1 := by
                unfold byI
                rw [if_neg (by rw [← q42]; exact c43), if_pos (by rw [← f3]; exact c45)]
              rw [show (1 : Int64).toInt = 1 from rfl, trm_e nv by1] at q47
              intro x48 hx48
              refine ⟨_, cn_lt2 hn25 ?_ ?_, rfl, ?_⟩
              · clear h; rw [hx48]; exact z.1  -- d46
              · clear h; rw [hx48]; exact z.2.1  -- d47
              · clear h; rw [hx48, is]
                refine ⟨f1, f2, f3, rfl, frS_tr G q47.1, Int32.le_trans w1 z.2.2.2.1, z.2.2.2.2.1, ?_⟩
                rw [el2, swK_s el, ← Rat.add_assoc]
                exact siS_gr G q47.2
            · skip
              refine ⟨ib_20000.mpr ?_, ?_⟩
              · clear h; exact ⟨i0, z.2.2.2.2.2.2⟩  -- b49
              refine ⟨ib_35000.mpr ?_, ?_⟩
              · clear h; rw [f3] at c45
                rw [q42, h37 c45] at c43
                have q := (hO.1.2.2.2.2 _ (cn_lt i0 tw.2.2.2.2)).2.2 (mt7 c43)
                rw [g78]
                exact (xe q.1 (Int32.lt_of_lt_of_le q.2 hO.1.2.1.2) (i := 0) (by decide) (by decide)).2
              refine addWeight_c hC s x25_5.toNatClampNeg (swS σ a1 a2 a3 x7_4.toNatClampNeg + swK σ a1 a2 a3 x7_4.toNatClampNeg (x25_5.toNatClampNeg - loN σ x7_4.toNatClampNeg)) ?_ (fun σ_49 q50 => ?_)
              · clear h; rw [G.1 70 (by decide), g76, g81, g83]
                exact ⟨hO25, hs, fun k hk => vOK_f (G.2.2.1 102 (by decide) (by decide)) (hv k hk), a0, u.2.2.2.2.1, w1, z.2.2.2.2.2.1, tkn, i32_abs, siS_g G J2, by omega⟩
              rw [tS.1, tS.2.1, tS.2.2.1, g75, g78, Int32.toInt_toInt64] at q50
              have by1 : byI σ a1 a2 a3 x25_5.toNatClampNeg = (σ.2.2.1 75 (35 * σ.2.2.1 78 x25_5.toNatClampNeg).toNatClampNeg).toInt := by
                unfold byI
                rw [if_neg (by rw [← q42]; exact c43), if_neg (by rw [← f3]; exact c45)]
              rw [trm_e nv by1] at q50
              intro x51 hx51
              refine ⟨_, cn_lt2 hn25 ?_ ?_, rfl, ?_⟩
              · clear h; rw [hx51]; exact z.1  -- d52
              · clear h; rw [hx51]; exact z.2.1  -- d53
              · clear h; rw [hx51, is]
                refine ⟨f1, f2, f3, rfl, frS_tr G q50.1, Int32.le_trans w1 z.2.2.2.1, z.2.2.2.2.1, ?_⟩
                rw [el2, swK_s el, ← Rat.add_assoc]
                exact siS_gr G q50.2

end
section
set_option maxHeartbeats 1600000
/-! the reference: sums of visits, quotients of sums -/
theorem hS_ne {σ : rS} {S : Rat} (h : hS σ S) (hn : S ≠ 0) : 0 < nV σ 4 := by
  obtain ⟨q, hq, w⟩ := h
  refine Nat.pos_of_ne_zero (fun z => hn ?_)
  have q0 : q = 0 := by
    have e := hq.2.2.1
    rw [z] at e
    exact Rat.num_eq_zero.mp e.symm
  rcases w with y | y
  · rw [y.2, q0]
  · rw [y.2, q0, Rat.neg_zero]
theorem vq_b {σ : rS} {k : Nat} {b : Int} (hv : vOK σ k) (b0 : 0 ≤ b) (b1 : b ≤ 2147483648) : fV σ k * mkRat b 1 ≤ (wB : Rat) ∧ (fV σ k * mkRat b 1).den ∣ gV σ k := by
  have f := fV_b hv
  constructor
  · unfold wB
    rw [Rat.natCast_mul]
    refine pr_2 f.1 (mk_nn (by decide) b0) f.2.1 (mk_leN (by decide) ?_)
    rw [show ((65536 ^ 2 : Nat) : Int) = 4294967296 from rfl]
    omega
  · have d : (fV σ k * mkRat b 1).den ∣ slV σ 102 (34 * k + 17) * 1 := Nat.dvd_trans den_mul (Nat.mul_dvd_mul f.2.2 (den_mk (by decide)))
    rw [Nat.mul_one] at d
    exact Nat.dvd_trans d (Nat.dvd_mul_right ..)
theorem kn2 : (15 : Int32).toNatClampNeg = 15 ∧ (16 : Int32).toNatClampNeg = 16 ∧ (17 : Int32).toNatClampNeg = 17 ∧ (18 : Int32).toNatClampNeg = 18 ∧ (19 : Int32).toNatClampNeg = 19 ∧ (20 : Int32).toNatClampNeg = 20 ∧ (21 : Int32).toNatClampNeg = 21 ∧ (22 : Int32).toNatClampNeg = 22 ∧ (23 : Int32).toNatClampNeg = 23 ∧ (24 : Int32).toNatClampNeg = 24 ∧ (25 : Int32).toNatClampNeg = 25 ∧ (26 : Int32).toNatClampNeg = 26 ∧ (27 : Int32).toNatClampNeg = 27 ∧ (28 : Int32).toNatClampNeg = 28 ∧ (29 : Int32).toNatClampNeg = 29 := ⟨rfl, rfl, rfl, rfl, rfl, rfl, rfl, rfl, rfl, rfl, rfl, rfl, rfl, rfl, rfl⟩
theorem sumVisits_c {C : rCx} (hC : cOK C) (s : Nat) {σ : rS} {a1 : Int32} {Q : rS → Prop} (hp : pOK σ ∧ s = (σ.1 70).toNatClampNeg ∧ (∀ k, k < s → vOK σ k)) (h : ∀ (σ' : rS), (frS [0, 1, 2, 3, 4, 5, 6, 7, 8, 9, 10] σ σ' ∧ ∃ S, siS σ σ' s 1000 S) → Q σ') : cV C 5 m_sumVisits [.ref (co C), .int a1] σ Q := by
  refine m_sumVisits_run hC ?_
  unfold w_sumVisits_0
  obtain ⟨hO, hs, hv⟩ := hp
  have n1000 := hO.1.1.2
  refine clearSum_c hC  (fun σ_1 q2 => ?_)
  unfold w_sumVisits_6
  refine ⟨fun n l1 l2 τ => n = (σ.1 70 - l2).toNatClampNeg ∧ (l1 = a1 ∧ frS [0, 1, 2, 3, 4, 5, 6, 7, 8, 9, 10] σ τ ∧ 0 ≤ l2 ∧ l2 ≤ σ.1 70 ∧ ∃ S, siS σ τ s l2.toNatClampNeg S), ⟨_, rfl, ?_⟩, ?_⟩
  · clear h; exact ⟨rfl, frS_mono q2.1 (sub_of rfl), by decide, hO.1.1.1, 0, siS_0 q2.2⟩  -- j1
  rintro n6 x6_1 x6_2 σ6 ⟨hn6, i6⟩
  have hj62 : ∀ (l1 : Int32) (l2 : Int32) (l3 : Int64) (s1 : Int64) (τ : rS), (l1 = a1 ∧ l2 = x6_2 ∧ ¬ σ.1 70 ≤ x6_2 ∧ l3.toInt.natAbs ≤ 2147483648 ∧ s1.toInt = (l3.toInt.natAbs : Int) ∧ frN [6, 7] σ6 τ ∧ numO τ 6 ∧ numO τ 7 ∧ fQ τ 6 7 = fV σ x6_2.toNatClampNeg ∧ 0 < nV τ 7 ∧ nL τ 6 ≤ 16 ∧ nL τ 7 ≤ 16) → w_sumVisits_62 C Q (fun l1' l2' τ => ∃ k < n6, (fun n l1 l2 τ => n = (σ.1 70 - l2).toNatClampNeg ∧ (l1 = a1 ∧ frS [0, 1, 2, 3, 4, 5, 6, 7, 8, 9, 10] σ τ ∧ 0 ≤ l2 ∧ l2 ≤ σ.1 70 ∧ ∃ S, siS σ τ s l2.toNatClampNeg S)) k l1' l2' τ) l1 l2 l3 s1 τ := by
    rintro y62_1 y62_2 y62_3 y62_s1 τ62 j62
    unfold w_sumVisits_62
    obtain ⟨e1, F, a0, a1', S, J⟩ := i6
    obtain ⟨y1, y2, y3, y4, y5, Y, o6, o7, e67, p7, l6, l7⟩ := j62
    have u := uk a0 y3 n1000
    have as := cn_succ a0 (Int32.lt_trans u.2.2.2.2.2 (by decide))
    have ks : x6_2.toNatClampNeg < s := by rw [hs]; exact cn_lt a0 u.2.2.2.2.1
    have s1000 : s ≤ 1000 := by rw [hs]; exact cn_le (y := 1000) rfl n1000
    have vq := vq_b (hv _ ks) (b := (y62_3.toInt.natAbs : Int)) (by omega) (by omega)
    have gb := gV_b hO hs hv ks
    refine scale_c hC  ?_ (fun σ_3 q4 => ?_)
    · clear h; exact ⟨o6, o7, p7, l64_0 y5 (by omega), by decide, by omega, by omega⟩  -- p2
    rw [e67, y5, show (1 : Int64).toInt.toNat = 1 from rfl] at q4
    have J3 := siS_N q4.1 (by decide) (by decide) (siS_N Y (by decide) (by decide) J)
    have F3 : frS [0, 1, 2, 3, 4, 5, 6, 7, 8, 9, 10] σ σ_3 := frS_tr F (frS_tr (frS_mono (frS_of Y) (sub_of rfl)) (frS_mono (frS_of q4.1) (sub_of rfl)))
    refine ⟨fun c5 => ?_, fun c5 => ?_⟩
    · skip
      refine add_c hC  ?_ (fun σ_6 q7 => ?_)
      · clear h; exact (siS_add (x := 1) (Or.inl rfl) hO hs hv (by omega) J3 q4.2 vq.1 vq.2 (prS_dvd ks) gb.1 gb.2).1  -- p3
      intro x8 hx8
      refine ⟨_, cn_lt2 hn6 ?_ ?_, rfl, ?_⟩
      · clear h; rw [hx8, y2]; exact u.1  -- d4
      · clear h; rw [hx8, y2]; exact u.2.1  -- d5
      · clear h; rw [hx8, y2, as]
        exact ⟨y1, frS_tr F3 (frS_mono q7.1 (sub_of rfl)), u.2.2.1, u.2.2.2.1, _, (siS_add (x := 1) (Or.inl rfl) hO hs hv (by omega) J3 q4.2 vq.1 vq.2 (prS_dvd ks) gb.1 gb.2).2 _ q7.2⟩
    · skip
      refine add_c hC  ?_ (fun σ_9 q10 => ?_)
      · clear h; exact (siS_add (x := -1) (Or.inr rfl) hO hs hv (by omega) J3 q4.2 vq.1 vq.2 (prS_dvd ks) gb.1 gb.2).1  -- p7
      intro x11 hx11
      refine ⟨_, cn_lt2 hn6 ?_ ?_, rfl, ?_⟩
      · clear h; rw [hx11, y2]; exact u.1  -- d8
      · clear h; rw [hx11, y2]; exact u.2.1  -- d9
      · clear h; rw [hx11, y2, as]
        exact ⟨y1, frS_tr F3 (frS_mono q10.1 (sub_of rfl)), u.2.2.1, u.2.2.2.1, _, (siS_add (x := -1) (Or.inr rfl) hO hs hv (by omega) J3 q4.2 vq.1 vq.2 (prS_dvd ks) gb.1 gb.2).2 _ q10.2⟩
  have hj29 : ∀ (l1 : Int32) (l2 : Int32) (s0 : Int64) (τ : rS), (l1 = a1 ∧ l2 = x6_2 ∧ ¬ σ.1 70 ≤ x6_2 ∧ s0.toInt.natAbs ≤ 2147483648 ∧ τ = σ6) → w_sumVisits_29 C Q (fun l1' l2' τ => ∃ k < n6, (fun n l1 l2 τ => n = (σ.1 70 - l2).toNatClampNeg ∧ (l1 = a1 ∧ frS [0, 1, 2, 3, 4, 5, 6, 7, 8, 9, 10] σ τ ∧ 0 ≤ l2 ∧ l2 ≤ σ.1 70 ∧ ∃ S, siS σ τ s l2.toNatClampNeg S)) k l1' l2' τ) l1 l2 s0 τ := by
    rintro y29_1 y29_2 y29_s0 τ29 j29
    unfold w_sumVisits_29
    obtain ⟨e1, F, a0, a1', S, J⟩ := i6
    obtain ⟨y1, y2, y3, y4, y5⟩ := j29
    have u := uk a0 y3 n1000
    have as := cn_succ a0 (Int32.lt_trans u.2.2.2.2.2 (by decide))
    have ks : x6_2.toNatClampNeg < s := by rw [hs]; exact cn_lt a0 u.2.2.2.2.1
    rw [y5, y2]
    refine isVisited_c hC  ?_ (fun r12 q14 => ?_)
    · clear h; exact ⟨a0, u.2.2.2.2.2⟩  -- p11
    refine ⟨fun c15 => ?_, fun c15 => ?_⟩
    · skip
      intro x16 hx16
      refine ⟨_, cn_lt2 hn6 ?_ ?_, rfl, ?_⟩
      · clear h; rw [hx16]; exact u.1  -- d12
      · clear h; rw [hx16]; exact u.2.1  -- d13
      · clear h; rw [hx16, as]; exact ⟨y1, F, u.2.2.1, u.2.2.2.1, S, siS_mono J (by omega)⟩  -- i14
    · skip
      refine ⟨fun c17 => ?_, fun c17 => ?_⟩
      · skip
        intro x18 hx18
        refine ⟨_, cn_lt2 hn6 ?_ ?_, rfl, ?_⟩
        · clear h; rw [hx18]; exact u.1  -- d15
        · clear h; rw [hx18]; exact u.2.1  -- d16
        · clear h; rw [hx18, as]; exact ⟨y1, F, u.2.2.1, u.2.2.2.1, S, siS_mono J (by omega)⟩  -- i17
      · skip
        refine loadVisits_c hC  ?_ (fun σ_19 q20 => ?_)
        · clear h; have V := vOK_f (F.2.2.1 102 (by decide) (by decide)) (hv _ ks)
          exact ⟨a0, u.2.2.2.2.2, V.1, V.2.1⟩
        have V := hv _ ks
        rw [(sl_f (m := 16) (F.2.2.1 102 (by decide) (by decide))).1, (sl_f (m := 16) (F.2.2.1 102 (by decide) (by decide))).1] at q20
        have e67 : fQ σ_19 6 7 = fV σ x6_2.toNatClampNeg := by unfold fQ fV; rw [q20.2.2.2.1, q20.2.2.2.2.1]
        have p7 : 0 < nV σ_19 7 := by rw [q20.2.2.2.2.1]; exact V.2.2
        refine ⟨fun c21 => ?_, fun c21 => ?_⟩
        · skip
          refine hj62 _ _ _ _ _ ?_
          · clear h; exact ⟨y1, rfl, y3, y4, (l64_pos (lg_ge.mp c21)).1, q20.1, q20.2.1, q20.2.2.1, e67, p7, q20.2.2.2.2.2.1, q20.2.2.2.2.2.2⟩  -- k19
        · skip
          refine hj62 _ _ _ _ _ ?_
          · clear h; exact ⟨y1, rfl, y3, y4, (l64_neg (fun z => c21 (lg_ge.mpr z)) y4).1, q20.1, q20.2.1, q20.2.2.1, e67, p7, q20.2.2.2.2.2.1, q20.2.2.2.2.2.2⟩  -- k20
  obtain ⟨e1, F, a0, a1', S, J⟩ := i6
  have e70 := F.1 70 (by decide)
  rw [e70]
  refine ⟨fun c22 => ?_, fun c22 => ?_⟩
  · skip
    refine h _ ?_
    · clear h; have s1000 : s ≤ 1000 := by rw [hs]; exact cn_le (y := 1000) rfl n1000
      have l := cn_l a1' a0
      exact ⟨F, S, siS_mono J (by omega)⟩
  · skip
    refine ⟨fun c23 => ?_, fun c23 => ?_⟩
    · skip
      refine hj29 _ _ _ _ ?_
      · clear h; exact ⟨e1, rfl, c22, one_64, rfl⟩  -- k22
    · skip
      refine ⟨ib_1000.mpr ?_, ?_⟩
      · clear h; have u := uk a0 c22 n1000
        exact ⟨a0, u.2.2.2.2.2⟩
      refine hj29 _ _ _ _ ?_
      · clear h; exact ⟨e1, rfl, c22, i32_abs, rfl⟩  -- k24

theorem sumOver_c {C : rCx} (hC : cOK C) (s : Nat) {σ : rS} {a1 : Int32} {a2 : Int32} {a3 : Int32} {a4 : Int32} {Q : rS → Prop} (hp : pOK σ ∧ s = (σ.1 70).toNatClampNeg ∧ (∀ k, k < s → vOK σ k) ∧ (a3 ≠ 0 → a1 = 7) ∧ swQ σ a4 0 0 ≠ 0) (h : ∀ (σ' : rS), (frS [0, 1, 2, 3, 4, 5, 6, 7, 8, 9, 10, 19, 20] σ σ' ∧ numO σ' 4 ∧ numO σ' 5 ∧ (σ'.1 92 = 1 ∨ σ'.1 92 = -1)) → Q σ') : cV C 7 m_sumOver [.ref (co C), .int a1, .int a2, .int a3, .int a4] σ Q := by
  refine m_sumOver_run hC ?_
  unfold w_sumOver_0
  obtain ⟨hO, hs, hv, h37, hne⟩ := hp
  refine sumWeights_c hC s ?_ (fun σ_1 q2 => ?_)
  · clear h; exact ⟨hO, hs, hv, h37⟩  -- p1
  intro x3 hx3
  have s1000 : s ≤ 1000 := by rw [hs]; exact cn_le (y := 1000) rfl hO.1.1.2
  have L1 := siS_L hO hs hv (by decide) q2.2
  refine copy_v hC  ?_ (fun σ_4 q5 => ?_)
  · clear h; simp only [kn, kn2]; exact ⟨by decide, by decide, by decide, by decide, by decide, L1.1⟩  -- p2
  simp only [kn, kn2] at q5
  have n5 := nV_fr q5.1 (k := 5) (by decide) L1.2.1
  refine copy_v hC  ?_ (fun σ_6 q7 => ?_)
  · clear h; simp only [kn, kn2]; exact ⟨by decide, by decide, by decide, by decide, by decide, n5.1⟩  -- p3
  simp only [kn, kn2] at q7
  have m19 := nV_fr q7.1 (k := 19) (by decide) q5.2.1
  have F6 : frS [0, 1, 2, 3, 4, 5, 6, 7, 8, 9, 10, 19, 20] σ σ_6 := frS_tr (frS_mono q2.1 (sub_of rfl)) (frS_tr (frS_mono (frS_of q5.1) (sub_of rfl)) (frS_mono (frS_of q7.1) (sub_of rfl)))
  refine sumWeights_c hC s ?_ (fun σ_8 q9 => ?_)
  · clear h; exact ⟨pOK_S hO F6, by rw [F6.1 70 (by decide)]; exact hs, fun k hk => vOK_f (F6.2.2.1 102 (by decide) (by decide)) (hv k hk), fun z => absurd rfl z⟩  -- p4
  rw [swQ_S F6] at q9
  have L8 := siS_L hO hs hv (by decide) (siS_gr F6 q9.2)
  have z4 := hS_ne q9.2.1 hne
  have v19 := nV_frS q9.1 (k := 19) (by decide) m19.1
  have v20 := nV_frS q9.1 (k := 20) (by decide) q7.2.1
  have l19 : nL σ_8 19 ≤ 18 * s + 1 + 20 := by have := L1.2.2.2.2.1; have := v19.2.2; have := m19.2.2; have := q5.2.2.2; omega
  have l20 : nL σ_8 20 ≤ 18 * s + 1 := by have := L1.2.2.2.1; have := v20.2.2; have := q7.2.2.2; have := n5.2.2; omega
  have p20' : 0 < nV σ_8 20 := by rw [v20.2.1, q7.2.2.1, n5.2.1]; exact L1.2.2.1
  refine times_c hC  ?_ (fun σ_10 q11 => ?_)
  · clear h; simp only [kn, kn2]
    exact ⟨by decide, by decide, by decide, by decide, by decide, by decide, by decide, by decide, v19.1, L8.2.1, by have := L8.2.2.2.1; omega⟩
  simp only [kn, kn2] at q11
  have w20 := nV_fr q11.1 (k := 20) (by decide) v20.1
  have w4 := nV_fr q11.1 (k := 4) (by decide) L8.1
  refine times_c hC  ?_ (fun σ_12 q13 => ?_)
  · clear h; simp only [kn, kn2]
    exact ⟨by decide, by decide, by decide, by decide, by decide, by decide, by decide, by decide, w20.1, w4.1, by have := L8.2.2.2.2.1; have := w20.2.2; have := w4.2.2; omega⟩
  simp only [kn, kn2] at q13
  have x8 := nV_fr q13.1 (k := 8) (by decide) q11.2.1
  refine copy_v hC  ?_ (fun σ_14 q15 => ?_)
  · clear h; simp only [kn, kn2]; exact ⟨by decide, by decide, by decide, by decide, by decide, x8.1⟩  -- p7
  simp only [kn, kn2] at q15
  have x9 := nV_fr q15.1 (k := 9) (by decide) q13.2.1
  refine copy_v hC  ?_ (fun σ_16 q17 => ?_)
  · clear h; simp only [kn, kn2]; exact ⟨by decide, by decide, by decide, by decide, by decide, x9.1⟩  -- p8
  simp only [kn, kn2] at q17
  have x4 := nV_fr q17.1 (k := 4) (by decide) q15.2.1
  refine reduce_c hC  ?_ (fun σ_18 q19 => ?_)
  · clear h; simp only [kn, kn2]
    refine ⟨by decide, by decide, by decide, by decide, by decide, x4.1, q17.2.1, ?_, ?_, ?_⟩
    · rw [q17.2.2.1, x9.2.1, q13.2.2.1, w20.2.1, w4.2.1]
      exact Nat.mul_pos p20' z4
    · have := x4.2.2; have := q15.2.2.2; have := x8.2.2; have := q11.2.2.2; have := L8.2.2.2.1; omega
    · have := q17.2.2.2; have := x9.2.2; have := q13.2.2.2; have := w20.2.2; have := w4.2.2; have := L8.2.2.2.2.1; omega
  intro σ_20 hσ_20
  refine h _ ?_
  · clear h; simp only [kn, kn2] at q19
    have F8 := frS_tr F6 (frS_mono q9.1 (sub_of rfl))
    have F18 : frS [0, 1, 2, 3, 4, 5, 6, 7, 8, 9, 10, 19, 20] σ σ_18 := frS_tr F8 (frS_tr (frS_mono (frS_of q11.1) (sub_of rfl)) (frS_tr (frS_mono (frS_of q13.1) (sub_of rfl)) (frS_tr (frS_mono (frS_of q15.1) (sub_of rfl)) (frS_tr (frS_mono (frS_of q17.1) (sub_of rfl)) (frS_mono (frS_of q19.1) (sub_of rfl))))))
    rw [hσ_20]
    refine ⟨frS_tr F18 frS_92, nV_92.2.1.mpr q19.2.1, nV_92.2.1.mpr q19.2.2.1, ?_⟩
    rw [hx3]
    exact L1.2.2.2.2.2

end
section
set_option maxHeartbeats 1600000
/-! the reference: worths kept and loaded -/
theorem keepWorth_c {C : rCx} (hC : cOK C)  {σ : rS} {a1 : Int32} {Q : rS → Prop} (hp : 0 ≤ a1 ∧ a1 < 1000 ∧ numO σ 4 ∧ numO σ 5) (h : ∀ (σ' : rS), (frR 117 (34 * a1.toNatClampNeg) (34 * a1.toNatClampNeg + 34) (riU σ 118 a1.toNatClampNeg (σ.1 92)) σ' ∧ (nL σ 4 ≤ 16 → slN σ' 117 (34 * a1.toNatClampNeg) 16 ∧ slV σ' 117 (34 * a1.toNatClampNeg) = nV σ 4) ∧ (nL σ 5 ≤ 16 → slN σ' 117 (34 * a1.toNatClampNeg + 17) 16 ∧ slV σ' 117 (34 * a1.toNatClampNeg + 17) = nV σ 5)) → Q σ') : cV C 0 m_keepWorth [.ref (co C), .int a1] σ Q := by
  refine m_keepWorth_run hC ?_
  unfold w_keepWorth_0
  obtain ⟨h0, h1, h4, h5⟩ := hp
  have v0 := vx0 h0 h1
  have v1 := vx1 h0 h1 (j := 17) (by decide) (by decide)
  have v2 : (34 * a1 + 17).toNatClampNeg = 34 * a1.toNatClampNeg + 17 := v1.2
  intro x1 hx1
  refine ⟨ib_1000.mpr ?_, ?_⟩
  · clear h; exact ⟨h0, h1⟩  -- b1
  intro σ_2 hσ_2
  refine ⟨ib_30.mpr ?_, ?_⟩
  · clear h; decide  -- b2
  refine ⟨ib_34000.mpr ?_, ?_⟩
  · clear h; rw [hx1]; exact v0.1  -- b3
  intro σ_3 hσ_3
  refine ⟨ib_30.mpr ?_, ?_⟩
  · clear h; decide  -- b4
  refine ⟨ib_34000.mpr ?_, ?_⟩
  · clear h; rw [hx1]; exact v1.1  -- b5
  intro σ_4 hσ_4
  unfold w_keepWorth_44
  refine ⟨fun n l2 l3 τ => n = (16 - l3).toNatClampNeg ∧ (l2 = 34 * a1 ∧ frR 117 (34 * a1.toNatClampNeg) (34 * a1.toNatClampNeg + 34) (riU σ 118 a1.toNatClampNeg (σ.1 92)) τ ∧ τ.2.2.1 117 (34 * a1.toNatClampNeg) = σ.2.2.1 91 4 ∧ τ.2.2.1 117 (34 * a1.toNatClampNeg + 17) = σ.2.2.1 91 5 ∧ 0 ≤ l3 ∧ l3 ≤ 16 ∧ cpI (σ.2.2.1 90) (τ.2.2.1 117) 160000 (34 * a1.toNatClampNeg + 1) (nL σ 4) l3.toNatClampNeg ∧ cpI (σ.2.2.1 90) (τ.2.2.1 117) 200000 (34 * a1.toNatClampNeg + 17 + 1) (nL σ 5) l3.toNatClampNeg), ⟨_, rfl, ?_⟩, ?_⟩
  · clear h; rw [hx1, v0.2, hσ_2] at hσ_3
    rw [hx1, v2] at hσ_4
    simp only [kn] at hσ_3 hσ_4
    refine ⟨hx1, frR_tr (τ := σ_3) (by rw [hσ_3]; exact frR_w (by omega) (by omega)) (by rw [hσ_4]; exact frR_w (by omega) (by omega)), ?_, ?_, by decide, by decide, fun i hi => absurd hi (Nat.not_lt_zero i), fun i hi => absurd hi (Nat.not_lt_zero i)⟩
    · rw [hσ_4, ri4, if_neg (by omega), hσ_3, ri4, if_pos rfl, ri3 (by decide)]
    · rw [hσ_4, ri4, if_pos rfl, hσ_3, ri3 (by decide), ri3 (by decide)]
  rintro n44 x44_2 x44_3 σ44 ⟨hn44, i44⟩
  have hj118 : ∀ (l2 : Int32) (l3 : Int32) (s1 : Int32) (s2 : Int32) (τ : rS), (l2 = 34 * a1 ∧ l3 = x44_3 ∧ ¬ 16 ≤ x44_3 ∧ s1 = 34 * a1 + 18 + x44_3 ∧ (x44_3.toNatClampNeg < nL σ 5 → s2 = σ.2.2.1 90 (200000 + x44_3.toNatClampNeg)) ∧ ∃ x, (x44_3.toNatClampNeg < nL σ 4 → x = σ.2.2.1 90 (160000 + x44_3.toNatClampNeg)) ∧ τ = riU σ44 117 (34 * a1.toNatClampNeg + 1 + x44_3.toNatClampNeg) x) → w_keepWorth_118 C Q (fun l2' l3' τ => ∃ k < n44, (fun n l2 l3 τ => n = (16 - l3).toNatClampNeg ∧ (l2 = 34 * a1 ∧ frR 117 (34 * a1.toNatClampNeg) (34 * a1.toNatClampNeg + 34) (riU σ 118 a1.toNatClampNeg (σ.1 92)) τ ∧ τ.2.2.1 117 (34 * a1.toNatClampNeg) = σ.2.2.1 91 4 ∧ τ.2.2.1 117 (34 * a1.toNatClampNeg + 17) = σ.2.2.1 91 5 ∧ 0 ≤ l3 ∧ l3 ≤ 16 ∧ cpI (σ.2.2.1 90) (τ.2.2.1 117) 160000 (34 * a1.toNatClampNeg + 1) (nL σ 4) l3.toNatClampNeg ∧ cpI (σ.2.2.1 90) (τ.2.2.1 117) 200000 (34 * a1.toNatClampNeg + 17 + 1) (nL σ 5) l3.toNatClampNeg)) k l2' l3' τ) l2 l3 s1 s2 τ := by
    rintro y118_2 y118_3 y118_s1 y118_s2 τ118 j118
    unfold w_keepWorth_118
    obtain ⟨e2, F, c0, c1, k0, k1, P, R⟩ := i44
    obtain ⟨f2, f3, fk, fs, fx, x, gx, ft⟩ := j118
    have w := v16 k0 fk
    have s := vx h0 h1 (j := 18) (by decide) k0 (by show 18 + _ < _; omega)
    have s2 : (34 * a1 + 18 + x44_3).toNatClampNeg = 34 * a1.toNatClampNeg + 17 + 1 + x44_3.toNatClampNeg := s.2
    refine ⟨ib_34000.mpr ?_, ?_⟩
    · clear h; rw [fs]; exact s.1  -- b7
    intro σ_5 hσ_5
    intro x6 hx6
    refine ⟨_, cn_lt2 hn44 ?_ ?_, rfl, ?_⟩
    · clear h; rw [hx6, f3]; exact w.2.2.2.1  -- d8
    · clear h; rw [hx6, f3]; exact w.2.2.2.2.1  -- d9
    · clear h; rw [fs, s2] at hσ_5
      have r1 : ∀ i, τ118.2.2.1 117 i = if i = 34 * a1.toNatClampNeg + 1 + x44_3.toNatClampNeg then x else σ44.2.2.1 117 i := fun i => by rw [ft, ri4]
      have r2 : ∀ i, σ_5.2.2.1 117 i = if i = 34 * a1.toNatClampNeg + 17 + 1 + x44_3.toNatClampNeg then y118_s2 else τ118.2.2.1 117 i := fun i => by rw [hσ_5, ri4]
      refine ⟨f2, frR_tr F (frR_tr (τ := τ118) (by rw [ft]; exact frR_w (by omega) (by omega)) (by rw [hσ_5]; exact frR_w (by omega) (by omega))), by rw [r2, if_neg (by omega), r1, if_neg (by omega)]; exact c0, by rw [r2, if_neg (by omega), r1, if_neg (by omega)]; exact c1, by rw [hx6, f3]; exact w.2.1, by rw [hx6, f3]; exact w.2.2.1, ?_, ?_⟩
      · rw [hx6, f3, w.2.2.2.2.2.1]
        exact cp_s P gx (by rw [r2, if_neg (by omega), r1, if_pos rfl]) (fun i hi => by rw [r2, if_neg (by omega), r1, if_neg (by omega)])
      · rw [hx6, f3, w.2.2.2.2.2.1]
        exact cp_s R fx (by rw [r2, if_pos rfl]) (fun i hi => by rw [r2, if_neg (by omega), r1, if_neg (by omega)])
  have hj83 : ∀ (l2 : Int32) (l3 : Int32) (s1 : Int32) (s2 : Int32) (τ : rS), (τ = σ44 ∧ l2 = 34 * a1 ∧ l3 = x44_3 ∧ ¬ 16 ≤ x44_3 ∧ s1 = 34 * a1 + 1 + x44_3 ∧ (x44_3.toNatClampNeg < nL σ 4 → s2 = σ.2.2.1 90 (160000 + x44_3.toNatClampNeg))) → w_keepWorth_83 C Q (fun l2' l3' τ => ∃ k < n44, (fun n l2 l3 τ => n = (16 - l3).toNatClampNeg ∧ (l2 = 34 * a1 ∧ frR 117 (34 * a1.toNatClampNeg) (34 * a1.toNatClampNeg + 34) (riU σ 118 a1.toNatClampNeg (σ.1 92)) τ ∧ τ.2.2.1 117 (34 * a1.toNatClampNeg) = σ.2.2.1 91 4 ∧ τ.2.2.1 117 (34 * a1.toNatClampNeg + 17) = σ.2.2.1 91 5 ∧ 0 ≤ l3 ∧ l3 ≤ 16 ∧ cpI (σ.2.2.1 90) (τ.2.2.1 117) 160000 (34 * a1.toNatClampNeg + 1) (nL σ 4) l3.toNatClampNeg ∧ cpI (σ.2.2.1 90) (τ.2.2.1 117) 200000 (34 * a1.toNatClampNeg + 17 + 1) (nL σ 5) l3.toNatClampNeg)) k l2' l3' τ) l2 l3 s1 s2 τ := by
    rintro y83_2 y83_3 y83_s1 y83_s2 τ83 j83
    unfold w_keepWorth_83
    obtain ⟨e2, F, c0, c1, k0, k1, P, R⟩ := i44
    obtain ⟨ft, f2, f3, fk, fs, fx⟩ := j83
    have w := v16 k0 fk
    have s := vx h0 h1 (j := 1) (by decide) k0 (by show 1 + _ < _; omega)
    have s2 : (34 * a1 + 1 + x44_3).toNatClampNeg = 34 * a1.toNatClampNeg + 1 + x44_3.toNatClampNeg := s.2
    refine ⟨ib_34000.mpr ?_, ?_⟩
    · clear h; rw [fs]; exact s.1  -- b11
    intro σ_7 hσ_7
    refine ⟨ib_30.mpr ?_, ?_⟩
    · clear h; decide  -- b12
    rw [fs, s2, ft] at hσ_7
    have r91 : σ_7.2.2.1 91 = σ.2.2.1 91 := by rw [hσ_7, ri3 (by decide)]; exact (F.2.2.1 91 (by decide)).trans (ri3 (by decide))
    have r90 : σ_7.2.2.1 90 = σ.2.2.1 90 := by rw [hσ_7, ri3 (by decide)]; exact (F.2.2.1 90 (by decide)).trans (ri3 (by decide))
    have lc := cn_li (x := σ.2.2.1 91 5) (y := x44_3) h5.1 k0
    have bc := bxc (c := 200000) (by decide) (by decide) k0 w.1
    refine ⟨fun c8 => ?_, fun c8 => ?_⟩
    · skip
      refine hj118 _ _ _ _ _ ?_
      · clear h; simp only [kn] at c8
        rw [r91, f3, lc] at c8
        exact ⟨f2, f3, fk, by rw [f2, f3], fun z => absurd z (Nat.not_lt.mpr c8), _, fx, hσ_7⟩
    · skip
      refine ⟨ib_1200000.mpr ?_, ?_⟩
      · clear h; rw [f3]; exact bc.1  -- b14
      refine hj118 _ _ _ _ _ ?_
      · clear h; refine ⟨f2, f3, fk, by rw [f2, f3], fun _ => ?_, _, fx, hσ_7⟩
        rw [f3, bc.2, r90, kc.2.1]
  obtain ⟨e2, F, c0, c1, k0, k1, P, R⟩ := i44
  have r91 : σ44.2.2.1 91 = σ.2.2.1 91 := (F.2.2.1 91 (by decide)).trans (ri3 (by decide))
  have r90 : σ44.2.2.1 90 = σ.2.2.1 90 := (F.2.2.1 90 (by decide)).trans (ri3 (by decide))
  refine ⟨fun c9 => ?_, fun c9 => ?_⟩
  · skip
    refine h _ ?_
    · clear h; have n16 := (cn_li (x := 16) (by decide) k0).mp c9
      rw [show (16 : Int32).toNatClampNeg = 16 from rfl] at n16
      refine ⟨F, fun l => ?_, fun l => ?_⟩
      · exact gO_c (m := 40000) (o := 160000) h4 c0 (nl16 h4 l) (fun i hi => P i (by have z : i < nL σ 4 := hi; omega) hi)
      · exact gO_c (m := 40000) (o := 200000) h5 c1 (nl16 h5 l) (fun i hi => R i (by have z : i < nL σ 5 := hi; omega) hi)
  · skip
    have w := v16 k0 c9
    have lc := cn_li (x := σ.2.2.1 91 4) (y := x44_3) h4.1 k0
    have bc := bxc (c := 160000) (by decide) (by decide) k0 w.1
    refine ⟨ib_30.mpr ?_, ?_⟩
    · clear h; decide  -- b17
    refine ⟨fun c10 => ?_, fun c10 => ?_⟩
    · skip
      refine hj83 _ _ _ _ _ ?_
      · clear h; simp only [kn] at c10
        rw [r91, lc] at c10
        exact ⟨rfl, e2, rfl, c9, by rw [e2], fun z => absurd z (Nat.not_lt.mpr c10)⟩
    · skip
      refine ⟨ib_1200000.mpr ?_, ?_⟩
      · clear h; exact bc.1  -- b19
      refine hj83 _ _ _ _ _ ?_
      · clear h; refine ⟨rfl, e2, rfl, c9, by rw [e2], fun _ => ?_⟩
        rw [bc.2, r90, kc.1]

theorem loadWorth_c {C : rCx} (hC : cOK C)  {σ : rS} {a1 : Nat} {a2 : Int32} {Q : rS → Prop} (hp : (a1 = 115 ∨ a1 = 117) ∧ 0 ≤ a2 ∧ a2 < 1000 ∧ slN σ a1 (34 * a2.toNatClampNeg) 16 ∧ slN σ a1 (34 * a2.toNatClampNeg + 17) 16) (h : ∀ (σ' : rS), (frN [6, 7] σ σ' ∧ numO σ' 6 ∧ numO σ' 7 ∧ nV σ' 6 = slV σ a1 (34 * a2.toNatClampNeg) ∧ nV σ' 7 = slV σ a1 (34 * a2.toNatClampNeg + 17) ∧ nL σ' 6 ≤ 16 ∧ nL σ' 7 ≤ 16) → Q σ') : cV C 0 m_loadWorth [.ref (co C), .ref (cad C a1), .int a2] σ Q := by
  refine m_loadWorth_run hC ?_
  unfold w_loadWorth_0
  obtain ⟨hr, h0, h1, hn, hd⟩ := hp
  have n90 : a1 ≠ 90 := by omega
  have n91 : a1 ≠ 91 := by omega
  have hT : rT a1 = some (0, 34000) := by rcases hr with e | e <;> rw [e] <;> rfl
  have v0 := vx0 h0 h1
  have v1 := vx1 h0 h1 (j := 17) (by decide) (by decide)
  have v2 : (34 * a2 + 17).toNatClampNeg = 34 * a2.toNatClampNeg + 17 := v1.2
  have ln : (σ.2.2.1 a1 (34 * a2.toNatClampNeg)).toNatClampNeg ≤ 16 := (cn_li hn.1 (by decide)).mp hn.2.1
  have ld : (σ.2.2.1 a1 (34 * a2.toNatClampNeg + 17)).toNatClampNeg ≤ 16 := (cn_li hd.1 (by decide)).mp hd.2.1
  intro x1 hx1
  refine ⟨34000, ?_, ?_, ?_⟩
  · clear h; exact hT  -- t1
  · clear h; exact ib_34000.mpr (by rw [hx1]; exact v0.1)  -- b2
  refine ⟨ib_30.mpr ?_, ?_⟩
  · clear h; decide  -- b3
  intro σ_2 hσ_2
  refine ⟨34000, ?_, ?_, ?_⟩
  · clear h; exact hT  -- t4
  · clear h; exact ib_34000.mpr (by rw [hx1]; exact v1.1)  -- b5
  refine ⟨ib_30.mpr ?_, ?_⟩
  · clear h; decide  -- b6
  intro σ_3 hσ_3
  unfold w_loadWorth_31
  refine ⟨fun n l1 l3 l4 τ => n = (16 - l4).toNatClampNeg ∧ (l1 = a1 ∧ l3 = 34 * a2 ∧ frN [6, 7] σ τ ∧ τ.2.2.1 91 6 = σ.2.2.1 a1 (34 * a2.toNatClampNeg) ∧ τ.2.2.1 91 7 = σ.2.2.1 a1 (34 * a2.toNatClampNeg + 17) ∧ 0 ≤ l4 ∧ l4 ≤ 16 ∧ cpI (σ.2.2.1 a1) (τ.2.2.1 90) (34 * a2.toNatClampNeg + 1) 240000 16 l4.toNatClampNeg ∧ cpI (σ.2.2.1 a1) (τ.2.2.1 90) (34 * a2.toNatClampNeg + 17 + 1) 280000 16 l4.toNatClampNeg), ⟨_, rfl, ?_⟩, ?_⟩
  · clear h; rw [hx1, v0.2] at hσ_2
    rw [hx1, v2] at hσ_3
    simp only [kn] at hσ_2 hσ_3
    refine ⟨rfl, hx1, frN_tr (τ := σ_2) (frN_mono (l := [6]) (by rw [hσ_2]; exact frN_91) (sub_of rfl)) (frN_mono (l := [7]) (by rw [hσ_3]; exact frN_91) (sub_of rfl)), ?_, ?_, by decide, by decide, fun i hi => absurd hi (Nat.not_lt_zero i), fun i hi => absurd hi (Nat.not_lt_zero i)⟩
    · rw [hσ_3, ri4, if_neg (by decide), hσ_2, ri4, if_pos rfl]
    · rw [hσ_3, ri4, if_pos rfl, hσ_2, ri3 n91]
  rintro n31 x31_1 x31_3 x31_4 σ31 ⟨hn31, i31⟩
  obtain ⟨e1, e2, F, c0, c1, k0, k1, P, R⟩ := i31
  have tRow : σ31.2.2.1 a1 = σ.2.2.1 a1 := F.2.2.1 a1 n90 n91
  refine ⟨fun c4 => ?_, fun c4 => ?_⟩
  · skip
    refine h _ ?_
    · clear h; have n16 := (cn_li (x := 16) (by decide) k0).mp c4
      rw [show (16 : Int32).toNatClampNeg = 16 from rfl] at n16
      have N := gO_c (m' := 40000) (p := 240000) hn c0 (Int32.le_trans hn.2.1 (by decide)) (fun i hi => P i (by omega) (by omega))
      have D := gO_c (m' := 40000) (p := 280000) hd c1 (Int32.le_trans hd.2.1 (by decide)) (fun i hi => R i (by omega) (by omega))
      refine ⟨F, N.1, D.1, N.2, D.2, ?_, ?_⟩
      · show (σ31.2.2.1 91 6).toNatClampNeg ≤ 16
        rw [c0]; exact ln
      · show (σ31.2.2.1 91 7).toNatClampNeg ≤ 16
        rw [c1]; exact ld
  · skip
    have w := v16 k0 c4
    have s := vx h0 h1 (j := 1) (by decide) k0 (by show 1 + _ < _; omega)
    have s2 : (34 * a2 + 1 + x31_4).toNatClampNeg = 34 * a2.toNatClampNeg + 1 + x31_4.toNatClampNeg := s.2
    have s' := vx h0 h1 (j := 18) (by decide) k0 (by show 18 + _ < _; omega)
    have s3 : (34 * a2 + 18 + x31_4).toNatClampNeg = 34 * a2.toNatClampNeg + 17 + 1 + x31_4.toNatClampNeg := s'.2
    have bc := bxc (c := 240000) (by decide) (by decide) k0 w.1
    have bd := bxc (c := 280000) (by decide) (by decide) k0 w.1
    have b2 : (240000 + x31_4).toNatClampNeg = 40000 * 6 + x31_4.toNatClampNeg := bc.2
    have b3 : (280000 + x31_4).toNatClampNeg = 40000 * 7 + x31_4.toNatClampNeg := bd.2
    refine ⟨34000, ?_, ?_, ?_⟩
    · clear h; rw [e1]; exact hT  -- t9
    · clear h; exact ib_34000.mpr (by rw [e2]; exact s.1)  -- b10
    refine ⟨ib_1200000.mpr ?_, ?_⟩
    · clear h; exact bc.1  -- b11
    intro σ_5 hσ_5
    refine ⟨34000, ?_, ?_, ?_⟩
    · clear h; rw [e1]; exact hT  -- t12
    · clear h; exact ib_34000.mpr (by rw [e2]; exact s'.1)  -- b13
    refine ⟨ib_1200000.mpr ?_, ?_⟩
    · clear h; exact bd.1  -- b14
    intro σ_6 hσ_6
    intro x7 hx7
    refine ⟨_, cn_lt2 hn31 ?_ ?_, rfl, ?_⟩
    · clear h; rw [hx7]; exact w.2.2.2.1  -- d15
    · clear h; rw [hx7]; exact w.2.2.2.2.1  -- d16
    · clear h; rw [b2, e2, s2, e1, tRow] at hσ_5
      have uRow : σ_5.2.2.1 a1 = σ.2.2.1 a1 := by rw [hσ_5, ri3 n90]; exact tRow
      rw [b3, e2, s3, e1, uRow] at hσ_6
      have r1 : ∀ i, σ_5.2.2.1 90 i = if i = 40000 * 6 + x31_4.toNatClampNeg then σ.2.2.1 a1 (34 * a2.toNatClampNeg + 1 + x31_4.toNatClampNeg) else σ31.2.2.1 90 i := fun i => by rw [hσ_5, ri4]
      have r2 : ∀ i, σ_6.2.2.1 90 i = if i = 40000 * 7 + x31_4.toNatClampNeg then σ.2.2.1 a1 (34 * a2.toNatClampNeg + 17 + 1 + x31_4.toNatClampNeg) else σ_5.2.2.1 90 i := fun i => by rw [hσ_6, ri4]
      have r91 : σ_6.2.2.1 91 = σ31.2.2.1 91 := by rw [hσ_6, ri3 (by decide), hσ_5, ri3 (by decide)]
      refine ⟨e1, e2, frN_tr F (frN_tr (τ := σ_5) (frN_mono (l := [6]) (by rw [hσ_5]; exact frN_90 (by omega)) (sub_of rfl)) (frN_mono (l := [7]) (by rw [hσ_6]; exact frN_90 (by omega)) (sub_of rfl))), by rw [r91]; exact c0, by rw [r91]; exact c1, by rw [hx7]; exact w.2.1, by rw [hx7]; exact w.2.2.1, ?_, ?_⟩
      · rw [hx7, w.2.2.2.2.2.1]
        exact cp_s P (fun _ => rfl) (by rw [r2, if_neg (by omega), r1, if_pos (by omega)]) (fun i hi => by rw [r2, if_neg (by omega), r1, if_neg (by omega)])
      · rw [hx7, w.2.2.2.2.2.1]
        exact cp_s R (fun _ => rfl) (by rw [r2, if_pos (by omega)]) (fun i hi => by rw [r2, if_neg (by omega), r1, if_neg (by omega)])

end
section
set_option maxHeartbeats 1600000
/-! the reference: the worth of a state -/
def wkO (σ : rS) (r q k : Nat) : Prop := slN σ r (34 * k) 16 ∧ slN σ r (34 * k + 17) 16 ∧ 0 < slV σ r (34 * k + 17) ∧ (σ.2.2.1 q k = 1 ∨ σ.2.2.1 q k = -1)
def nxW (σ : rS) (i : Int32) : Prop := σ.2.2.1 77 i.toNatClampNeg = 0 → wkO σ 117 118 (σ.2.2.1 78 i.toNatClampNeg).toNatClampNeg
def wD (σ : rS) (k : Nat) : Nat := if σ.2.2.1 96 k = 0 then 1 else slV σ 117 (34 * k + 17)
theorem wkO_f {σ τ : rS} {r q k : Nat} (h1 : τ.2.2.1 r = σ.2.2.1 r) (h2 : τ.2.2.1 q = σ.2.2.1 q) (h : wkO σ r q k) : wkO τ r q k := by
  unfold wkO at *
  rw [(sl_f (m := 16) h1).2, (sl_f (m := 16) h1).2, (sl_f (m := 16) h1).1, h2]
  exact h
theorem nxW_f {σ τ : rS} {i : Int32} (h77 : τ.2.2.1 77 = σ.2.2.1 77) (h78 : τ.2.2.1 78 = σ.2.2.1 78) (h1 : τ.2.2.1 117 = σ.2.2.1 117) (h2 : τ.2.2.1 118 = σ.2.2.1 118) (h : nxW σ i) : nxW τ i := by
  unfold nxW at *
  rw [h77, h78]
  exact fun z => wkO_f h1 h2 (h z)
theorem frN_S {l : List Nat} {σ τ : rS} (h : frS l σ τ) (e : τ.1 = σ.1) : frN l σ τ := ⟨e, h.2⟩
/-- a sum with its sign and a bound for its denominator -/
def siG (M : Nat) (τ : rS) (c : Nat) (S : Rat) : Prop := hS τ S ∧ S ≤ ((c * wB : Nat) : Rat) ∧ -S ≤ ((c * wB : Nat) : Rat) ∧ S.den ∣ M
theorem siG_L {M a : Nat} {τ : rS} {c : Nat} {S : Rat} (M0 : 0 < M) (hM : M < 65536 ^ a) (hc : c ≤ 200000) (J : siG M τ c S) : numO τ 4 ∧ numO τ 5 ∧ 0 < nV τ 5 ∧ nL τ 5 ≤ a ∧ nL τ 4 ≤ a + 20 ∧ (τ.1 92 = 1 ∨ τ.1 92 = -1) := by
  obtain ⟨a1, a2, a3, a4⟩ := J
  obtain ⟨q, hq, b1, b2, b3⟩ := hS_abs a1 a2 a3
  have p := pl_of (b := 20) hq M0 (by rw [b2]; exact a4) hM (Rat.le_trans b1 (Rat.natCast_le_natCast.mpr (cW_le hc)))
  exact ⟨hq.1, hq.2.1, (hR_q hq).2, p.1, p.2, b3⟩
theorem siG_mono {M : Nat} {τ : rS} {c d : Nat} {S : Rat} (h : siG M τ c S) (hc : c ≤ d) : siG M τ d S := by
  have z : ((c * wB : Nat) : Rat) ≤ ((d * wB : Nat) : Rat) := Rat.natCast_le_natCast.mpr (Nat.mul_le_mul_right _ hc)
  exact ⟨h.1, Rat.le_trans h.2.1 z, Rat.le_trans h.2.2.1 z, h.2.2.2⟩
theorem siG_N {l : List Nat} {M : Nat} {τ υ : rS} {c : Nat} {S : Rat} (f : frN l τ υ) (h4 : 4 ∉ l) (h5 : 5 ∉ l) (h : siG M τ c S) : siG M υ c S := ⟨hS_N f h4 h5 h.1, h.2⟩
theorem siG_0 {M : Nat} {τ : rS} (h : hS τ 0) : siG M τ 0 0 := ⟨h, by rw [Nat.zero_mul]; exact Rat.le_refl, by rw [Nat.zero_mul]; exact Rat.le_refl, Nat.one_dvd _⟩
theorem hS_addy {σ : rS} {p : Rat} {x : Int32} (h : hS σ p) : sgq (σ.1 92) (fQ σ 4 5) + sgq x (fQ σ 6 7) = p + sgq x (fQ σ 6 7) := by
  obtain ⟨r, hr, w⟩ := h
  rw [(hR_q hr).1]
  rcases w with z | z
  · rw [z.1, z.2, sgq_1]
  · rw [z.1, z.2, sgq_m]
theorem siG_add {M a : Nat} {τ : rS} {c : Nat} {S : Rat} {x : Int32} (hx : x = 1 ∨ x = -1) (M0 : 0 < M) (hM : M < 65536 ^ a) (ha : a ≤ 39000) (hc : c ≤ 100000) (J : siG M τ c S) (o6 : numO τ 6) (o7 : numO τ 7) (p7 : 0 < nV τ 7) (l6 : nL τ 6 ≤ 400) (l7 : nL τ 7 ≤ 400) (hq : fQ τ 6 7 ≤ (wB : Rat)) (hd : (fQ τ 6 7).den ∣ M) : ((x = 1 ∨ x = -1) ∧ (τ.1 92 = 1 ∨ τ.1 92 = -1) ∧ numO τ 4 ∧ numO τ 5 ∧ numO τ 6 ∧ numO τ 7 ∧ 0 < nV τ 5 ∧ 0 < nV τ 7 ∧ nL τ 4 + nL τ 7 + 3 < 40000 ∧ nL τ 6 + nL τ 5 + 3 < 40000 ∧ nL τ 5 + nL τ 7 + 3 < 40000) ∧ ∀ υ : rS, hS υ (sgq (τ.1 92) (fQ τ 4 5) + sgq x (fQ τ 6 7)) → siG M υ (c + 1) (S + sgq x (fQ τ 6 7)) := by
  have L := siG_L M0 hM (by omega) J
  obtain ⟨a1, a2, a3, a4⟩ := J
  have q0 : 0 ≤ fQ τ 6 7 := mk_nn p7 (by omega)
  have sb := sgq_b (x := x) q0 hq
  refine ⟨⟨hx, L.2.2.2.2.2, L.1, L.2.1, o6, o7, L.2.2.1, p7, by omega, by omega, by omega⟩, fun υ hυ => ⟨?_, ?_, ?_, ?_⟩⟩
  · rwa [hS_addy a1] at hυ
  · rw [Nat.add_mul, Nat.one_mul, Rat.natCast_add]
    have z1 := sb.1
    grind
  · rw [Nat.add_mul, Nat.one_mul, Rat.natCast_add]
    have z1 := sb.2.1
    grind
  · exact den_add a4 (by rw [sb.2.2]; exact hd) (by omega)
theorem nV_lt {σ : rS} {r k : Nat} (h : numO σ r) (hl : nL σ r ≤ k) : nV σ r < 65536 ^ k := Nat.lt_of_lt_of_le (dv_lt h.2.2.1) (Nat.pow_le_pow_right (by decide) hl)
theorem p16_wB : ((65536 ^ 16 : Nat) : Rat) ≤ (wB : Rat) := Rat.natCast_le_natCast.mpr (by unfold wB; exact Nat.le_mul_of_pos_right _ (Nat.pow_pos (by decide)))
theorem fQ_b {σ : rS} (o6 : numO σ 6) (p7 : 0 < nV σ 7) (l6 : nL σ 6 ≤ 16) : 0 ≤ fQ σ 6 7 ∧ fQ σ 6 7 ≤ ((65536 ^ 16 : Nat) : Rat) ∧ (fQ σ 6 7).den ∣ nV σ 7 := by
  unfold fQ
  exact ⟨mk_nn p7 (by omega), Rat.le_trans (q_le mk_num) (Rat.natCast_le_natCast.mpr (Nat.le_of_lt (nV_lt o6 l6))), den_mk (by omega)⟩
theorem loadNext_c {C : rCx} (hC : cOK C)  {σ : rS} {a1 : Int32} {Q : Int32 → rS → Prop} (hp : exO σ ∧ 0 ≤ a1 ∧ a1 < σ.1 72 ∧ nxW σ a1) (h : ∀ (v : Int32) (σ' : rS), (frN [6, 7] σ σ' ∧ numO σ' 6 ∧ numO σ' 7 ∧ 0 < nV σ' 7 ∧ nL σ' 6 ≤ 16 ∧ nL σ' 7 ≤ 16 ∧ (v = 1 ∨ v = -1) ∧ (σ.2.2.1 77 a1.toNatClampNeg ≠ 0 → nV σ' 7 = 1) ∧ (σ.2.2.1 77 a1.toNatClampNeg = 0 → nV σ' 7 = slV σ 117 (34 * (σ.2.2.1 78 a1.toNatClampNeg).toNatClampNeg + 17))) → Q v σ') : cI C 1 m_loadNext [.ref (co C), .int a1] σ Q := by
  refine m_loadNext_run hC ?_
  unfold w_loadNext_0
  obtain ⟨hO, h0, h1, hw⟩ := hp
  have k1 := Int32.lt_of_lt_of_le h1 hO.2.2.1.2
  have nx := hO.2.2.2.2 _ (cn_lt h0 h1)
  refine ⟨ib_20000.mpr ?_, ?_⟩
  · clear h; exact ⟨h0, k1⟩  -- b1
  refine ⟨fun c1 => ?_, fun c1 => ?_⟩
  · skip
    refine set_c hC  ?_ (fun σ_2 q3 => ?_)
    · clear h; exact ⟨by decide, by decide, by decide⟩  -- p2
    simp only [kn] at q3
    refine set_c hC  ?_ (fun σ_4 q5 => ?_)
    · clear h; exact ⟨by decide, by decide, by decide⟩  -- p3
    simp only [kn] at q5
    have g6 := nV_fr q5.1 (k := 6) (by decide) q3.2.1
    refine h _ _ ?_
    · clear h; exact ⟨frN_tr (frN_mono q3.1 (sub_of rfl)) (frN_mono q5.1 (sub_of rfl)), g6.1, q5.2.1, by rw [q5.2.2.1]; decide, by have := g6.2.2; have := q3.2.2.2; omega, by have := q5.2.2.2; omega, Or.inl rfl, fun _ => by rw [q5.2.2.1]; rfl, fun z => absurd z c1⟩  -- q4
  · skip
    refine ⟨ib_20000.mpr ?_, ?_⟩
    · clear h; exact ⟨h0, k1⟩  -- b5
    have q := nx.2.1 c1
    have W := hw c1
    have q1 := Int32.lt_of_lt_of_le q.2 hO.1.2
    refine loadWorth_c hC  ?_ (fun σ_6 q7 => ?_)
    · clear h; exact ⟨Or.inr rfl, q.1, q1, W.1, W.2.1⟩  -- p6
    refine ⟨ib_20000.mpr ?_, ?_⟩
    · clear h; exact ⟨h0, k1⟩  -- b7
    refine ⟨ib_1000.mpr ?_, ?_⟩
    · clear h; rw [q7.1.2.2.1 78 (by decide) (by decide)]; exact ⟨q.1, q1⟩  -- b8
    refine h _ _ ?_
    · clear h; rw [q7.1.2.2.1 78 (by decide) (by decide), q7.1.2.2.1 118 (by decide) (by decide)]
      exact ⟨q7.1, q7.2.1, q7.2.2.1, by rw [q7.2.2.2.2.1]; exact W.2.2.1, q7.2.2.2.2.2.1, q7.2.2.2.2.2.2, W.2.2.2, fun z => absurd c1 z, fun _ => q7.2.2.2.2.1⟩

theorem isWorthDone_c {C : rCx} (hC : cOK C)  {σ : rS} {a1 : Int32} {Q : Int32 → rS → Prop} (hp : exO σ ∧ 0 ≤ a1 ∧ a1 < σ.1 70) (h : ∀ (v : Int32), (nb v ∧ (v ≠ 0 ↔ ∀ i : Int32, σ.2.2.1 76 a1.toNatClampNeg ≤ i → i < σ.2.2.1 76 (a1.toNatClampNeg + 1) → σ.2.2.1 77 i.toNatClampNeg = 0 → σ.2.2.1 96 (σ.2.2.1 78 i.toNatClampNeg).toNatClampNeg ≠ 0)) → Q v σ) : cI C 0 m_isWorthDone [.ref (co C), .int a1] σ Q := by
  refine m_isWorthDone_run hC ?_
  unfold w_isWorthDone_0
  obtain ⟨hO, h0, h1⟩ := hp
  have k1 := Int32.lt_of_lt_of_le h1 hO.1.2
  have st := ex_st hO h0 h1
  have hi2 := Int32.le_trans st.2.2.1 hO.2.2.1.2
  refine ⟨ib_1001.mpr ?_, ?_⟩
  · clear h; exact ⟨h0, Int32.lt_trans k1 (by decide)⟩  -- b1
  intro x1 hx1
  unfold w_isWorthDone_9
  refine ⟨fun n l1 l2 l3 τ => n = (σ.2.2.1 76 (a1.toNatClampNeg + 1) - l3).toNatClampNeg ∧ (σ = τ ∧ l1 = a1 ∧ nb l2 ∧ σ.2.2.1 76 a1.toNatClampNeg ≤ l3 ∧ l3 ≤ σ.2.2.1 76 (a1.toNatClampNeg + 1) ∧ (l2 ≠ 0 ↔ ∀ i : Int32, σ.2.2.1 76 a1.toNatClampNeg ≤ i → i < l3 → σ.2.2.1 77 i.toNatClampNeg = 0 → σ.2.2.1 96 (σ.2.2.1 78 i.toNatClampNeg).toNatClampNeg ≠ 0)), ⟨_, rfl, ?_⟩, ?_⟩
  · clear h; rw [hx1]
    exact ⟨rfl, rfl, nb_1, Int32.le_refl _, st.2.1, fun _ i i1 i2 => absurd i2 (Int32.not_lt.mpr i1), fun _ => by decide⟩
  rintro n9 x9_1 x9_2 x9_3 _ ⟨hn9, rfl, i9⟩
  have hj53 : ∀ (l1 : Int32) (l3 : Int32) (s0 : Int32) (τ : rS), (σ = τ ∧ l1 = a1 ∧ l3 = x9_3 ∧ ¬ σ.2.2.1 76 (a1.toNatClampNeg + 1) ≤ x9_3 ∧ nb s0 ∧ (s0 ≠ 0 ↔ x9_2 ≠ 0 ∧ (σ.2.2.1 77 x9_3.toNatClampNeg = 0 → σ.2.2.1 96 (σ.2.2.1 78 x9_3.toNatClampNeg).toNatClampNeg ≠ 0))) → w_isWorthDone_53 C Q (fun l1' l2' l3' τ => ∃ k < n9, (fun n l1 l2 l3 τ => n = (σ.2.2.1 76 (a1.toNatClampNeg + 1) - l3).toNatClampNeg ∧ (σ = τ ∧ l1 = a1 ∧ nb l2 ∧ σ.2.2.1 76 a1.toNatClampNeg ≤ l3 ∧ l3 ≤ σ.2.2.1 76 (a1.toNatClampNeg + 1) ∧ (l2 ≠ 0 ↔ ∀ i : Int32, σ.2.2.1 76 a1.toNatClampNeg ≤ i → i < l3 → σ.2.2.1 77 i.toNatClampNeg = 0 → σ.2.2.1 96 (σ.2.2.1 78 i.toNatClampNeg).toNatClampNeg ≠ 0))) k l1' l2' l3' τ) l1 l3 s0 τ := by
    rintro y53_1 y53_3 y53_s0 _ ⟨rfl, j53⟩
    unfold w_isWorthDone_53
    intro x2 hx2
    obtain ⟨e1, g1, g2, g3, g4⟩ := i9
    obtain ⟨y1, y3, y4, y5, y6⟩ := j53
    have i0 := Int32.le_trans st.1.1 g2
    have z := u2 i0 y4 hi2
    refine ⟨_, cn_lt2 hn9 ?_ ?_, rfl, ?_⟩
    · clear h; rw [hx2, y3]; exact z.1  -- d3
    · clear h; rw [hx2, y3]; exact z.2.1  -- d4
    · clear h; rw [hx2, y3]
      refine ⟨rfl, y1, y5, Int32.le_trans g2 z.2.2.2.1, z.2.2.2.2.1, ?_⟩
      rw [y6, g4]
      constructor
      · intro q i i1 i2
        rcases i_sp i0 z.2.2.2.2.2.2 i2 with e | e
        · rw [e]; exact q.2
        · exact q.1 i i1 e
      · intro q
        exact ⟨fun i i1 i2 => q i i1 (Int32.lt_of_lt_of_le i2 z.2.2.2.1), q x9_3 g2 (by have := z.2.2.2.1; have w := z.2.2.2.2.2.2; grind)⟩
  obtain ⟨e1, g1, g2, g3, g4⟩ := i9
  have i0 := Int32.le_trans st.1.1 g2
  rw [e1, st.2.2.2.1]
  refine ⟨ib_1001.mpr ?_, ?_⟩
  · clear h; exact ⟨st.2.2.2.2.2.1, st.2.2.2.2.2.2⟩  -- b6
  refine ⟨fun c3 => ?_, fun c3 => ?_⟩
  · skip
    refine ⟨?_, h _ ?_⟩
    · clear h; exact g1  -- b7
    · clear h; have e : x9_3 = σ.2.2.1 76 (a1.toNatClampNeg + 1) := Int32.le_antisymm g3 c3
      rw [e] at g4
      exact ⟨g1, g4⟩
  · skip
    refine ⟨fun c4 => ?_, fun c4 => ?_⟩
    · skip
      refine hj53 _ _ _ _ ?_
      · clear h; exact ⟨rfl, rfl, rfl, c3, nb_0, fun z => absurd rfl z, fun z => absurd c4 z.1⟩  -- k9
    · skip
      have z := u2 i0 c3 hi2
      have l72 := Int32.lt_of_lt_of_le z.2.2.2.2.2.1 st.2.2.1
      refine ⟨ib_20000.mpr ?_, ?_⟩
      · clear h; exact ⟨i0, z.2.2.2.2.2.2⟩  -- b10
      refine ⟨fun c5 => ?_, fun c5 => ?_⟩
      · skip
        refine hj53 _ _ _ _ ?_
        · clear h; exact ⟨rfl, rfl, rfl, c3, nb_1, fun _ => ⟨c4, fun y => absurd y c5⟩, fun _ => by decide⟩  -- k11
      · skip
        refine ⟨ib_20000.mpr ?_, ?_⟩
        · clear h; exact ⟨i0, z.2.2.2.2.2.2⟩  -- b12
        refine ⟨ib_1000.mpr ?_, ?_⟩
        · clear h; have q := (hO.2.2.2.2 _ (cn_lt i0 l72)).2.1 c5
          exact ⟨q.1, Int32.lt_of_lt_of_le q.2 hO.1.2⟩
        refine ⟨fun c6 => ?_, fun c6 => ?_⟩
        · skip
          refine hj53 _ _ _ _ ?_
          · clear h; exact ⟨rfl, rfl, rfl, c3, nb_0, fun z => absurd rfl z, fun z => absurd c6 (z.2 c5)⟩  -- k14
        · skip
          refine hj53 _ _ _ _ ?_
          · clear h; exact ⟨rfl, rfl, rfl, c3, nb_1, fun _ => ⟨c4, fun _ => c6⟩, fun _ => by decide⟩  -- k15

theorem isGreater_c {C : rCx} (hC : cOK C)  {σ : rS} {a1 : Int32} {Q : Int32 → rS → Prop} (hp : exO σ ∧ 0 ≤ a1 ∧ a1 < σ.1 72 ∧ nxW σ a1 ∧ numO σ 4 ∧ numO σ 5 ∧ nL σ 4 ≤ 400 ∧ nL σ 5 ≤ 400) (h : ∀ (v : Int32) (σ' : rS), (frN [6, 7, 8, 9] σ σ' ∧ nb v) → Q v σ') : cI C 2 m_isGreater [.ref (co C), .int a1] σ Q := by
  refine m_isGreater_run hC ?_
  unfold w_isGreater_0
  obtain ⟨hO, h0, h1, hw, o4, o5, l4, l5⟩ := hp
  have hj37 : ∀ (l2 : Int32) (s0 : Int32) (τ : rS), (frN [6, 7, 8, 9] σ τ ∧ numO τ 6 ∧ numO τ 7 ∧ nL τ 6 ≤ 16 ∧ nL τ 7 ≤ 16) → w_isGreater_37 C Q  l2 s0 τ := by
    rintro y37_2 y37_s0 τ37 j37
    unfold w_isGreater_37
    obtain ⟨Y, o6, o7, l6, l7⟩ := j37
    have g4 := nV_fr Y (k := 4) (by decide) o4
    have g5 := nV_fr Y (k := 5) (by decide) o5
    refine ⟨fun c1 => ?_, fun c1 => ?_⟩
    · skip
      refine times_c hC  ?_ (fun σ_2 q3 => ?_)
      · clear h; simp only [kn]
        exact ⟨by decide, by decide, by decide, by decide, by decide, by decide, by decide, by decide, o6, g5.1, by have := g5.2.2; omega⟩
      simp only [kn] at q3
      have h4 := nV_fr q3.1 (k := 4) (by decide) g4.1
      have h7 := nV_fr q3.1 (k := 7) (by decide) o7
      refine times_c hC  ?_ (fun σ_4 q5 => ?_)
      · clear h; simp only [kn]
        exact ⟨by decide, by decide, by decide, by decide, by decide, by decide, by decide, by decide, h4.1, h7.1, by have := h4.2.2; have := g4.2.2; have := h7.2.2; omega⟩
      simp only [kn] at q5
      have h8 := nV_fr q5.1 (k := 8) (by decide) q3.2.1
      have F := frN_tr Y (frN_tr (frN_mono q3.1 (sub_of rfl)) (frN_mono q5.1 (sub_of rfl)))
      refine compare_c hC  ?_ (fun r6 q8 => ?_)
      · clear h; simp only [kn]; exact ⟨by decide, by decide, by decide, by decide, h8.1, q5.2.1⟩  -- p3
      refine ⟨fun c9 => ?_, fun c9 => ?_⟩
      · skip
        refine ⟨fun c10 => ?_, fun c10 => ?_⟩
        · skip
          refine h _ _ ?_
          · clear h; exact ⟨F, nb_0⟩  -- q4
        · skip
          refine h _ _ ?_
          · clear h; exact ⟨F, nb_1⟩  -- q5
      · skip
        refine ⟨fun c11 => ?_, fun c11 => ?_⟩
        · skip
          refine h _ _ ?_
          · clear h; exact ⟨F, nb_0⟩  -- q6
        · skip
          refine h _ _ ?_
          · clear h; exact ⟨F, nb_1⟩  -- q7
    · skip
      refine ⟨fun c12 => ?_, fun c12 => ?_⟩
      · skip
        refine h _ _ ?_
        · clear h; exact ⟨Y, nb_0⟩  -- q8
      · skip
        refine h _ _ ?_
        · clear h; exact ⟨Y, nb_1⟩  -- q9
  have hj20 : ∀ (s0 : Int32) (τ : rS), (frN [6, 7, 8, 9] σ τ ∧ numO τ 6 ∧ numO τ 7 ∧ nL τ 6 ≤ 16 ∧ nL τ 7 ≤ 16) → w_isGreater_20 C Q  s0 τ := by
    rintro y20_s0 τ20 j20
    unfold w_isGreater_20
    refine isZero_c hC  ?_ (fun r13 q15 => ?_)
    · clear h; exact ⟨by decide, by decide⟩  -- p10
    refine ⟨fun c16 => ?_, fun c16 => ?_⟩
    · skip
      refine hj37 _ _ _ ?_
      · clear h; exact j20  -- k11
    · skip
      refine hj37 _ _ _ ?_
      · clear h; exact j20  -- k12
  refine loadNext_c hC  ?_ (fun r17 σ_18 q19 => ?_)
  · clear h; exact ⟨hO, h0, h1, hw⟩  -- p13
  refine isZero_c hC  ?_ (fun r20 q22 => ?_)
  · clear h; exact ⟨by decide, by decide⟩  -- p14
  refine ⟨fun c23 => ?_, fun c23 => ?_⟩
  · skip
    refine hj20 _ _ ?_
    · clear h; exact ⟨frN_mono q19.1 (sub_of rfl), q19.2.1, q19.2.2.1, q19.2.2.2.2.1, q19.2.2.2.2.2.1⟩  -- k15
  · skip
    refine hj20 _ _ ?_
    · clear h; exact ⟨frN_mono q19.1 (sub_of rfl), q19.2.1, q19.2.2.1, q19.2.2.2.2.1, q19.2.2.2.2.2.1⟩  -- k16

theorem takeNext_c {C : rCx} (hC : cOK C)  {σ : rS} {a1 : Int32} {Q : rS → Prop} (hp : exO σ ∧ 0 ≤ a1 ∧ a1 < σ.1 72 ∧ nxW σ a1) (h : ∀ (σ' : rS), (frS [0, 1, 2, 3, 4, 5, 6, 7, 8, 9, 10] σ σ' ∧ numO σ' 4 ∧ numO σ' 5 ∧ 0 < nV σ' 5 ∧ nL σ' 4 ≤ 400 ∧ nL σ' 5 ≤ 400 ∧ (σ'.1 92 = 1 ∨ σ'.1 92 = -1)) → Q σ') : cV C 5 m_takeNext [.ref (co C), .int a1] σ Q := by
  refine m_takeNext_run hC ?_
  unfold w_takeNext_0
  obtain ⟨hO, h0, h1, hw⟩ := hp
  refine clearSum_c hC  (fun σ_1 q2 => ?_)
  refine loadNext_c hC  ?_ (fun r3 σ_4 q5 => ?_)
  · clear h; exact ⟨exO_o hO (fun k hk => q2.1.1 k (by omega)) (fun k hk => q2.1.2.2.1 k (by omega) (by omega)), h0, by rw [q2.1.1 72 (by decide)]; exact h1, nxW_f (q2.1.2.2.1 77 (by decide) (by decide)) (q2.1.2.2.1 78 (by decide) (by decide)) (q2.1.2.2.1 117 (by decide) (by decide)) (q2.1.2.2.1 118 (by decide) (by decide)) hw⟩  -- p1
  have fb := fQ_b q5.2.1 q5.2.2.2.1 q5.2.2.2.2.1
  have m7 := nV_lt q5.2.2.1 q5.2.2.2.2.2.1
  have A := siG_add (a := 16) (M := nV σ_4 7) (x := r3) q5.2.2.2.2.2.2.1 q5.2.2.2.1 m7 (by decide) (by decide) (siG_N q5.1 (by decide) (by decide) (siG_0 q2.2)) q5.2.1 q5.2.2.1 q5.2.2.2.1 (by have := q5.2.2.2.2.1; omega) (by have := q5.2.2.2.2.2.1; omega) (Rat.le_trans fb.2.1 p16_wB) fb.2.2
  refine add_c hC  ?_ (fun σ_6 q7 => ?_)
  · clear h; exact A.1  -- p2
  refine h _ ?_
  · clear h; have L := siG_L (a := 16) q5.2.2.2.1 m7 (by decide) (A.2 _ q7.2)
    exact ⟨frS_tr (frS_mono q2.1 (sub_of rfl)) (frS_tr (frS_mono (frS_of q5.1) (sub_of rfl)) (frS_mono q7.1 (sub_of rfl))), L.1, L.2.1, L.2.2.1, by have := L.2.2.2.2.1; omega, by have := L.2.2.2.1; omega, L.2.2.2.2.2⟩

end
section
set_option maxHeartbeats 1600000
/-! the reference: the worth of a state is found -/
def frZ (k : Nat) (σ τ : rS) : Prop := (∀ j, j ≠ 92 → τ.1 j = σ.1 j) ∧ τ.2.1 = σ.2.1 ∧ (∀ j, j ≠ 90 → j ≠ 91 → j ≠ 119 → τ.2.2.1 j = σ.2.2.1 j) ∧ τ.2.2.2 = σ.2.2.2 ∧ (∀ i, i ≠ k → τ.2.2.1 119 i = σ.2.2.1 119 i) ∧ nK σ τ
theorem frZ_tr {k : Nat} {σ τ υ : rS} (h : frZ k σ τ) (g : frZ k τ υ) : frZ k σ υ := ⟨fun j z => (g.1 j z).trans (h.1 j z), g.2.1.trans h.2.1, fun j z1 z2 z3 => (g.2.2.1 j z1 z2 z3).trans (h.2.2.1 j z1 z2 z3), g.2.2.2.1.trans h.2.2.2.1, fun i z => (g.2.2.2.2.1 i z).trans (h.2.2.2.2.1 i z), nK_tr h.2.2.2.2.2 g.2.2.2.2.2⟩
theorem frZ_S {k : Nat} {l : List Nat} {σ τ : rS} (h : frS l σ τ) (hl : ∀ k, k ∈ l → k ≤ 14 := by decide) : frZ k σ τ := ⟨h.1, h.2.1, fun j z1 z2 _ => h.2.2.1 j z1 z2, h.2.2.2.1, fun i _ => by rw [h.2.2.1 119 (by decide) (by decide)], nK_l h.2.2.2.2 hl⟩
theorem frZ_1 {k : Nat} {σ : rS} {x : Int32} : frZ k σ (riU σ 119 k x) := ⟨fun _ _ => rfl, rfl, fun _ _ _ z => ri3 z, rfl, fun i z => by rw [ri34, if_pos rfl, if_neg z], nK_r (ri3 (by decide)) (ri3 (by decide))⟩
theorem exO_Z {k : Nat} {σ τ : rS} (h : exO σ) (f : frZ k σ τ) : exO τ := exO_o h (fun k hk => f.1 k (by omega)) (fun k hk => f.2.2.1 k (by omega) (by omega) (by omega))
theorem nxW_Z {k : Nat} {σ τ : rS} {i : Int32} (f : frZ k σ τ) (h : nxW σ i) : nxW τ i := nxW_f (f.2.2.1 77 (by decide) (by decide) (by decide)) (f.2.2.1 78 (by decide) (by decide) (by decide)) (f.2.2.1 117 (by decide) (by decide) (by decide)) (f.2.2.1 118 (by decide) (by decide) (by decide)) h
theorem wD_b {σ : rS} {s k : Nat} (hw : ∀ k, k < s → σ.2.2.1 96 k ≠ 0 → wkO σ 117 118 k) (hk : k < s) : 0 < wD σ k ∧ wD σ k ≤ 65536 ^ 16 := by
  unfold wD
  split
  · exact ⟨by decide, Nat.one_le_pow _ _ (by decide)⟩
  · rename_i e
    have w := hw k hk e
    exact ⟨w.2.2.1, Nat.le_of_lt (sl_lt (M := 16) rfl w.2.1)⟩
theorem MW_b {σ : rS} {s T : Nat} (hw : ∀ k, k < s → σ.2.2.1 96 k ≠ 0 → wkO σ 117 118 k) (T0 : 0 < T) (T1 : T ≤ 8000000) : 0 < prS (wD σ) s * T ∧ prS (wD σ) s * T < 65536 ^ (16 * s + 2) := by
  have a := prS_pos (D := wD σ) (n := s) (fun i hi => (wD_b hw hi).1)
  have b := prS_le (D := wD σ) (b := 16) (n := s) (fun i hi => (wD_b hw hi).2)
  refine ⟨Nat.mul_pos a T0, ?_⟩
  rw [Nat.pow_add]
  have c := Nat.mul_le_mul_right T b
  have d : 65536 ^ (16 * s) * T < 65536 ^ (16 * s) * 65536 ^ 2 := Nat.mul_lt_mul_of_pos_left (by omega) (Nat.pow_pos (by decide))
  omega
theorem pl_i {lo x hi : Int32} (h0 : 0 ≤ lo) (h1 : lo < x) (h2 : x < hi) (h3 : hi ≤ 20000) : 0 ≤ x - lo ∧ x - lo < hi - lo ∧ 0 ≤ x ∧ lo ≤ x := by grind
theorem pl_j {lo hi : Int32} (h0 : 0 ≤ lo) (h1 : lo < hi) (h3 : hi ≤ 20000) : lo < lo + 1 ∧ lo + 1 ≤ hi ∧ (0 : Int32) < hi - lo := by grind
theorem pl_k {x hi : Int32} (h0 : 0 ≤ x) (h1 : x < hi) (h3 : hi ≤ 20000) : x < x + 1 ∧ x + 1 ≤ hi := by grind
theorem mk_1 {b : Int} (b0 : 0 ≤ b) (b1 : b ≤ 2147483648) : mkRat b 1 ≤ (wB : Rat) := by
  have z := mk_leN (w := b) (T := 1) (N := wB) (by decide) (by
    have w : (4294967296 : Nat) ≤ wB := by
      unfold wB
      rw [show 4294967296 = 1 * 65536 ^ 2 from rfl]
      exact Nat.mul_le_mul_right _ (Nat.one_le_pow _ _ (by decide))
    omega)
  exact z
theorem findWorth_c {C : rCx} (hC : cOK C) (s : Nat) {σ : rS} {a1 : Int32} {Q : rS → Prop} (hp : pOK σ ∧ s = (σ.1 70).toNatClampNeg ∧ 0 ≤ a1 ∧ a1 < σ.1 70 ∧ (∀ k, k < s → σ.2.2.1 96 k ≠ 0 → wkO σ 117 118 k) ∧ (∀ i : Int32, σ.2.2.1 76 a1.toNatClampNeg ≤ i → i < σ.2.2.1 76 (a1.toNatClampNeg + 1) → σ.2.2.1 77 i.toNatClampNeg = 0 → σ.2.2.1 96 (σ.2.2.1 78 i.toNatClampNeg).toNatClampNeg ≠ 0)) (h : ∀ (σ' : rS), (frZ a1.toNatClampNeg σ σ' ∧ numO σ' 4 ∧ numO σ' 5 ∧ 0 < nV σ' 5 ∧ (σ'.1 92 = 1 ∨ σ'.1 92 = -1) ∧ (σ.2.2.1 81 a1.toNatClampNeg ≠ 0 → 0 ≤ σ'.2.2.1 119 a1.toNatClampNeg ∧ σ'.2.2.1 119 a1.toNatClampNeg < σ.2.2.1 76 (a1.toNatClampNeg + 1) - σ.2.2.1 76 a1.toNatClampNeg)) → Q σ') : cV C 6 m_findWorth [.ref (co C), .int a1] σ Q := by
  refine m_findWorth_run hC ?_
  unfold w_findWorth_0
  obtain ⟨hO, hs, h0, h1, hw, hd⟩ := hp
  have k1 := Int32.lt_of_lt_of_le h1 hO.1.1.2
  have st := ex_st hO.1 h0 h1
  have hi2 := Int32.le_trans st.2.2.1 hO.1.2.2.1.2
  have tb := tT_b hO h0 h1
  have s1000 : s ≤ 1000 := by rw [hs]; exact cn_le (y := 1000) rfl hO.1.1.2
  have M := MW_b (σ := σ) (s := s) (T := (tTI σ a1.toNatClampNeg).toNat) hw (by omega) (by omega)
  have lohi : σ.2.2.1 76 a1.toNatClampNeg < σ.2.2.1 76 (a1.toNatClampNeg + 1) := by
    have q := (hO.1.2.2.2.1 a1 h0 h1).1.2.1
    rw [rd, rd, st.2.2.2.1] at q
    exact q
  have inx : ∀ i : Int32, σ.2.2.1 76 a1.toNatClampNeg ≤ i → i < σ.2.2.1 76 (a1.toNatClampNeg + 1) → 0 ≤ i ∧ i < σ.1 72 ∧ i < 20000 := fun i i1 i2 => ⟨Int32.le_trans st.1.1 i1, Int32.lt_of_lt_of_le i2 st.2.2.1, Int32.lt_of_lt_of_le i2 hi2⟩
  have tgt : ∀ i : Int32, σ.2.2.1 76 a1.toNatClampNeg ≤ i → i < σ.2.2.1 76 (a1.toNatClampNeg + 1) → σ.2.2.1 77 i.toNatClampNeg = 0 → (σ.2.2.1 78 i.toNatClampNeg).toNatClampNeg < s := fun i i1 i2 z => by
    have q := (hO.1.2.2.2.2 _ (cn_lt (inx i i1 i2).1 (inx i i1 i2).2.1)).2.1 z
    rw [hs]
    exact cn_lt q.1 q.2
  have nw : ∀ i : Int32, σ.2.2.1 76 a1.toNatClampNeg ≤ i → i < σ.2.2.1 76 (a1.toNatClampNeg + 1) → nxW σ i := fun i i1 i2 z => hw _ (tgt i i1 i2 z) (hd i i1 i2 z)
  have hj177 : ∀ (l2 : Int64) (s1 : Int32) (s2 : Int64) (τ : rS), (s1 = 6 ∧ l2.toInt.natAbs ≤ 2147483648 ∧ s2.toInt = (l2.toInt.natAbs : Int) ∧ σ.2.2.1 81 a1.toNatClampNeg = 0 ∧ frS [0, 1, 2, 3, 4, 5, 6, 7, 8, 9, 10] σ τ ∧ ∃ S, siG (prS (wD σ) s * (tTI σ a1.toNatClampNeg).toNat) τ 20000 S) → w_findWorth_177 C Q  l2 s1 s2 τ := by
    rintro y177_2 y177_s1 y177_s2 τ177 j177
    unfold w_findWorth_177
    obtain ⟨z1, z2, z3, z4, F, S, J⟩ := j177
    rw [z1]
    refine set_c hC  ?_ (fun σ_1 q2 => ?_)
    · clear h; exact ⟨by decide, by decide, l64_0 z3 (by omega)⟩  -- p1
    simp only [kn] at q2
    refine set_c hC  ?_ (fun σ_3 q4 => ?_)
    · clear h; exact ⟨by decide, by decide, by decide⟩  -- p2
    simp only [kn] at q4
    have g6 := nV_fr q4.1 (k := 6) (by decide) q2.2.1
    have e67 : fQ σ_3 6 7 = mkRat (y177_2.toInt.natAbs : Int) 1 := by
      unfold fQ
      rw [g6.2.1, q2.2.2.1, q4.2.2.1, z3]
      rfl
    have F3 : frS [0, 1, 2, 3, 4, 5, 6, 7, 8, 9, 10] σ σ_3 := frS_tr F (frS_tr (frS_mono (frS_of q2.1) (sub_of rfl)) (frS_mono (frS_of q4.1) (sub_of rfl)))
    have J3 := siG_N q4.1 (by decide) (by decide) (siG_N q2.1 (by decide) (by decide) J)
    have p7 : 0 < nV σ_3 7 := by rw [q4.2.2.1]; decide
    have l6 : nL σ_3 6 ≤ 400 := by have := g6.2.2; have := q2.2.2.2; omega
    have l7 : nL σ_3 7 ≤ 400 := by have := q4.2.2.2; omega
    have qb : fQ σ_3 6 7 ≤ (wB : Rat) := by rw [e67]; exact mk_1 (by omega) (by omega)
    have qd : (fQ σ_3 6 7).den ∣ prS (wD σ) s * (tTI σ a1.toNatClampNeg).toNat := by
      rw [e67]
      exact Nat.dvd_trans (den_mk (by decide)) (Nat.one_dvd _)
    refine ⟨fun c5 => ?_, fun c5 => ?_⟩
    · skip
      refine add_c hC  ?_ (fun σ_6 q7 => ?_)
      · clear h; exact (siG_add (x := 1) (Or.inl rfl) M.1 M.2 (by omega) (by decide) J3 g6.1 q4.2.1 p7 l6 l7 qb qd).1  -- p3
      refine h _ ?_
      · clear h; have L := siG_L M.1 M.2 (by decide) ((siG_add (x := 1) (Or.inl rfl) M.1 M.2 (by omega) (by decide) J3 g6.1 q4.2.1 p7 l6 l7 qb qd).2 _ q7.2)
        exact ⟨frZ_S (frS_tr F3 (frS_mono q7.1 (sub_of rfl))), L.1, L.2.1, L.2.2.1, L.2.2.2.2.2, fun z => absurd z4 z⟩
    · skip
      refine add_c hC  ?_ (fun σ_8 q9 => ?_)
      · clear h; exact (siG_add (x := -1) (Or.inr rfl) M.1 M.2 (by omega) (by decide) J3 g6.1 q4.2.1 p7 l6 l7 qb qd).1  -- p5
      refine h _ ?_
      · clear h; have L := siG_L M.1 M.2 (by decide) ((siG_add (x := -1) (Or.inr rfl) M.1 M.2 (by omega) (by decide) J3 g6.1 q4.2.1 p7 l6 l7 qb qd).2 _ q9.2)
        exact ⟨frZ_S (frS_tr F3 (frS_mono q9.1 (sub_of rfl))), L.1, L.2.1, L.2.2.1, L.2.2.2.2.2, fun z => absurd z4 z⟩
  refine ⟨ib_1000.mpr ?_, ?_⟩
  · clear h; exact ⟨h0, k1⟩  -- b7
  refine ⟨fun c10 => ?_, fun c10 => ?_⟩
  · skip
    refine clearSum_c hC  (fun σ_11 q12 => ?_)
    refine ⟨ib_1001.mpr ?_, ?_⟩
    · clear h; exact ⟨h0, Int32.lt_trans k1 (by decide)⟩  -- b8
    intro x13 hx13
    unfold w_findWorth_92
    refine ⟨fun n l1 l2 τ => n = (σ.2.2.1 76 (a1.toNatClampNeg + 1) - l2).toNatClampNeg ∧ (l1 = a1 ∧ frS [0, 1, 2, 3, 4, 5, 6, 7, 8, 9, 10] σ τ ∧ σ.2.2.1 76 a1.toNatClampNeg ≤ l2 ∧ l2 ≤ σ.2.2.1 76 (a1.toNatClampNeg + 1) ∧ ∃ S, siG (prS (wD σ) s * (tTI σ a1.toNatClampNeg).toNat) τ l2.toNatClampNeg S), ⟨_, rfl, ?_⟩, ?_⟩
    · clear h; rw [hx13, q12.1.2.2.1 76 (by decide) (by decide)]
      exact ⟨rfl, frS_mono q12.1 (sub_of rfl), Int32.le_refl _, st.2.1, 0, siG_mono (siG_0 q12.2) (Nat.zero_le _)⟩
    rintro n92 x92_1 x92_2 σ92 ⟨hn92, i92⟩
    obtain ⟨e1, F, w1, w2, S, J⟩ := i92
    have f76 := F.2.2.1 76 (by decide) (by decide)
    have f79 := F.2.2.1 79 (by decide) (by decide)
    have f80 := F.2.2.1 80 (by decide) (by decide)
    have f82 := F.2.2.1 82 (by decide) (by decide)
    have i20 : x92_2.toNatClampNeg ≤ 20000 := cn_le (y := 20000) rfl (Int32.le_trans w2 hi2)
    rw [e1, f76, st.2.2.2.1]
    refine ⟨ib_1001.mpr ?_, ?_⟩
    · clear h; exact ⟨st.2.2.2.2.2.1, st.2.2.2.2.2.2⟩  -- b10
    refine ⟨fun c14 => ?_, fun c14 => ?_⟩
    · skip
      refine ⟨ib_1000.mpr ?_, ?_⟩
      · clear h; exact ⟨h0, k1⟩  -- b11
      intro x15 hx15
      refine ⟨fun c16 => ?_, fun c16 => ?_⟩
      · skip
        refine h _ ?_
        · clear h; have L := siG_L M.1 M.2 (by omega) J
          exact ⟨frZ_S F, L.1, L.2.1, L.2.2.1, L.2.2.2.2.2, fun z => absurd c10 z⟩
      · skip
        refine ⟨fun c17 => ?_, fun c17 => ?_⟩
        · skip
          refine hj177 _ _ _ _ ?_
          · clear h; exact ⟨rfl, by rw [hx15]; exact i32_abs, (l64_pos (lg_ge.mp c17)).1, c10, F, S, siG_mono J i20⟩  -- k13
        · skip
          refine hj177 _ _ _ _ ?_
          · clear h; have hb : x15.toInt.natAbs ≤ 2147483648 := by rw [hx15]; exact i32_abs
            exact ⟨rfl, hb, (l64_neg (fun z => c17 (lg_ge.mpr z)) hb).1, c10, F, S, siG_mono J i20⟩
    · skip
      have zl := Int32.not_le.mp c14
      have ii := inx x92_2 w1 zl
      have z := u2 ii.1 c14 hi2
      have is := cn_succ ii.1 (Int32.lt_trans z.2.2.2.2.2.2 (by decide))
      refine loadNext_c hC  ?_ (fun r18 σ_19 q20 => ?_)
      · clear h; exact ⟨exO_Z hO.1 (frZ_S (k := 0) F), ii.1, by rw [F.1 72 (by decide)]; exact ii.2.1, nxW_Z (frZ_S (k := 0) F) (nw _ w1 zl)⟩  -- p15
      refine isZero_c hC  ?_ (fun r21 q23 => ?_)
      · clear h; exact ⟨by decide, by decide⟩  -- p16
      refine ⟨fun c24 => ?_, fun c24 => ?_⟩
      · skip
        intro x25 hx25
        refine ⟨_, cn_lt2 hn92 ?_ ?_, rfl, ?_⟩
        · clear h; rw [hx25]; exact z.1  -- d17
        · clear h; rw [hx25]; exact z.2.1  -- d18
        · clear h; rw [hx25, is]
          exact ⟨rfl, frS_tr F (frS_mono (frS_of q20.1) (sub_of rfl)), Int32.le_trans w1 z.2.2.2.1, z.2.2.2.2.1, S, siG_mono (siG_N q20.1 (by decide) (by decide) J) (by omega)⟩
      · skip
        refine ⟨ib_20000.mpr ?_, ?_⟩
        · clear h; exact ⟨ii.1, ii.2.2⟩  -- b20
        refine ⟨ib_1000.mpr ?_, ?_⟩
        · clear h; exact ⟨h0, k1⟩  -- b21
        have v79 : (σ_19.2.2.1 79 x92_2.toNatClampNeg).toInt64.toInt = twI σ a1.toNatClampNeg x92_2.toNatClampNeg := by
          rw [Int32.toInt_toInt64, q20.1.2.2.1 79 (by decide) (by decide), f79]
          unfold twI
          rw [if_pos c10]
        have v80 : (σ_19.2.2.1 80 a1.toNatClampNeg).toInt64.toInt = tTI σ a1.toNatClampNeg := by
          rw [Int32.toInt_toInt64, q20.1.2.2.1 80 (by decide) (by decide), f80]
          unfold tTI
          rw [if_pos c10]
        have tw := tw_b hO h0 h1 w1 zl
        have fb := fQ_b q20.2.1 q20.2.2.2.1 q20.2.2.2.2.1
        have m7 := nV_lt q20.2.2.1 q20.2.2.2.2.2.1
        have T0 : 0 < (tTI σ a1.toNatClampNeg).toNat := by omega
        refine scale_c hC  ?_ (fun σ_26 q27 => ?_)
        · clear h; exact ⟨q20.2.1, q20.2.2.1, q20.2.2.2.1, l64_0 v79 tw.1, l64_1 v80 tb.1, by have := q20.2.2.2.2.1; omega, by have := q20.2.2.2.2.2.1; omega⟩  -- p22
        rw [v79, v80] at q27
        have q67 := (hR_q q27.2).1
        have d7 : nV σ_19 7 ∣ prS (wD σ) s := by
          by_cases e : σ92.2.2.1 77 x92_2.toNatClampNeg = 0
          · rw [q20.2.2.2.2.2.2.2.2 e, F.2.2.1 78 (by decide) (by decide), (sl_f (m := 16) (F.2.2.1 117 (by decide) (by decide))).1]
            rw [F.2.2.1 77 (by decide) (by decide)] at e
            have n96 := hd _ w1 zl e
            have dd := prS_dvd (D := wD σ) (tgt _ w1 zl e)
            unfold wD at dd
            rw [if_neg n96] at dd
            exact dd
          · rw [q20.2.2.2.2.2.2.2.1 e]; exact Nat.one_dvd _
        have le1 := Rat.mul_le_mul_of_nonneg_left (mk_le1 (w := twI σ a1.toNatClampNeg x92_2.toNatClampNeg) T0 (by omega)) fb.1
        rw [Rat.mul_one] at le1
        have dq : (fQ σ_19 6 7 * mkRat (twI σ a1.toNatClampNeg x92_2.toNatClampNeg) (tTI σ a1.toNatClampNeg).toNat).den ∣ nV σ_19 7 * (tTI σ a1.toNatClampNeg).toNat := Nat.dvd_trans den_mul (Nat.mul_dvd_mul fb.2.2 (den_mk (by omega)))
        have m19 : nV σ_19 7 * (tTI σ a1.toNatClampNeg).toNat < 65536 ^ 18 := by
          rw [show 65536 ^ 18 = 65536 ^ 16 * 65536 ^ 2 from Nat.pow_add 65536 16 2]
          exact Nat.mul_lt_mul'' m7 (by omega)
        have pl := pl_of (a := 18) (b := 16) q27.2 (Nat.mul_pos q20.2.2.2.1 T0) dq m19 (Rat.le_trans le1 fb.2.1)
        have A := siG_add (x := r18) q20.2.2.2.2.2.2.1 M.1 M.2 (by omega) (by omega) (siG_N q27.1 (by decide) (by decide) (siG_N q20.1 (by decide) (by decide) J)) q27.2.1 q27.2.2.1 (hR_q q27.2).2 (by have := pl.2; omega) (by have := pl.1; omega) (by rw [q67]; exact Rat.le_trans le1 (Rat.le_trans fb.2.1 p16_wB)) (by rw [q67]; exact Nat.dvd_trans dq (Nat.mul_dvd_mul d7 (Nat.dvd_refl _)))
        refine add_c hC  ?_ (fun σ_28 q29 => ?_)
        · clear h; exact A.1  -- p23
        intro x30 hx30
        refine ⟨_, cn_lt2 hn92 ?_ ?_, rfl, ?_⟩
        · clear h; rw [hx30]; exact z.1  -- d24
        · clear h; rw [hx30]; exact z.2.1  -- d25
        · clear h; rw [hx30, is]
          exact ⟨rfl, frS_tr F (frS_tr (frS_mono (frS_of q20.1) (sub_of rfl)) (frS_tr (frS_mono (frS_of q27.1) (sub_of rfl)) (frS_mono q29.1 (sub_of rfl)))), Int32.le_trans w1 z.2.2.2.1, z.2.2.2.2.1, _, A.2 _ q29.2⟩
  · skip
    refine ⟨ib_1000.mpr ?_, ?_⟩
    · clear h; exact ⟨h0, k1⟩  -- b27
    intro σ_31 hσ_31
    refine ⟨ib_1001.mpr ?_, ?_⟩
    · clear h; exact ⟨h0, Int32.lt_trans k1 (by decide)⟩  -- b28
    refine takeNext_c hC  ?_ (fun σ_32 q33 => ?_)
    · clear h; have Z : frZ a1.toNatClampNeg σ σ_31 := by rw [hσ_31]; exact frZ_1
      rw [Z.2.2.1 76 (by decide) (by decide) (by decide)]
      have ii := inx _ (Int32.le_refl _) lohi
      exact ⟨exO_Z hO.1 Z, ii.1, by rw [Z.1 72 (by decide)]; exact ii.2.1, nxW_Z Z (nw _ (Int32.le_refl _) lohi)⟩
    have Z : frZ a1.toNatClampNeg σ σ_31 := by rw [hσ_31]; exact frZ_1
    have Z2 := frZ_tr Z (frZ_S (k := a1.toNatClampNeg) q33.1)
    have z119 : σ_32.2.2.1 119 a1.toNatClampNeg = 0 := by rw [q33.1.2.2.1 119 (by decide) (by decide), hσ_31, ri34, if_pos rfl, if_pos rfl]
    refine ⟨ib_1001.mpr ?_, ?_⟩
    · clear h; exact ⟨h0, Int32.lt_trans k1 (by decide)⟩  -- b30
    intro x34 hx34
    unfold w_findWorth_35
    refine ⟨fun n l1 l2 τ => n = (σ.2.2.1 76 (a1.toNatClampNeg + 1) - l2).toNatClampNeg ∧ (l1 = a1 ∧ frZ a1.toNatClampNeg σ τ ∧ σ.2.2.1 76 a1.toNatClampNeg < l2 ∧ l2 ≤ σ.2.2.1 76 (a1.toNatClampNeg + 1) ∧ numO τ 4 ∧ numO τ 5 ∧ 0 < nV τ 5 ∧ nL τ 4 ≤ 400 ∧ nL τ 5 ≤ 400 ∧ (τ.1 92 = 1 ∨ τ.1 92 = -1) ∧ 0 ≤ τ.2.2.1 119 a1.toNatClampNeg ∧ τ.2.2.1 119 a1.toNatClampNeg < σ.2.2.1 76 (a1.toNatClampNeg + 1) - σ.2.2.1 76 a1.toNatClampNeg), ⟨_, rfl, ?_⟩, ?_⟩
    · clear h; rw [hx34, Z2.2.2.1 76 (by decide) (by decide) (by decide)]
      have pj := pl_j st.1.1 lohi hi2
      exact ⟨rfl, Z2, pj.1, pj.2.1, q33.2.1, q33.2.2.1, q33.2.2.2.1, q33.2.2.2.2.1, q33.2.2.2.2.2.1, q33.2.2.2.2.2.2, by rw [z119]; decide, by rw [z119]; exact pj.2.2⟩
    rintro n35 x35_1 x35_2 σ35 ⟨hn35, i35⟩
    obtain ⟨e1, Z3, w1, w2, o4, o5, p5, l4, l5, sg, n0, n1⟩ := i35
    rw [e1, Z3.2.2.1 76 (by decide) (by decide) (by decide), st.2.2.2.1]
    refine ⟨ib_1001.mpr ?_, ?_⟩
    · clear h; exact ⟨st.2.2.2.2.2.1, st.2.2.2.2.2.2⟩  -- b32
    refine ⟨fun c35 => ?_, fun c35 => ?_⟩
    · skip
      refine h _ ?_
      · clear h; exact ⟨Z3, o4, o5, p5, sg, fun _ => ⟨n0, n1⟩⟩  -- q33
    · skip
      have zl := Int32.not_le.mp c35
      have pi := pl_i st.1.1 w1 zl hi2
      have ii := inx x35_2 pi.2.2.2 zl
      have z := u2 ii.1 c35 hi2
      have pk := pl_k ii.1 zl hi2
      refine isGreater_c hC  ?_ (fun r36 σ_37 q38 => ?_)
      · clear h; exact ⟨exO_Z hO.1 Z3, ii.1, by rw [Z3.1 72 (by decide)]; exact ii.2.1, nxW_Z Z3 (nw _ pi.2.2.2 zl), o4, o5, l4, l5⟩  -- p34
      have Z4 := frZ_tr Z3 (frZ_S (k := a1.toNatClampNeg) (frS_of q38.1))
      have g4 := nV_fr q38.1 (k := 4) (by decide) o4
      have g5 := nV_fr q38.1 (k := 5) (by decide) o5
      refine ⟨fun c39 => ?_, fun c39 => ?_⟩
      · skip
        intro x40 hx40
        refine ⟨_, cn_lt2 hn35 ?_ ?_, rfl, ?_⟩
        · clear h; rw [hx40]; exact z.1  -- d35
        · clear h; rw [hx40]; exact z.2.1  -- d36
        · clear h; rw [hx40]
          exact ⟨rfl, Z4, Int32.lt_trans w1 pk.1, pk.2, g4.1, g5.1, by rw [g5.2.1]; exact p5, by rw [g4.2.2]; exact l4, by rw [g5.2.2]; exact l5, by rw [q38.1.1]; exact sg, by rw [q38.1.2.2.1 119 (by decide) (by decide)]; exact n0, by rw [q38.1.2.2.1 119 (by decide) (by decide)]; exact n1⟩
      · skip
        refine ⟨ib_1001.mpr ?_, ?_⟩
        · clear h; exact ⟨h0, Int32.lt_trans k1 (by decide)⟩  -- b38
        refine ⟨ib_1000.mpr ?_, ?_⟩
        · clear h; exact ⟨h0, k1⟩  -- b39
        intro σ_41 hσ_41
        refine takeNext_c hC  ?_ (fun σ_42 q43 => ?_)
        · clear h; have Z5 : frZ a1.toNatClampNeg σ σ_41 := frZ_tr Z4 (by rw [hσ_41]; exact frZ_1)
          exact ⟨exO_Z hO.1 Z5, ii.1, by rw [Z5.1 72 (by decide)]; exact ii.2.1, nxW_Z Z5 (nw _ pi.2.2.2 zl)⟩
        intro x44 hx44
        refine ⟨_, cn_lt2 hn35 ?_ ?_, rfl, ?_⟩
        · clear h; rw [hx44]; exact z.1  -- d41
        · clear h; rw [hx44]; exact z.2.1  -- d42
        · clear h; have Z5 : frZ a1.toNatClampNeg σ σ_41 := frZ_tr Z4 (by rw [hσ_41]; exact frZ_1)
          have v119 : σ_42.2.2.1 119 a1.toNatClampNeg = x35_2 - σ.2.2.1 76 a1.toNatClampNeg := by rw [q43.1.2.2.1 119 (by decide) (by decide), hσ_41, ri34, if_pos rfl, if_pos rfl, Z4.2.2.1 76 (by decide) (by decide) (by decide)]
          rw [hx44]
          exact ⟨rfl, frZ_tr Z5 (frZ_S q43.1), Int32.lt_trans w1 pk.1, pk.2, q43.2.1, q43.2.2.1, q43.2.2.2.1, q43.2.2.2.2.1, q43.2.2.2.2.2.1, q43.2.2.2.2.2.2, by rw [v119]; exact pi.1, by rw [v119]; exact pi.2.1⟩

end
