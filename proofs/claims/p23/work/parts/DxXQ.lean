section
set_option maxHeartbeats 1600000
/-! the last play's record: the class's note, the reference's played, by what they come to -/
def NV23 (κ : zS) (m : Nat) : Int64 := if zI κ maOutcome m = 1 then (zI κ maNumber m).toInt64 else if zI κ maOutcome m = 2 then (zI κ maFailure m).toInt64 else 0
def NT23 (κ κ' : zS) (a : Nat) (n d : Int32) (g : Int64) : Prop := zI κ' chPlayMade a = 1 ∧ (zJ κ' (zR κ chRecord a) 0 = (zI κ maOutcome (zR κ chMachine a)).toInt64 ∧ zJ κ' (zR κ chRecord a) 1 = NV23 κ (zR κ chMachine a) ∧ zJ κ' (zR κ chRecord a) 2 = n.toInt64 ∧ zJ κ' (zR κ chRecord a) 3 = d.toInt64 ∧ zJ κ' (zR κ chRecord a) 4 = g) ∧ ∀ i : Nat, (i : Int) < (zI κ coVars (zR κ chCode a)).toInt + (zI κ coCells (zR κ chCode a)).toInt → zA κ' (zR κ chLastShared a) i = zA κ (zR κ maMemory (zR κ chMachine a)) i
theorem uj_23 {κ τ : zS} {r i : Nat} {x : Int64} (e : τ = uj κ r i x) : zJ τ r i = x ∧ (∀ j, j ≠ i → zJ τ r j = zJ κ r j) ∧ zA τ = zA κ ∧ zI τ = zI κ := by
  subst e
  refine ⟨?_, fun j hj => ?_, rfl, rfl⟩
  · show (if r = r then vp_updL (zJ κ r) i x else zJ κ r) i = x
    rw [if_pos rfl]
    exact if_pos rfl
  · show (if r = r then vp_updL (zJ κ r) i x else zJ κ r) j = _
    rw [if_pos rfl]
    exact if_neg hj
theorem Ch_note_q6 {C : zC} {n0 : Nat} {a0 : Nat} {a1 : Int32} {a2 : Int32} {a3 : Int64} {κ : zS} {Q : zS → Prop} (W : zW C n0 κ) (Ta0 : zT κ a0 = 15) (hp : mkI κ (zR κ chMachine a0) ∧ coI κ (zR κ chCode a0) ∧ (zN κ (zR κ chRecord a0)) = 5 ∧ (zN κ (zR κ chLastShared a0)) = 34) (h : ∀ (κ' : zS), ((zF (ntF9 a0) κ κ' ∧ zR κ' = zR κ) ∧ NT23 κ κ' a0 a1 a2 a3) → Q κ') : zRun C 1 mCh_note [.ref a0, .int a1, .int a2, .long a3] κ (oV Q noX) := by
  refine Ch_note_run W Ta0 ?_
  replace W := W.lo (Nat.le_trans W.1.2.1 W.1.2.2) (Nat.le_refl (zn κ))
  unfold w_Ch_note_0
  have am := ch_m9 W Ta0
  have nr : ∀ τ, zF (ntF9 a0) κ τ → zN τ (zR κ chRecord a0) = 5 := fun τ Z => (Z.l (ty_chRecord W Ta0)).trans hp.2.2.1
  have e1 : (1 : Int32).toInt = 1 := rfl
  have e2 : (2 : Int32).toInt = 2 := rfl
  have e3 : (3 : Int32).toInt = 3 := rfl
  have e4 : (4 : Int32).toInt = 4 := rfl
  have hj58 : ∀ (s0 : Nat) (s1 : Int32) (s2 : Int64) (τ : zS), zW C (zn κ) τ → zT τ a0 = 15 → zT τ s0 = 22 → ((zF (ntF9 a0) κ τ ∧ zR τ = zR κ) ∧ s0 = zR κ chRecord a0 ∧ s1 = 1 ∧ zJ τ (zR κ chRecord a0) 0 = (zI κ maOutcome (zR κ chMachine a0)).toInt64 ∧ s2 = NV23 κ (zR κ chMachine a0) ∧ zA τ = zA κ ∧ zI τ = zI κ) → w_Ch_note_58 C (zn κ) Q a0 a1 a2 a3 s0 s1 s2 τ := by
    intro y58_s0 y58_s1 y58_s2 τ58 W58 T58_0 T58_1 j58
    unfold w_Ch_note_58
    obtain ⟨⟨Z6, R6⟩, es, e6, j0, s2e, A6, I6⟩ := j58
    refine ⟨?_, ?_⟩
    · rw [inb_iff, es, e6, nr _ Z6, e1]; omega
    intro κ_1 hκ_1
    intro W2
    rw [es, ← R6] at hκ_1
    obtain ⟨Z1, R1⟩ := nt_j9 W58 T58_0 hκ_1
    have R1' := R1.trans R6
    have Y1 := Z6.tr Z1
    have u1 := uj_23 hκ_1
    rw [R6, e6, s2e] at u1
    refine ⟨?_, ?_⟩
    · rw [inb_iff, R1', nr _ Y1, e2]; omega
    intro κ_3 hκ_3
    intro W4
    obtain ⟨Z3, R3⟩ := nt_j9 W2 (Z1.t T58_0 (by decide)) hκ_3
    have R3' := R3.trans R1'
    have Y3 := Y1.tr Z3
    have u3 := uj_23 hκ_3
    rw [R1'] at u3
    refine ⟨?_, ?_⟩
    · rw [inb_iff, R3', nr _ Y3, e3]; omega
    intro κ_5 hκ_5
    intro W6
    obtain ⟨Z5, R5⟩ := nt_j9 W4 (Y3.t Ta0 (by decide)) hκ_5
    have R5' := R5.trans R3'
    have Y5 := Y3.tr Z5
    have u5 := uj_23 hκ_5
    rw [R3'] at u5
    refine ⟨?_, ?_⟩
    · rw [inb_iff, R5', nr _ Y5, e4]; omega
    intro κ_7 hκ_7
    intro W8
    intro T9
    obtain ⟨Z7, R7⟩ := nt_j9 W6 (Y5.t Ta0 (by decide)) hκ_7
    have R7' := R7.trans R5'
    have Y7 := Y5.tr Z7
    have u7 := uj_23 hκ_7
    rw [R5'] at u7
    have C7 : coI κ_7 (zR κ chCode a0) := coI_zF Y7 W (ty_chCode W Ta0) (fun f z => am.2.2 z.1.symm) hp.2.1
    refine Co_shared_c W8 T9 ?_ (fun r10 q12 => ?_)
    · rw [R7']; exact C7
    intro W13
    intro M14
    rw [R7'] at q12
    have rb : 0 ≤ r10.toInt ∧ r10.toInt ≤ 34 := by
      obtain ⟨-, hv, ha, hc, -⟩ := C7
      omega
    have kr := cnk rb.1
    have cd : (if (34 : Int32) < r10 then (34 : Int32) else r10) = r10 := if_neg (by
      have e34 : (34 : Int32).toInt = 34 := rfl
      rw [lti, e34]
      omega)
    have n1 : zN κ_7 (zR κ maMemory (zR κ chMachine a0)) = 142 := (Y7.l (ty_maMemory W (ty_chMachine W Ta0))).trans hp.1.1.1
    have n2 : zN κ_7 (zR κ chLastShared a0) = 34 := (Y7.l (ty_chLastShared W Ta0)).trans hp.2.2.2
    have z0 : (0 : Int32).toNatClampNeg = 0 := rfl
    rw [cd]
    refine ⟨?_, ?_⟩
    · rw [R7']
      refine ⟨by decide, by decide, by rw [lei, t0i]; omega, by rw [n1, z0]; omega, by rw [n2, z0]; omega⟩
    intro κ_15 hκ_15
    intro W16
    intro κ_17 hκ_17
    intro W18
    have T7 := Y7.t Ta0 (by decide)
    have o := W8.o (show zr chLastShared = some 20 by decide +kernel) (by decide) (T7.trans (by decide))
    have Z15 : zF (ntF9 a0) κ_7 κ_15 := by
      rw [hκ_15]
      exact zF_uc (by rw [o]; exact ⟨rfl, Or.inr (Or.inl rfl)⟩)
    have Z17 : zF (ntF9 a0) κ_15 κ_17 := by
      rw [hκ_17]
      exact zF_ui ⟨rfl, Or.inr (Or.inr rfl)⟩
    have A7 : zA κ_7 = zA κ := u7.2.2.1.trans (u5.2.2.1.trans (u3.2.2.1.trans (u1.2.2.1.trans A6)))
    have I7 : zI κ_7 = zI κ := u7.2.2.2.trans (u5.2.2.2.trans (u3.2.2.2.trans (u1.2.2.2.trans I6)))
    have J17 : zJ κ_17 = zJ κ_7 := by rw [hκ_17, hκ_15]; rfl
    rw [I7] at q12
    refine h _ ⟨⟨(Y7.tr Z15).tr Z17, by rw [hκ_17, hκ_15]; exact R7'⟩, by rw [hκ_17]; exact if_pos ⟨rfl, rfl⟩, ⟨?_, ?_, ?_, ?_, ?_⟩, fun i hi => ?_⟩
    · rw [J17]
      exact (u7.2.1 0 (by decide)).trans ((u5.2.1 0 (by decide)).trans ((u3.2.1 0 (by decide)).trans ((u1.2.1 0 (by decide)).trans j0)))
    · rw [J17]
      exact (u7.2.1 1 (by decide)).trans ((u5.2.1 1 (by decide)).trans ((u3.2.1 1 (by decide)).trans u1.1))
    · rw [J17]
      exact (u7.2.1 2 (by decide)).trans ((u5.2.1 2 (by decide)).trans u3.1)
    · rw [J17]
      exact (u7.2.1 3 (by decide)).trans u5.1
    · rw [J17]
      exact u7.1
    · have z : zA κ_17 (zR κ chLastShared a0) = va_cpy (zA κ_7 (zR κ maMemory (zR κ chMachine a0))) (zA κ_7 (zR κ chLastShared a0)) 0 0 r10.toNatClampNeg := by
        rw [hκ_17, hκ_15, R7']
        exact if_pos rfl
      rw [z]
      unfold va_cpy
      rw [if_pos ⟨Nat.zero_le _, by omega⟩, A7, Nat.zero_add, Nat.sub_zero]
  intro x19 hx19
  refine ⟨?_, ?_⟩
  · rw [inb_iff, hp.2.2.1, t0i]; omega
  intro κ_20 hκ_20
  intro W21
  obtain ⟨Z20, R20⟩ := nt_j9 W Ta0 hκ_20
  have T20 := Z20.t Ta0 (by decide)
  have u0 := uj_23 hκ_20
  rw [hx19] at u0
  refine ⟨fun c22 => ?_, fun c22 => ?_⟩
  · rw [hx19] at c22
    refine ⟨fun c23 => ?_, fun c23 => ?_⟩
    · rw [hx19] at c23
      exact hj58 _ _ _ _ W21 T20 (ty_chRecord W21 T20) ⟨⟨Z20, R20⟩, by rw [R20], rfl, u0.1, by unfold NV23; rw [if_neg c22, if_neg c23], u0.2.2.1, u0.2.2.2⟩
    · rw [hx19] at c23
      exact hj58 _ _ _ _ W21 T20 (ty_chRecord W21 T20) ⟨⟨Z20, R20⟩, by rw [R20], rfl, u0.1, by unfold NV23; rw [if_neg c22, if_pos c23, R20, u0.2.2.2], u0.2.2.1, u0.2.2.2⟩
  · rw [hx19] at c22
    exact hj58 _ _ _ _ W21 T20 (ty_chRecord W21 T20) ⟨⟨Z20, R20⟩, by rw [R20], rfl, u0.1, by unfold NV23; rw [if_pos c22, R20, u0.2.2.2], u0.2.2.1, u0.2.2.2⟩
/-! the reference: played -/
def pw23 (σ : rS) : Int32 := if σ.1 14 = 0 then 0 else σ.1 15 + σ.1 17
def pc23 (σ : rS) (a : Int32) : Prop := 0 ≤ a ∧ a < 5 + pw23 σ
def pv23 (σ : rS) (a : Int32) : Int64 := if σ.1 106 = -1 then 0 else if a = 0 then (σ.1 106).toInt64 else if a = 1 then (σ.1 107).toInt64 else if a = 2 then (σ.1 108).toInt64 else if a = 3 then (σ.1 109).toInt64 else if a = 4 then σ.2.1 110 else (σ.2.2.1 111 (a - 5).toNatClampNeg).toInt64
def XQ23 (a : Int32) (σ σ' : rS) (v : Int64) : Prop := (pc23 σ a ∧ σ'.1 0 = 0 ∧ v = pv23 σ a) ∨ (¬ pc23 σ a ∧ σ'.1 0 = 1)
theorem played_g23 {C : rCx} (hC : cOK C) {σ : rS} {a1 : Int32} {Q : Int64 → rS → Prop} (hp : 0 ≤ σ.1 15 + σ.1 17 ∧ σ.1 15 + σ.1 17 ≤ 34) (h : ∀ (v : Int64) (σ' : rS), (frT [0] [] σ σ' ∧ XQ23 a1 σ σ' v) → Q v σ') : cJ C 0 m_played [.ref (co C), .int a1] σ Q := by
  refine m_played_run hC ?_
  unfold w_played_0
  have pw : 0 ≤ pw23 σ ∧ pw23 σ ≤ 34 := by
    unfold pw23
    by_cases c : σ.1 14 = 0
    · rw [if_pos c]; decide
    · rw [if_neg c]; exact hp
  have hj36 : ∀ (s1 : Int32), ((s1 = 0 ∧ pc23 σ a1) ∨ (s1 = 1 ∧ ¬ pc23 σ a1)) → w_played_36 C Q a1 s1 σ := by
    intro s1 j
    unfold w_played_36
    intro σ_1 hσ_1
    have F : frT [0] [] σ σ_1 := by rw [hσ_1]; exact frT_0 (by decide)
    have e0 : σ_1.1 0 = s1 := by rw [hσ_1, si1, if_pos rfl]
    have e : ∀ k, k ≠ 0 → σ_1.1 k = σ.1 k := fun k hk => by rw [hσ_1, si1, if_neg hk]
    have e2 : σ_1.2 = σ.2 := by rw [hσ_1, si2]
    rcases j with ⟨j1, j2⟩ | ⟨j1, j2⟩
    · refine ⟨fun c => absurd c (by rw [e0, j1]; decide), fun _ => ⟨fun c3 => ?_, fun c3 => ?_⟩⟩
      · rw [e 106 (by decide)] at c3
        have t : ∀ k : Int32, a1.toInt = k.toInt → a1 = k := fun k hk => Int32.toInt_inj.mp hk
        refine ⟨fun c4 => ⟨ib_34.mpr (py_b j2.1 (py_c pw.1 pw.2 j2.2) c4), h _ _ ⟨F, Or.inl ⟨j2, by rw [e0, j1], ?_⟩⟩⟩, fun c4 => h _ _ ⟨F, Or.inl ⟨j2, by rw [e0, j1], ?_⟩⟩, fun c4 => h _ _ ⟨F, Or.inl ⟨j2, by rw [e0, j1], ?_⟩⟩, fun c4 => h _ _ ⟨F, Or.inl ⟨j2, by rw [e0, j1], ?_⟩⟩, fun c4 => h _ _ ⟨F, Or.inl ⟨j2, by rw [e0, j1], ?_⟩⟩, fun c4 => h _ _ ⟨F, Or.inl ⟨j2, by rw [e0, j1], ?_⟩⟩⟩
        · unfold pv23
          rw [if_neg c3, if_neg (fun z => by rw [z] at c4; exact absurd c4 (by decide)), if_neg (fun z => by rw [z] at c4; exact absurd c4 (by decide)), if_neg (fun z => by rw [z] at c4; exact absurd c4 (by decide)), if_neg (fun z => by rw [z] at c4; exact absurd c4 (by decide)), if_neg (fun z => by rw [z] at c4; exact absurd c4 (by decide)), e2]
        · unfold pv23
          rw [if_neg c3, if_pos (t 0 c4), e 106 (by decide)]
        · have y := t 1 c4
          unfold pv23
          rw [if_neg c3, if_neg (by rw [y]; decide), if_pos y, e 107 (by decide)]
        · have y := t 2 c4
          unfold pv23
          rw [if_neg c3, if_neg (by rw [y]; decide), if_neg (by rw [y]; decide), if_pos y, e 108 (by decide)]
        · have y := t 3 c4
          unfold pv23
          rw [if_neg c3, if_neg (by rw [y]; decide), if_neg (by rw [y]; decide), if_neg (by rw [y]; decide), if_pos y, e 109 (by decide)]
        · have y := t 4 c4
          unfold pv23
          rw [if_neg c3, if_neg (by rw [y]; decide), if_neg (by rw [y]; decide), if_neg (by rw [y]; decide), if_neg (by rw [y]; decide), if_pos y, e2]
      · rw [e 106 (by decide)] at c3
        exact h _ _ ⟨F, Or.inl ⟨j2, by rw [e0, j1], by unfold pv23; rw [if_pos c3]⟩⟩
    · exact ⟨fun _ => h _ _ ⟨F, Or.inr ⟨j2, by rw [e0, j1]⟩⟩, fun c => absurd (by rw [e0, j1]; decide) c⟩
  refine ⟨fun c => hj36 1 (Or.inr ⟨rfl, fun z => absurd c (Int32.not_lt.mpr z.1)⟩), fun c => ⟨fun z => ?_, fun z => ?_⟩⟩
  · have p0 : pw23 σ = 0 := by unfold pw23; rw [if_pos z]
    unfold w_played_27
    exact ⟨fun y => hj36 0 (Or.inl ⟨rfl, Int32.not_lt.mp c, by rw [p0]; exact y⟩), fun y => hj36 1 (Or.inr ⟨rfl, fun q => y (by have q2 := q.2; rw [p0] at q2; exact q2)⟩)⟩
  · have p0 : pw23 σ = σ.1 15 + σ.1 17 := by unfold pw23; rw [if_neg z]
    unfold w_played_27
    exact ⟨fun y => hj36 0 (Or.inl ⟨rfl, Int32.not_lt.mp c, by rw [p0]; exact y⟩), fun y => hj36 1 (Or.inr ⟨rfl, fun q => y (by have q2 := q.2; rw [p0] at q2; exact q2)⟩)⟩

end
section
set_option maxHeartbeats 1600000
/-! a play's end with its record -/
def RN23 (κ' : zS) (a : Nat) (τ0 : rS) (v : Int32) (w : Nat) : Prop := (v = 0 ∨ v = 1 ∨ v = 2 ∨ v = 3) ∧ zI κ' chPlayMade a = 1 ∧ (zJ κ' (zR κ' chRecord a) 0 = v.toInt64 ∧ zJ κ' (zR κ' chRecord a) 1 = (if v = 1 ∨ v = 2 then τ0.1 61 else 0).toInt64 ∧ zJ κ' (zR κ' chRecord a) 2 = (τ0.1 108).toInt64 ∧ zJ κ' (zR κ' chRecord a) 3 = (τ0.1 109).toInt64 ∧ zJ κ' (zR κ' chRecord a) 4 = τ0.2.1 110) ∧ ∀ i, i < w → zA κ' (zR κ' chLastShared a) i = τ0.2.2.1 57 i
def FZ23 (w : Nat) (e : E5) (dn dr : Int32) (gn : Int64) (σ : rS) (v : Int32) : Prop := FZ21 w e dn dr gn σ v ∧ (v = 0 ∨ v = 1 ∨ v = 2 ∨ v = 3)
theorem ie_23 {nv s w N k : Nat} {cu e : E5} {σ9 : rS} {a n dr v : Int32} {x gn : Int64} {tr : Nat → rS × Int32} (F : TRF21 a σ9 N tr v) (kN : k + 1 ≤ N) (M : MW21 nv w s cu σ9 e x n dr gn 4 (tr (k + 1))) (h3 : σ9.1 113 = 0) (hd : dr = σ9.1 104) : FZ23 w e n dr gn (tr N).1 v := by
  have Z := ie_21 F kN M h3 hd
  refine ⟨Z, Or.inl ?_⟩
  obtain ⟨σ1, d, d0, _, AW, _⟩ := M
  exact Z.1.symm.trans AW.2.1
theorem iz_23 {nv s w N k : Nat} {cu e : E5} {σ9 : rS} {a n dr v : Int32} {x gn : Int64} {tr : Nat → rS × Int32} (F : TRF21 a σ9 N tr v) (kN : k ≤ N) (A : AL21 nv w s cu σ9 e x n dr gn (tr k)) (h : ¬ e.1 711 = 0 ∨ n = a) : FZ23 w e n dr gn (tr N).1 v := by
  have Z := iz_21 F kN A h
  refine ⟨Z, ?_⟩
  obtain ⟨_, p2, p3, p4⟩ := A.1
  have ev : v = (tr k).2 := Z.1.symm.trans p2
  rw [ev]
  rcases p4 with ⟨c, _⟩ | ⟨c, _⟩ | ⟨c, _⟩ | c
  · exact Or.inl c
  · exact Or.inr (Or.inl c)
  · exact Or.inr (Or.inr (Or.inl c))
  · exact Or.inr (Or.inr (Or.inr c))
theorem rn_v23 {κ : zS} {m : Nat} {v x : Int32} (h1 : zI κ maOutcome m = v) (h2 : v = 1 → zI κ maNumber m = x) (h3 : v = 2 → zI κ maFailure m = x) : NV23 κ m = (if v = 1 ∨ v = 2 then x else 0).toInt64 := by
  unfold NV23
  rw [h1]
  by_cases c1 : v = 1
  · rw [if_pos c1, if_pos (Or.inl c1), h2 c1]
  · rw [if_neg c1]
    by_cases c2 : v = 2
    · rw [if_pos c2, if_pos (Or.inr c2), h3 c2]
    · rw [if_neg c2, if_neg (fun z => z.elim c1 c2)]
      rfl
theorem cv_23 {κ : zS} {c : Nat} : (cu7 κ c).1 coVars = zI κ coVars c ∧ (cu7 κ c).1 coCells = zI κ coCells c := ⟨show (if coVars ∈ ci6 then zI κ coVars c else 0) = _ from if_pos (by decide), show (if coCells ∈ ci6 then zI κ coCells c else 0) = _ from if_pos (by decide)⟩
theorem rn_w23 {nv s w c : Nat} {κ : zS} {σ : rS} (h : CR7 nv s w (cu7 κ c) σ) : (w : Int) = (zI κ coVars c).toInt + (zI κ coCells c).toInt ∧ w ≤ 34 ∧ σ.1 15 + σ.1 17 = Int32.ofNat w := by
  obtain ⟨T, X, Bk, N, Z, na, f, _, F, _, _, ⟨h1, h2, h3⟩, _⟩ := h
  have e1 : (cu7 κ c).1 509 = zI κ coVars c := cv_23.1
  have e2 : (cu7 κ c).1 511 = zI κ coCells c := cv_23.2
  obtain ⟨⟨⟨a1, a2⟩, _⟩, ⟨_, b1, _⟩, _, _, _, _, _, G, _⟩ := F
  have g17 := G.2.2.1
  have s15 : σ.1 15 = Int32.ofNat nv := b1
  have s17 : (cu7 κ c).1 511 = σ.1 17 := g17
  have vi : (zI κ coVars c).toInt = (nv : Int) := by rw [← e1, a1, ofn_i (by omega)]
  rw [e2] at h3 s17
  refine ⟨by rw [vi]; exact h3, h2, Int32.toInt_inj.mp ?_⟩
  have n15 : (σ.1 15).toInt = (nv : Int) := by rw [s15, ofn_i (by omega)]
  rw [← s17, add_i (by rw [n15]; omega) (by rw [n15]; omega), n15, ofn_i (by omega)]
  omega

end
section
set_option maxHeartbeats 1600000
/-! what is seen of the tape and of the last fault, on both sides: bytes below the length, the length, the fault -/
abbrev Ob9 : Type := (Nat → Int32) × Int32 × Int32
def mkO9 (f : Nat → Int32) (n x : Int32) : Ob9 := (fun j => if j < n.toInt.toNat then f j else 0, n, x)
def oR9 (σ : rS) : Ob9 := mkO9 (σ.2.2.1 1) (σ.1 2) (σ.1 53)
theorem oR_k9 {σ τ : rS} (h2 : τ.1 2 = σ.1 2) (h53 : τ.1 53 = σ.1 53) (h1 : τ.2.2.1 1 = σ.2.2.1 1) : oR9 τ = oR9 σ := by
  unfold oR9
  rw [h2, h53, h1]
/-- end -/
def trO9 (w : Ob9) (m : Int32) : Ob9 := if 0 ≤ m ∧ m ≤ w.2.1 then mkO9 w.1 m w.2.2 else w
theorem tr_m9 {f : Nat → Int32} {n x m : Int32} (h : 0 ≤ m ∧ m ≤ n) : trO9 (mkO9 f n x) m = mkO9 f m x := by
  unfold trO9
  rw [if_pos (show 0 ≤ m ∧ m ≤ (mkO9 f n x).2.1 from h)]
  refine Prod.ext (funext fun j => ?_) rfl
  show (if j < m.toInt.toNat then (if j < n.toInt.toNat then f j else 0) else 0) = if j < m.toInt.toNat then f j else 0
  by_cases c : j < m.toInt.toNat
  · have z := h.2
    rw [lei] at z
    rw [if_pos c, if_pos c, if_pos (by omega)]
  · rw [if_neg c, if_neg c]
theorem tr_n9 {f : Nat → Int32} {n x m : Int32} (h : ¬ (0 ≤ m ∧ m ≤ n)) : trO9 (mkO9 f n x) m = mkO9 f n x := if_neg h
/-- a byte of a word -/
def bw9 (w : Int32) (i : Nat) : Int32 := vp_nar .byte (Int8.toInt32 (Int32.toInt8 (w >>> (((24 : Int32) - 8 * Int32.ofNat i) &&& 31))))
def vs9 (a b c d e : Int32) (i : Nat) : Int32 := if i < 4 then a else if i < 8 then b else if i < 12 then c else if i < 16 then d else e
def by9 (a b c d e : Int32) (i : Nat) : Int32 := bw9 (vs9 a b c d e i) (i % 4)
/-- feed -/
def fdO9 (w : Ob9) (G : Nat → Int32) : Ob9 := (fun j => if j < w.2.1.toInt.toNat then w.1 j else if j < w.2.1.toInt.toNat + 20 then G (j - w.2.1.toInt.toNat) else 0, w.2.1 + 20, w.2.2)
theorem fd_m9 {f f' G : Nat → Int32} {n n' x : Int32} (h0 : 0 ≤ n.toInt) (h60 : n.toInt ≤ 60000) (hn : n' = n + 20) (h1 : ∀ j, j < n.toInt.toNat → f' j = f j) (h2 : ∀ i, i < 20 → f' (n.toInt.toNat + i) = G i) : mkO9 f' n' x = fdO9 (mkO9 f n x) G := by
  subst hn
  have t20 : (20 : Int32).toInt = 20 := rfl
  have e : (n + 20).toInt = n.toInt + 20 := by rw [add_i (by rw [t20]; omega) (by rw [t20]; omega), t20]
  refine Prod.ext (funext fun j => ?_) rfl
  show (if j < (n + 20).toInt.toNat then f' j else 0) = if j < n.toInt.toNat then (if j < n.toInt.toNat then f j else 0) else if j < n.toInt.toNat + 20 then G (j - n.toInt.toNat) else 0
  by_cases c : j < n.toInt.toNat
  · rw [if_pos (by omega), if_pos c, if_pos c, h1 j c]
  · rw [if_neg c]
    by_cases c2 : j < n.toInt.toNat + 20
    · rw [if_pos (by omega), if_pos c2]
      have z := h2 (j - n.toInt.toNat) (by omega)
      rw [show n.toInt.toNat + (j - n.toInt.toNat) = j by omega] at z
      exact z
    · rw [if_neg (by omega), if_neg c2]
theorem mk_e9 {f f' : Nat → Int32} {n n' x x' : Int32} (h : mkO9 f n x = mkO9 f' n' x') : n = n' ∧ x = x' ∧ ∀ j, j < n.toInt.toNat → f j = f' j := by
  have e1 : n = n' := congrArg (fun w : Ob9 => w.2.1) h
  have e2 : x = x' := congrArg (fun w : Ob9 => w.2.2) h
  refine ⟨e1, e2, fun j hj => ?_⟩
  have z : (if j < n.toInt.toNat then f j else 0) = if j < n'.toInt.toNat then f' j else 0 := congrFun (congrArg (fun w : Ob9 => w.1) h) j
  rw [← e1, if_pos hj, if_pos hj] at z
  exact z
theorem mk_09 {f : Nat → Int32} {x : Int32} : mkO9 f 0 x = ((fun _ => 0, 0, x) : Ob9) := by
  refine Prod.ext (funext fun j => ?_) rfl
  show (if j < (0 : Int32).toInt.toNat then f j else 0) = 0
  exact if_neg (by show ¬ j < 0; omega)
theorem sh_49 : ∀ k, k < 20 → (((24 : Int32) - ((8 : Int32) * (Int32.ofNat k &&& (3 : Int32)))) &&& 31) = (((24 : Int32) - 8 * Int32.ofNat (k % 4)) &&& 31) := by decide
/-- the reference: fault, by what it answers -/
theorem fault_c9 {C : rCx} (hC : cOK C) {σ : rS} {Q : Int32 → rS → Prop} (h : ∀ (σ' : rS), ((∀ k, k ≠ 0 → σ'.1 k = σ.1 k) ∧ σ'.2 = σ.2) → Q (σ.1 53) σ') : cI C 0 m_fault [.ref (co C)] σ Q := by
  refine m_fault_run hC ?_
  unfold w_fault_0
  intro σ1 h1
  have e : σ1.1 53 = σ.1 53 := by rw [h1, si1, if_neg (by decide)]
  rw [e]
  exact h σ1 ⟨fun k hk => by rw [h1, si1, if_neg hk], by rw [h1, si2]⟩
/-- what a call keeps: tape, fault and code -/
def pR7 (σ τ : rS) : Prop := oR9 τ = oR9 σ ∧ kR7 σ τ
/-- what a call keeps: what was explored as well -/
def pR8 (σ τ : rS) : Prop := pR7 σ τ ∧ kS8 σ τ
def pT8 (σ τ : rS) : Prop := pR7 σ τ ∧ kT8 σ τ
def pD8 (k c : Int32) (σ σ' : rS) : Prop := pT8 σ σ' ∧ XU8 k c σ σ'
theorem kS_f8 {σ τ : rS} (hf : ∀ k, k ∈ ke8 → τ.1 k = σ.1 k) (hr : ∀ k, k ∈ kx8 → τ.2.2.1 k = σ.2.2.1 k) (hl : τ.2.1 110 = σ.2.1 110) : kS8 σ τ := ⟨hf, hr, hl⟩
def pL21 (p : Int32) (σ σ' : rS) : Prop := (oR9 σ' = oR9 σ ∧ kR7 σ σ') ∧ kX7 σ σ' ∧ (σ.1 104 = 200 → σ'.1 104 = 200 ∧ σ'.2.2.1 105 = σ.2.2.1 105) ∧ (σ.1 104 ≠ 200 → σ'.1 104 = σ.1 104 + 1 ∧ σ'.2.2.1 105 = upd (σ.2.2.1 105) (σ.1 104).toNatClampNeg p)
def pO21 (σ σ' : rS) : Prop := (oR9 σ' = oR9 σ ∧ kR7 σ σ') ∧ kX7 σ σ' ∧ σ'.1 104 = 0
def kD20 (σ σ' : rS) : Prop := σ'.1 104 = σ.1 104 ∧ σ'.2.2.1 105 = σ.2.2.1 105
def kS9 (σ τ : rS) : Prop := (∀ g, g ∈ ke8 → τ.1 g = σ.1 g) ∧ (∀ g, g ∈ kx8 → τ.2.2.1 g = σ.2.2.1 g)
def kQ23 (σ σ' : rS) : Prop := (∀ g, g = 106 ∨ g = 107 ∨ g = 108 ∨ g = 109 → σ'.1 g = σ.1 g) ∧ σ'.2.1 110 = σ.2.1 110 ∧ σ'.2.2.1 111 = σ.2.2.1 111
def XS22 (a1 : Int32) (σ σ' : rS) (v : Int32) : Prop := XS21 a1 σ σ' v ∧ kD20 σ σ' ∧ kQ23 σ σ'
theorem tell_g21 {C : rCx} (hC : cOK C) {σ : rS} {a1 : Int32} {Q : Int32 → rS → Prop} (hp : 0 ≤ σ.1 104 ∧ σ.1 104 ≤ 200) (h : ∀ (v : Int32) (σ' : rS), ((∀ k, k ≠ 0 → k ≠ 104 → σ'.1 k = σ.1 k) ∧ (∀ k, k ≠ 105 → σ'.2.2.1 k = σ.2.2.1 k) ∧ (∀ j, σ'.2.2.2 8 j = σ.2.2.2 8 j) ∧ σ'.2.1 110 = σ.2.1 110) ∧ (0 ≤ σ'.1 104 ∧ σ'.1 104 ≤ 200) ∧ (σ.1 104 = 200 → σ'.1 104 = 200 ∧ σ'.2.2.1 105 = σ.2.2.1 105) ∧ (σ.1 104 ≠ 200 → σ'.1 104 = σ.1 104 + 1 ∧ σ'.2.2.1 105 = upd (σ.2.2.1 105) (σ.1 104).toNatClampNeg a1) → Q v σ') : cI C 0 m_tell [.ref (co C), .int a1] σ Q := by
  have l200 : (200 : Int32).toInt = 200 := rfl
  obtain ⟨p0, p1⟩ := hp
  rw [lei, t0i] at p0
  rw [lei, l200] at p1
  refine m_tell_run hC ?_
  unfold w_tell_0
  refine ⟨fun c1 => ?_, fun c1 => ?_⟩
  · unfold w_tell_16
    intro σ_2 hσ_2
    have e2 : σ_2.1 104 = σ.1 104 := by rw [hσ_2, si1, if_neg (by decide)]
    have lt : (σ.1 104).toInt < 200 := by
      refine Decidable.byContradiction (fun z => c1 (Int32.toInt_inj.mp ?_))
      rw [l200]; omega
    refine ⟨fun c3 => ⟨ib_200.mpr ?_, ?_⟩, fun c3 => absurd (show σ_2.1 0 ≤ 0 by rw [hσ_2, si1, if_pos rfl]; decide) c3⟩
    · rw [e2]
      exact ⟨by rw [lei, t0i]; exact p0, by rw [lti, l200]; exact lt⟩
    intro σ_4 hσ_4
    intro σ_5 hσ_5
    have e1 : (1 : Int32).toInt = 1 := rfl
    have ad : (σ.1 104 + 1).toInt = (σ.1 104).toInt + 1 := by rw [add_i (by rw [e1]; omega) (by rw [e1]; omega), e1]
    have e5 : σ_5.1 104 = σ.1 104 + 1 := by rw [hσ_5, si1, if_pos rfl, hσ_4, ri1, e2]
    refine h _ _ ⟨⟨fun k k0 k1 => ?_, fun k k5 => ?_, fun j => ?_, ?_⟩, ⟨?_, ?_⟩, fun z => absurd z c1, fun _ => ⟨e5, ?_⟩⟩
    · rw [hσ_5, si1, if_neg k1, hσ_4, ri1, hσ_2, si1, if_neg k0]
    · rw [hσ_5, si2, hσ_4, ri3 k5, hσ_2, si2]
    · rw [hσ_5, si2, hσ_4, ri5, hσ_2, si2]
    · rw [hσ_5, si2, hσ_4, ri2, hσ_2, si2]
    · rw [e5, lei, t0i, ad]; omega
    · rw [e5, lei, l200, ad]; omega
    · rw [hσ_5, si2, hσ_4, ri_row, e2, hσ_2, si2]
  · unfold w_tell_16
    intro σ_2 hσ_2
    refine ⟨fun c3 => absurd (show σ_2.1 0 ≤ 0 from c3) (by rw [hσ_2, si1, if_pos rfl]; decide), fun c3 => ?_⟩
    have e2 : σ_2.1 104 = σ.1 104 := by rw [hσ_2, si1, if_neg (by decide)]
    refine h _ _ ⟨⟨fun k k0 k1 => ?_, fun k k5 => ?_, fun j => ?_, ?_⟩, ⟨?_, ?_⟩, fun _ => ⟨by rw [e2]; exact c1, by rw [hσ_2, si2]⟩, fun z => absurd c1 z⟩
    · rw [hσ_2, si1, if_neg k0]
    · rw [hσ_2, si2]
    · rw [hσ_2, si2]
    · rw [hσ_2, si2]
    · rw [e2, lei, t0i]; exact p0
    · rw [e2, lei, l200]; exact p1
abbrev kp23 : List Nat := [106, 107, 108, 109]
def kP23 (σ σ' : rS) : Prop := (∀ g, g ∈ kp23 → σ'.1 g = σ.1 g) ∧ σ'.2.1 110 = σ.2.1 110 ∧ σ'.2.2.1 111 = σ.2.2.1 111
theorem kP_t23 {σ σ' : rS} (k : kT8 σ σ') : kP23 σ σ' := ⟨fun g q => k.1 g ((by decide : ∀ g, g ∈ kp23 → g ∈ ke8) g q), k.2.2, k.2.1 111 (by decide)⟩
theorem kP_q23 {σ σ' : rS} (k : kQ23 σ σ') : kP23 σ σ' := ⟨fun g q => k.1 g ((by decide : ∀ g, g ∈ kp23 → g = 106 ∨ g = 107 ∨ g = 108 ∨ g = 109) g q), k.2⟩

end
section
set_option maxHeartbeats 1600000
/-! the reference: what holds between calls -/
theorem nu_k {σ τ : rS} {k : Nat} (g : τ.2.2.1 91 k = σ.2.2.1 91 k ∧ ∀ i, i < 40000 → τ.2.2.1 90 (40000 * k + i) = σ.2.2.1 90 (40000 * k + i)) (h : numO σ k) : numO τ k ∧ nV τ k = nV σ k ∧ nL τ k = nL σ k := by
  have el : nL τ k = nL σ k := by show (τ.2.2.1 91 k).toNatClampNeg = _; rw [g.1]
  have le := nL_le h
  refine ⟨⟨by rw [g.1]; exact h.1, by rw [g.1]; exact h.2.1, fun i hi => ?_, ?_⟩, ?_, el⟩
  · rw [el] at hi
    rw [g.2 i (by omega)]; exact h.2.2.1 i hi
  · rw [el]
    rcases h.2.2.2 with z | ⟨m, z1, z2⟩
    · exact Or.inl z
    · exact Or.inr ⟨m, z1, by rw [g.2 m (by omega)]; exact z2⟩
  · unfold nV
    rw [el]
    exact dv_congr (fun i hi => g.2 i (by omega))
abbrev rjP : List Nat := [15, 16, 17, 18, 19, 40, 41, 42]
abbrev rjQ : List Nat := [5, 7, 20, 22, 23, 24, 25, 26, 27, 28, 29, 30, 31, 32, 33, 34, 35, 36, 37, 38, 39, 43, 44]
/-- the book and the tape -/
def jBk (σ : rS) : Prop := (σ.1 3 = 0 ∨ σ.1 3 = 65537) ∧ tyAll σ ∧ (σ.1 14 ≠ 0 → ∃ T, progOK σ (σ.1 3) T)
def jVs (σ : rS) : Prop := σ.1 94 ≠ 0 → ∀ k, k < (σ.1 70).toNatClampNeg → vOK σ k
def jWo (σ : rS) : Prop := σ.1 114 ≠ 0 → ∀ k, k < (σ.1 70).toNatClampNeg → wkO σ 115 116 k
/-- what holds between calls -/
def rJ (σ : rS) : Prop := (0 ≤ σ.1 2 ∧ σ.1 2 ≤ 65536) ∧ jBk σ ∧ exP σ ∧ jVs σ ∧ jWo σ ∧ plN σ ∧ shO σ ∧ 0 ≤ σ.1 104 ∧ σ.1 104 ≤ 200
theorem ty_g9 {σ τ : rS} (h : tyAll σ) (ff : ∀ k, k ∈ rjP → τ.1 k = σ.1 k) (rr : ∀ k, k ∈ rjQ → τ.2.2.1 k = σ.2.2.1 k) : tyAll τ := by
  obtain ⟨g1, g3, g4, g5, g6⟩ := h
  refine ⟨?_, ?_, ?_, ?_, by rw [rr 37 (by decide)]; exact g6⟩
  · show tyF _ _ _ _ _ _ _ _
    rw [ff 15 (by decide), ff 16 (by decide), ff 17 (by decide), ff 18 (by decide), ff 19 (by decide), ff 40 (by decide), ff 41 (by decide), ff 42 (by decide)]
    exact g1
  · show tyN _ _ _ _ _ _
    rw [rr 20 (by decide), rr 22 (by decide), rr 25 (by decide), rr 28 (by decide), rr 26 (by decide), rr 27 (by decide)]
    exact g3
  · show tyA _ _
    rw [rr 23 (by decide), rr 24 (by decide)]
    exact g4
  · show tyS _ _ _ _ _ _ _ _
    rw [rr 29 (by decide), rr 33 (by decide), rr 34 (by decide), rr 35 (by decide), rr 36 (by decide), rr 38 (by decide), rr 43 (by decide), rr 44 (by decide)]
    exact g5
theorem jBk_o {σ τ : rS} (h : jBk σ) (h3 : τ.1 3 = σ.1 3) (h14 : τ.1 14 = σ.1 14) (ff : ∀ k, k ∈ rjP → τ.1 k = σ.1 k) (rr : ∀ k, k ∈ rjQ → τ.2.2.1 k = σ.2.2.1 k) : jBk τ := by
  refine ⟨by rw [h3]; exact h.1, ty_g9 h.2.1 ff rr, fun z => ?_⟩
  rw [h14] at z
  obtain ⟨T, g⟩ := h.2.2 z
  exact ⟨T, by rw [h3]; exact (rI_gen ⟨h.2.1, g⟩ ff rr).2⟩
theorem jVs_o {σ τ : rS} (h : jVs σ) (h94 : τ.1 94 ≠ 0 → σ.1 94 ≠ 0) (h70 : τ.1 70 = σ.1 70) (r : τ.2.2.1 102 = σ.2.2.1 102) : jVs τ := fun z k hk => vOK_f r (h (h94 z) k (by rw [← h70]; exact hk))
theorem jWo_o {σ τ : rS} (h : jWo σ) (h114 : τ.1 114 ≠ 0 → σ.1 114 ≠ 0) (h70 : τ.1 70 = σ.1 70) (r : τ.2.2.1 115 = σ.2.2.1 115) (r2 : τ.2.2.1 116 = σ.2.2.1 116) : jWo τ := fun z k hk => wkO_f r r2 (h (h114 z) k (by rw [← h70]; exact hk))
theorem plN_o {σ τ : rS} (h : plN σ) (h106 : τ.1 106 ≠ -1 → σ.1 106 ≠ -1) (hn : ∀ k, k = 17 ∨ k = 18 → τ.2.2.1 91 k = σ.2.2.1 91 k ∧ ∀ i, i < 40000 → τ.2.2.1 90 (40000 * k + i) = σ.2.2.1 90 (40000 * k + i)) : plN τ := by
  intro z
  have q := h (h106 z)
  have a := nu_k (hn 17 (Or.inl rfl)) q.1
  have b := nu_k (hn 18 (Or.inr rfl)) q.2.1
  rw [a.2.2, b.2.2, b.2.1]
  exact ⟨a.1, b.1, q.2.2⟩
theorem shO_o {σ τ : rS} (h : shO σ) (h103 : τ.1 103 = σ.1 103) (hn : ∀ k, k = 15 ∨ k = 16 → τ.2.2.1 91 k = σ.2.2.1 91 k ∧ ∀ i, i < 40000 → τ.2.2.1 90 (40000 * k + i) = σ.2.2.1 90 (40000 * k + i)) : shO τ := by
  intro z
  rw [h103] at z
  have q := h z
  exact ⟨(nu_k (hn 15 (Or.inl rfl)) q.1).1, (nu_k (hn 16 (Or.inr rfl)) q.2).1⟩
theorem rj34 {σ : rS} (h : tyAll σ) : 0 ≤ σ.1 15 + σ.1 17 ∧ σ.1 15 + σ.1 17 ≤ 34 := by
  have g : tyF _ _ _ _ _ _ _ _ := h.1
  obtain ⟨a0, a1, b0, b1, c0, c1, -⟩ := g
  generalize σ.1 15 = v at *
  generalize σ.1 16 = r at *
  generalize σ.1 17 = c at *
  have c24 : c ≤ 24 := by
    have e : r = 0 ∨ r = 1 ∨ r = 2 ∨ r = 3 := by grind
    rcases e with e | e | e | e <;> rw [e] at c1 <;> exact Int32.le_trans c1 (by decide)
  grind
abbrev rjF : List Nat := [3, 14, 15, 16, 17, 18, 19, 40, 41, 42, 70, 71, 72, 88, 94, 103, 106, 114]
abbrev rjR : List Nat := [5, 7, 20, 22, 23, 24, 25, 26, 27, 28, 29, 30, 31, 32, 33, 34, 35, 36, 37, 38, 39, 43, 44, 73, 76, 77, 78, 79, 80, 81, 83, 102, 115, 116]
def rjN (σ τ : rS) : Prop := ∀ k, 14 < k → k < 19 → τ.2.2.1 91 k = σ.2.2.1 91 k ∧ ∀ i, i < 40000 → τ.2.2.1 90 (40000 * k + i) = σ.2.2.1 90 (40000 * k + i)
theorem rjN_r {σ τ : rS} (h0 : τ.2.2.1 90 = σ.2.2.1 90) (h1 : τ.2.2.1 91 = σ.2.2.1 91) : rjN σ τ := fun k _ _ => ⟨by rw [h1], fun i _ => by rw [h0]⟩
theorem rjN_l {l : List Nat} {σ τ : rS} (h : ∀ k, k ∉ l → τ.2.2.1 91 k = σ.2.2.1 91 k ∧ ∀ i, i < 40000 → τ.2.2.1 90 (40000 * k + i) = σ.2.2.1 90 (40000 * k + i)) (hl : 15 ∉ l ∧ 16 ∉ l ∧ 17 ∉ l ∧ 18 ∉ l) : rjN σ τ := fun k z1 z2 => h k (by
  have e : k = 15 ∨ k = 16 ∨ k = 17 ∨ k = 18 := by omega
  rcases e with e | e | e | e <;> rw [e]
  · exact hl.1
  · exact hl.2.1
  · exact hl.2.2.1
  · exact hl.2.2.2)
/-- a call that changes nothing of it but the tape's size and the draws told -/
theorem rJ_c {σ τ : rS} (h : rJ σ) (h2 : 0 ≤ τ.1 2 ∧ τ.1 2 ≤ 65536) (h104 : 0 ≤ τ.1 104 ∧ τ.1 104 ≤ 200) (hf : ∀ k, k ∈ rjF → τ.1 k = σ.1 k) (hr : ∀ k, k ∈ rjR → τ.2.2.1 k = σ.2.2.1 k) (hn : rjN σ τ) : rJ τ := by
  obtain ⟨g1, g2, g3, g4, g5, g6, g7, g8⟩ := h
  refine ⟨h2, jBk_o g2 (hf 3 (by decide)) (hf 14 (by decide)) (fun k hk => hf k ((by decide : ∀ k, k ∈ rjP → k ∈ rjF) k hk)) (fun k hk => hr k ((by decide : ∀ k, k ∈ rjQ → k ∈ rjR) k hk)), exP_o g3 (fun k hk => hf k (by rcases hk with z | z | z | z <;> rw [z] <;> decide)) (fun k hk => hr k (by rcases hk with z | z | z | z | z | z | z | z <;> rw [z] <;> decide)), jVs_o g4 (by rw [hf 94 (by decide)]; exact fun z => z) (hf 70 (by decide)) (hr 102 (by decide)), jWo_o g5 (by rw [hf 114 (by decide)]; exact fun z => z) (hf 70 (by decide)) (hr 115 (by decide)) (hr 116 (by decide)), plN_o g6 (by rw [hf 106 (by decide)]; exact fun z => z) (fun k hk => hn k (by omega) (by omega)), shO_o g7 (hf 103 (by decide)) (fun k hk => hn k (by omega) (by omega)), h104⟩
theorem rJ_G {σ τ : rS} (h : rJ σ) (f : frG [0] [] σ τ) : rJ τ ∧ pR8 σ τ := ⟨rJ_c h (by rw [f.1 2 (by decide)]; exact h.1) (by rw [f.1 104 (by decide)]; exact h.2.2.2.2.2.2.2) (fun k hk => f.1 k ((by decide : ∀ k, k ∈ rjF → k ∉ [0]) k hk)) (fun k _ => f.2.2.1 k List.not_mem_nil) (rjN_r (f.2.2.1 90 List.not_mem_nil) (f.2.2.1 91 List.not_mem_nil)), ⟨⟨oR_k9 (f.1 2 (by decide)) (f.1 53 (by decide)) (f.2.2.1 1 List.not_mem_nil), kR_f7 (fun k hk => f.1 k ((by decide : ∀ k, k ∈ kf7 → k ∉ [0]) k hk)) (fun k _ => f.2.2.1 k List.not_mem_nil) (fun j => f.2.2.2 8 j)⟩, kS_f8 (fun k hk => f.1 k ((by decide : ∀ k, k ∈ ke8 → k ∉ [0]) k hk)) (fun k _ => f.2.2.1 k List.not_mem_nil) (f.2.1 110)⟩⟩
theorem rJ_T {σ τ : rS} (h : rJ σ) (f : frT [0] [] σ τ) : rJ τ ∧ pR8 σ τ := ⟨rJ_c h (by rw [f.1 2 (by decide)]; exact h.1) (by rw [f.1 104 (by decide)]; exact h.2.2.2.2.2.2.2) (fun k hk => f.1 k ((by decide : ∀ k, k ∈ rjF → k ∉ [0]) k hk)) (fun k hk => f.2.2.1 k ((by decide : ∀ k, k ∈ rjR → k ≠ 90) k hk) ((by decide : ∀ k, k ∈ rjR → k ≠ 91) k hk)) (rjN_l f.2.2.2.2 (by decide)), ⟨⟨oR_k9 (f.1 2 (by decide)) (f.1 53 (by decide)) (f.2.2.1 1 (by decide) (by decide)), kR_f7 (fun k hk => f.1 k ((by decide : ∀ k, k ∈ kf7 → k ∉ [0]) k hk)) (fun k hk => f.2.2.1 k ((by decide : ∀ k, k ∈ kz7 → k ≠ 90) k hk) ((by decide : ∀ k, k ∈ kz7 → k ≠ 91) k hk)) (fun j => by rw [f.2.2.2.1])⟩, kS_f8 (fun k hk => f.1 k ((by decide : ∀ k, k ∈ ke8 → k ∉ [0]) k hk)) (fun k hk => f.2.2.1 k ((by decide : ∀ k, k ∈ kx8 → k ≠ 90) k hk) ((by decide : ∀ k, k ∈ kx8 → k ≠ 91) k hk)) (by rw [f.2.1])⟩⟩
theorem rJ_U {σ τ : rS} (h : rJ σ) (f : frU ifF ifR ifL σ τ) : rJ τ ∧ pR8 σ τ := ⟨rJ_c h (by rw [f.1 2 (by decide)]; exact h.1) (by rw [f.1 104 (by decide)]; exact h.2.2.2.2.2.2.2) (fun k hk => f.1 k ((by decide : ∀ k, k ∈ rjF → k ∉ ifF) k hk)) (fun k hk => f.2.2.1 k ((by decide : ∀ k, k ∈ rjR → k ≠ 90) k hk) ((by decide : ∀ k, k ∈ rjR → k ≠ 91) k hk) ((by decide : ∀ k, k ∈ rjR → k ∉ ifR) k hk)) (rjN_l f.2.2.2.2 (by decide)), ⟨⟨oR_k9 (f.1 2 (by decide)) (f.1 53 (by decide)) (f.2.2.1 1 (by decide) (by decide) (by decide)), kR_f7 (fun k hk => f.1 k ((by decide : ∀ k, k ∈ kf7 → k ∉ ifF) k hk)) (fun k hk => f.2.2.1 k ((by decide : ∀ k, k ∈ kz7 → k ≠ 90) k hk) ((by decide : ∀ k, k ∈ kz7 → k ≠ 91) k hk) ((by decide : ∀ k, k ∈ kz7 → k ∉ ifR) k hk)) (fun j => by rw [f.2.2.2.1])⟩, kS_f8 (fun k hk => f.1 k ((by decide : ∀ k, k ∈ ke8 → k ∉ ifF) k hk)) (fun k hk => f.2.2.1 k ((by decide : ∀ k, k ∈ kx8 → k ≠ 90) k hk) ((by decide : ∀ k, k ∈ kx8 → k ≠ 91) k hk) ((by decide : ∀ k, k ∈ kx8 → k ∉ ifR) k hk)) (by rw [f.2.1])⟩⟩
section calls
variable {C : rCx} {σ : rS} {a1 a2 a3 a4 a5 : Int32}
theorem count_j (hC : cOK C) (J : rJ σ) {Q : Int32 → rS → Prop} (h : ∀ v σ', rJ σ' → pR8 σ σ' → Q v σ') : cI C 1 m_count [.ref (co C), .int a1] σ Q := count_c hC ⟨J.2.2.1.1.1.1, J.2.2.1.1.1.2⟩ (fun v σ' q => h v σ' (rJ_G J q).1 (rJ_G J q).2)
theorem state_j (hC : cOK C) (J : rJ σ) {Q : Int32 → rS → Prop} (h : ∀ v σ', rJ σ' → pR8 σ σ' → Q v σ') : cI C 1 m_state [.ref (co C), .int a1, .int a2] σ Q := state_c hC J.2.2.1 (fun v σ' q => h v σ' (rJ_G J q).1 (rJ_G J q).2)
theorem value_j (hC : cOK C) (J : rJ σ) {Q : Int32 → rS → Prop} (h : ∀ v σ', rJ σ' → pR8 σ σ' → Q v σ') : cI C 1 m_value [.ref (co C), .int a1, .int a2, .int a3] σ Q := value_c hC ⟨J.2.2.1, J.2.1.2.1⟩ (fun v σ' q => h v σ' (rJ_G J q).1 (rJ_G J q).2)
theorem next_j (hC : cOK C) (J : rJ σ) {Q : Int32 → rS → Prop} (h : ∀ v σ', rJ σ' → pR8 σ σ' → Q v σ') : cI C 1 m_next [.ref (co C), .int a1, .int a2, .int a3] σ Q := next_c hC J.2.2.1 (fun v σ' q => h v σ' (rJ_G J q).1 (rJ_G J q).2)
theorem ending_j (hC : cOK C) (J : rJ σ) {Q : Int32 → rS → Prop} (h : ∀ v σ', rJ σ' → pR8 σ σ' → Q v σ') : cI C 0 m_ending [.ref (co C), .int a1, .int a2] σ Q := ending_c hC ⟨J.2.2.1, J.2.1.2.1⟩ (fun v σ' q => h v σ' (rJ_G J q).1 (rJ_G J q).2)
theorem decided_j (hC : cOK C) (J : rJ σ) {Q : Int32 → rS → Prop} (h : ∀ v σ', rJ σ' → pR8 σ σ' → Q v σ') : cI C 1 m_decided [.ref (co C), .int a1] σ Q := decided_c hC J.2.2.1 (fun v σ' q => h v σ' (rJ_G J q).1 (rJ_G J q).2)
theorem size_j (hC : cOK C) (J : rJ σ) {Q : Int32 → rS → Prop} (h : ∀ v σ', rJ σ' → pR8 σ σ' → Q v σ') : cI C 1 m_size [.ref (co C), .int a1] σ Q := size_c hC J.2.2.2.2.2.2.1 (fun v σ' q => h v σ' (rJ_T J q).1 (rJ_T J q).2)
theorem limb_j (hC : cOK C) (J : rJ σ) {Q : Int32 → rS → Prop} (h : ∀ v σ', rJ σ' → pR8 σ σ' → Q v σ') : cI C 1 m_limb [.ref (co C), .int a1, .int a2] σ Q := limb_c hC J.2.2.2.2.2.2.1 (fun v σ' q => h v σ' (rJ_T J q).1 (rJ_T J q).2)
theorem played_j (hC : cOK C) (J : rJ σ) {Q : Int64 → rS → Prop} (h : ∀ v σ', rJ σ' → pR8 σ σ' → Q v σ') : cJ C 0 m_played [.ref (co C), .int a1] σ Q := played_c hC (rj34 J.2.1.2.1) (fun v σ' q => h v σ' (rJ_T J q).1 (rJ_T J q).2)
theorem independent_j (hC : cOK C) (J : rJ σ) {Q : Int32 → rS → Prop} (h : ∀ v σ', rJ σ' → pR8 σ σ' → Q v σ') : cI C 9 m_independent [.ref (co C), .int a1, .int a2] σ Q := independent_c hC _ ⟨pOK_of J.2.2.1, rfl, J.2.2.2.1, (rj34 J.2.1.2.1).2⟩ (fun v σ' q => h v σ' (rJ_U J q).1 (rJ_U J q).2)
theorem given_j (hC : cOK C) (J : rJ σ) {Q : Int32 → rS → Prop} (h : ∀ v σ', rJ σ' → pR8 σ σ' → Q v σ') : cI C 9 m_given [.ref (co C), .int a1, .int a2, .int a3] σ Q := given_c hC _ ⟨pOK_of J.2.2.1, rfl, J.2.2.2.1, (rj34 J.2.1.2.1).2⟩ (fun v σ' q => h v σ' (rJ_U J q).1 (rJ_U J q).2)
end calls

end
section
set_option maxHeartbeats 1600000
/-! the reference: feed by its bytes; feed, end, fault, tell, forget -/
/-- on feed's way: the bytes written so far -/
def fbI9 (a b c d e : Int32) (σ : rS) (l : Int32) (τ : rS) : Prop := (∀ j, j < (σ.1 2).toInt.toNat → τ.2.2.1 1 j = σ.2.2.1 1 j) ∧ (∀ i : Nat, (i : Int) < l.toInt → τ.2.2.1 1 ((σ.1 2).toInt.toNat + i) = by9 a b c d e i)
theorem fb_09 {a b c d e x : Int32} {σ : rS} : fbI9 a b c d e σ 0 (siU σ 0 x) := ⟨fun _ _ => rfl, fun i hi => absurd hi (by rw [t0i]; omega)⟩
theorem fb_s9 {a b c d e l s0 : Int32} {σ τ : rS} (h0 : 0 ≤ σ.1 2) (h60 : σ.1 2 ≤ 60000) (h2 : τ.1 2 = σ.1 2 + l) (l0 : 0 ≤ l) (l20 : l < 20) (hs : s0 = vs9 a b c d e l.toInt.toNat) (h : fbI9 a b c d e σ l τ) : fbI9 a b c d e σ (l + 1) (siU (riU τ 1 (τ.1 2).toNatClampNeg (vp_nar .byte ((s0 >>> (((24 : Int32) - ((8 : Int32) * (l &&& (3 : Int32)))) &&& 31))).toInt8.toInt32)) 2 ((riU τ 1 (τ.1 2).toNatClampNeg (vp_nar .byte ((s0 >>> (((24 : Int32) - ((8 : Int32) * (l &&& (3 : Int32)))) &&& 31))).toInt8.toInt32)).1 2 + 1)) := by
  have t60 : (60000 : Int32).toInt = 60000 := rfl
  have t20 : (20 : Int32).toInt = 20 := rfl
  rw [lei, t0i] at h0 l0
  rw [lei, t60] at h60
  rw [lti, t20] at l20
  have e2 : (τ.1 2).toInt = (σ.1 2).toInt + l.toInt := by rw [h2, add_i (by omega) (by omega)]
  have el : (l + 1).toInt = l.toInt + 1 := by rw [add_i (by rw [t1i]; omega) (by rw [t1i]; omega), t1i]
  have ci : (τ.1 2).toNatClampNeg = (σ.1 2).toInt.toNat + l.toInt.toNat := by
    have z := cnk (x := τ.1 2) (by omega)
    omega
  have lo : l = Int32.ofNat l.toInt.toNat := Int32.toInt_inj.mp (by rw [ofn_i (by omega)]; omega)
  have sh : (((24 : Int32) - ((8 : Int32) * (l &&& (3 : Int32)))) &&& 31) = (((24 : Int32) - 8 * Int32.ofNat (l.toInt.toNat % 4)) &&& 31) := by
    have z := sh_49 l.toInt.toNat (by omega)
    rw [← lo] at z
    exact z
  have rw1 : ∀ j, (siU (riU τ 1 (τ.1 2).toNatClampNeg (vp_nar .byte ((s0 >>> (((24 : Int32) - ((8 : Int32) * (l &&& (3 : Int32)))) &&& 31))).toInt8.toInt32)) 2 ((riU τ 1 (τ.1 2).toNatClampNeg (vp_nar .byte ((s0 >>> (((24 : Int32) - ((8 : Int32) * (l &&& (3 : Int32)))) &&& 31))).toInt8.toInt32)).1 2 + 1)).2.2.1 1 j = if j = (σ.1 2).toInt.toNat + l.toInt.toNat then by9 a b c d e l.toInt.toNat else τ.2.2.1 1 j := fun j => by
    show (riU τ 1 (τ.1 2).toNatClampNeg _).2.2.1 1 j = _
    rw [ri4, ci]
    unfold by9 bw9
    rw [← hs, sh]
  refine ⟨fun j hj => ?_, fun i hi => ?_⟩
  · rw [rw1, if_neg (by omega)]
    exact h.1 j hj
  · rw [rw1]
    rw [el] at hi
    by_cases q : i = l.toInt.toNat
    · rw [if_pos (by omega), q]
    · rw [if_neg (by omega)]
      exact h.2 i (by omega)
theorem feed_c9 {C : rCx} (hC : cOK C)  {σ : rS} {a1 : Int32} {a2 : Int32} {a3 : Int32} {a4 : Int32} {a5 : Int32} {Q : Int32 → rS → Prop} (hp : 0 ≤ σ.1 2 ∧ σ.1 2 ≤ 60000) (h : ∀ (v : Int32) (σ' : rS), (((∀ k, k ≠ 0 → k ≠ 2 → σ'.1 k = σ.1 k) ∧ (∀ k,  σ'.2.1 k = σ.2.1 k) ∧ (∀ k, k ≠ 1 → σ'.2.2.1 k = σ.2.2.1 k) ∧ (∀ k j, k ≠ 1 → σ'.2.2.1 k j = σ.2.2.1 k j) ∧ (∀ k j,  σ'.2.2.2 k j = σ.2.2.2 k j)) ∧ 0 ≤ σ'.1 2 ∧ σ'.1 2 ≤ 65536 ∧ v = σ.1 2 + 20 ∧ σ'.1 2 = σ.1 2 + 20 ∧ σ'.1 0 = 0 ∧ (∀ j, j < (σ.1 2).toInt.toNat → σ'.2.2.1 1 j = σ.2.2.1 1 j) ∧ (∀ i, i < 20 → σ'.2.2.1 1 ((σ.1 2).toInt.toNat + i) = by9 a1 a2 a3 a4 a5 i)) → Q v σ') : cI C 0 m_feed [.ref (co C), .int a1, .int a2, .int a3, .int a4, .int a5] σ Q := by
  refine m_feed_run hC ?_
  unfold w_feed_0
  have hj18 : ∀ (l1 : Int32) (l2 : Int32) (l3 : Int32) (l4 : Int32) (l5 : Int32) (s1 : Int32) (τ : rS), (l1 = a1 ∧ l2 = a2 ∧ l3 = a3 ∧ l4 = a4 ∧ l5 = a5 ∧ τ = σ ∧ s1 = 0) → w_feed_18 C Q  l1 l2 l3 l4 l5 s1 τ := by
    rintro y18_1 y18_2 y18_3 y18_4 y18_5 y18_s1 τ18 j18
    unfold w_feed_18
    intro σ_1 hσ_1
    refine ⟨fun c2 => ?_, fun c2 => ?_⟩
    · skip
      unfold w_feed_33
      refine ⟨fun n l1 l2 l3 l4 l5 l6 τ => n = (20 - l6).toNatClampNeg ∧ (l1 = a1 ∧ l2 = a2 ∧ l3 = a3 ∧ l4 = a4 ∧ l5 = a5 ∧ ((∀ k, k ≠ 0 → k ≠ 2 → τ.1 k = σ.1 k) ∧ (∀ k,  τ.2.1 k = σ.2.1 k) ∧ (∀ k, k ≠ 1 → τ.2.2.1 k = σ.2.2.1 k) ∧ (∀ k j, k ≠ 1 → τ.2.2.1 k j = σ.2.2.1 k j) ∧ (∀ k j,  τ.2.2.2 k j = σ.2.2.2 k j)) ∧ τ.1 0 = 0 ∧ τ.1 2 = σ.1 2 + l6 ∧ 0 ≤ l6 ∧ l6 ≤ 20 ∧ σ.1 2 + 20 ≤ 65536 ∧ fbI9 a1 a2 a3 a4 a5 σ l6 τ), ⟨_, rfl, ?_⟩, ?_⟩
      · clear h
        obtain ⟨j1, j2, j3, j4, j5, j6, j7⟩ := j18
        have fb : fbI9 a1 a2 a3 a4 a5 σ 0 σ_1 := by
          rw [hσ_1, j6]
          exact fb_09
        refine ⟨j1, j2, j3, j4, j5, ?_, ?_, ?_, by decide, by decide, ?_, fb⟩
        · grind (splits := 24) [si1, si2, ri1, ri2, ri3, ri34, ri5, ob_ri, ob_si2, ob_only, ob_refl, vb5]
        · grind (splits := 24) [si1, si2, ri1, ri2, ri3, ri34, ri5, ob_ri, ob_si2, ob_only, ob_refl, vb5]
        · grind (splits := 24) [si1, si2, ri1, ri2, ri3, ri34, ri5, ob_ri, ob_si2, ob_only, ob_refl, vb5]
        · clear fb; grind (splits := 24) [si1, si2, ri1, ri2, ri3, ri34, ri5, ob_ri, ob_si2, ob_only, ob_refl, vb5]
      rintro n33 x33_1 x33_2 x33_3 x33_4 x33_5 x33_6 σ33 ⟨hn33, i33⟩
      have hj86 : ∀ (l1 : Int32) (l2 : Int32) (l3 : Int32) (l4 : Int32) (l5 : Int32) (l6 : Int32) (s0 : Int32) (τ : rS), (l1 = a1 ∧ l2 = a2 ∧ l3 = a3 ∧ l4 = a4 ∧ l5 = a5 ∧ τ = σ33 ∧ l6 = x33_6 ∧ l6 < 20 ∧ s0 = vs9 a1 a2 a3 a4 a5 l6.toInt.toNat) → w_feed_86 C Q (fun l1' l2' l3' l4' l5' l6' τ => ∃ k < n33, (fun n l1 l2 l3 l4 l5 l6 τ => n = (20 - l6).toNatClampNeg ∧ (l1 = a1 ∧ l2 = a2 ∧ l3 = a3 ∧ l4 = a4 ∧ l5 = a5 ∧ ((∀ k, k ≠ 0 → k ≠ 2 → τ.1 k = σ.1 k) ∧ (∀ k,  τ.2.1 k = σ.2.1 k) ∧ (∀ k, k ≠ 1 → τ.2.2.1 k = σ.2.2.1 k) ∧ (∀ k j, k ≠ 1 → τ.2.2.1 k j = σ.2.2.1 k j) ∧ (∀ k j,  τ.2.2.2 k j = σ.2.2.2 k j)) ∧ τ.1 0 = 0 ∧ τ.1 2 = σ.1 2 + l6 ∧ 0 ≤ l6 ∧ l6 ≤ 20 ∧ σ.1 2 + 20 ≤ 65536 ∧ fbI9 a1 a2 a3 a4 a5 σ l6 τ)) k l1' l2' l3' l4' l5' l6' τ) l1 l2 l3 l4 l5 l6 s0 τ := by
        rintro y86_1 y86_2 y86_3 y86_4 y86_5 y86_6 y86_s0 τ86 j86
        unfold w_feed_86
        refine ⟨ib_65536.mpr ?_, ?_⟩
        · clear h; grind (splits := 24) [si1, si2, ri1, ri2, ri3, ri34, ri5, ob_ri, ob_si2, ob_only, ob_refl, vb5]  -- b2
        intro σ_3 hσ_3
        intro σ_4 hσ_4
        intro x5 hx5
        refine ⟨_, cn_lt2 hn33 ?_ ?_, rfl, ?_⟩
        · clear h; grind (splits := 24) [si1, si2, ri1, ri2, ri3, ri34, ri5, ob_ri, ob_si2, ob_only, ob_refl, vb5]  -- d3
        · clear h; grind (splits := 24) [si1, si2, ri1, ri2, ri3, ri34, ri5, ob_ri, ob_si2, ob_only, ob_refl, vb5]  -- d4
        · clear h
          obtain ⟨j1, j2, j3, j4, j5, j6, j7, j8, j9⟩ := j86
          obtain ⟨i1, i2, i3, i4, i5, i6, i7, i8, i9, i10, i11, fb⟩ := i33
          have fb2 : fbI9 a1 a2 a3 a4 a5 σ x5 σ_4 := by
            rw [hσ_4, hσ_3, j6, hx5, j7]
            exact fb_s9 hp.1 hp.2 i8 i9 (by rw [← j7]; exact j8) (by rw [← j7]; exact j9) fb
          refine ⟨j1, j2, j3, j4, j5, ?_, ?_, ?_, ?_, ?_, i11, fb2⟩ <;> (clear fb fb2; grind (splits := 24) [si1, si2, ri1, ri2, ri3, ri34, ri5, ob_ri, ob_si2, ob_only, ob_refl, vb5])
      refine ⟨fun c6 => ?_, fun c6 => ?_⟩
      · skip
        refine h _ _ ?_
        · clear h
          obtain ⟨i1, i2, i3, i4, i5, i6, i7, i8, i9, i10, i11, fb⟩ := i33
          have e6 : x33_6 = 20 := Int32.le_antisymm i10 c6
          rw [e6] at i8 fb
          refine ⟨i6, ?_, ?_, i8, i8, i7, fb.1, fun i hi => fb.2 i (by show (i : Int) < 20; omega)⟩ <;> (clear fb; grind (splits := 24) [si1, si2, ri1, ri2, ri3, ri34, ri5, ob_ri, ob_si2, ob_only, ob_refl, vb5])
      · skip
        refine ⟨fun c7 => ?_, fun c7 => ?_⟩
        · skip
          refine ⟨fun c8 => ?_, fun c8 => ?_⟩
          · skip
            refine ⟨fun c9 => ?_, fun c9 => ?_⟩
            · skip
              refine ⟨fun c10 => ?_, fun c10 => ?_⟩
              · skip
                refine hj86 _ _ _ _ _ _ _ _ ?_
                · clear h
                  obtain ⟨i1, i2, i3, i4, i5, i6, i7, i8, i9, i10, i11, fb⟩ := i33
                  refine ⟨i1, i2, i3, i4, i5, rfl, rfl, n_lt c6, ?_⟩
                  have t4 : (4 : Int32).toInt = 4 := rfl
                  have t8 : (8 : Int32).toInt = 8 := rfl
                  have t12 : (12 : Int32).toInt = 12 := rfl
                  have t16 : (16 : Int32).toInt = 16 := rfl
                  have t20 : (20 : Int32).toInt = 20 := rfl
                  rw [lei] at c6 i9 c7 c8 c9 c10
                  rw [t0i] at i9
                  unfold vs9
                  rw [if_neg (by omega), if_neg (by omega), if_neg (by omega), if_neg (by omega)]
                  exact i5
              · skip
                refine hj86 _ _ _ _ _ _ _ _ ?_
                · clear h
                  obtain ⟨i1, i2, i3, i4, i5, i6, i7, i8, i9, i10, i11, fb⟩ := i33
                  refine ⟨i1, i2, i3, i4, i5, rfl, rfl, n_lt c6, ?_⟩
                  have t4 : (4 : Int32).toInt = 4 := rfl
                  have t8 : (8 : Int32).toInt = 8 := rfl
                  have t12 : (12 : Int32).toInt = 12 := rfl
                  have t16 : (16 : Int32).toInt = 16 := rfl
                  have t20 : (20 : Int32).toInt = 20 := rfl
                  rw [lei] at c6 i9 c7 c8 c9 c10
                  rw [t0i] at i9
                  unfold vs9
                  rw [if_neg (by omega), if_neg (by omega), if_neg (by omega), if_pos (by omega)]
                  exact i4
            · skip
              refine hj86 _ _ _ _ _ _ _ _ ?_
              · clear h
                obtain ⟨i1, i2, i3, i4, i5, i6, i7, i8, i9, i10, i11, fb⟩ := i33
                refine ⟨i1, i2, i3, i4, i5, rfl, rfl, n_lt c6, ?_⟩
                have t4 : (4 : Int32).toInt = 4 := rfl
                have t8 : (8 : Int32).toInt = 8 := rfl
                have t12 : (12 : Int32).toInt = 12 := rfl
                have t16 : (16 : Int32).toInt = 16 := rfl
                have t20 : (20 : Int32).toInt = 20 := rfl
                rw [lei] at c6 i9 c7 c8 c9
                rw [t0i] at i9
                unfold vs9
                rw [if_neg (by omega), if_neg (by omega), if_pos (by omega)]
                exact i3
          · skip
            refine hj86 _ _ _ _ _ _ _ _ ?_
            · clear h
              obtain ⟨i1, i2, i3, i4, i5, i6, i7, i8, i9, i10, i11, fb⟩ := i33
              refine ⟨i1, i2, i3, i4, i5, rfl, rfl, n_lt c6, ?_⟩
              have t4 : (4 : Int32).toInt = 4 := rfl
              have t8 : (8 : Int32).toInt = 8 := rfl
              have t12 : (12 : Int32).toInt = 12 := rfl
              have t16 : (16 : Int32).toInt = 16 := rfl
              have t20 : (20 : Int32).toInt = 20 := rfl
              rw [lei] at c6 i9 c7 c8
              rw [t0i] at i9
              unfold vs9
              rw [if_neg (by omega), if_pos (by omega)]
              exact i2
        · skip
          refine hj86 _ _ _ _ _ _ _ _ ?_
          · clear h
            obtain ⟨i1, i2, i3, i4, i5, i6, i7, i8, i9, i10, i11, fb⟩ := i33
            refine ⟨i1, i2, i3, i4, i5, rfl, rfl, n_lt c6, ?_⟩
            have t4 : (4 : Int32).toInt = 4 := rfl
            have t8 : (8 : Int32).toInt = 8 := rfl
            have t12 : (12 : Int32).toInt = 12 := rfl
            have t16 : (16 : Int32).toInt = 16 := rfl
            have t20 : (20 : Int32).toInt = 20 := rfl
            rw [lei] at c6 i9 c7
            rw [t0i] at i9
            unfold vs9
            rw [if_pos (by omega)]
            exact i1
    · skip
      refine h _ _ ?_
      · clear h; grind (splits := 24) [si1, si2, ri1, ri2, ri3, ri34, ri5, ob_ri, ob_si2, ob_only, ob_refl, vb5]  -- q12
  refine ⟨fun c11 => ?_, fun c11 => ?_⟩
  · skip
    refine hj18 _ _ _ _ _ _ _ ?_
    · clear h; grind (splits := 24) [si1, si2, ri1, ri2, ri3, ri34, ri5, ob_ri, ob_si2, ob_only, ob_refl, vb5]  -- k13
  · skip
    refine hj18 _ _ _ _ _ _ _ ?_
    · clear h; grind (splits := 24) [si1, si2, ri1, ri2, ri3, ri34, ri5, ob_ri, ob_si2, ob_only, ob_refl, vb5]  -- k14

theorem end_c2 {C : rCx} (hC : cOK C)  {σ : rS} {a1 : Int32} {Q : rS → Prop} (hp : 0 ≤ σ.1 2 ∧ σ.1 2 ≤ 65536) (h : ∀ (σ' : rS), (((∀ k, k ≠ 0 → k ≠ 2 → σ'.1 k = σ.1 k) ∧ σ'.2 = σ.2) ∧ 0 ≤ σ'.1 2 ∧ σ'.1 2 ≤ 65536 ∧ ((0 ≤ a1 ∧ a1 ≤ σ.1 2) → σ'.1 0 = 0 ∧ σ'.1 2 = a1) ∧ (¬ (0 ≤ a1 ∧ a1 ≤ σ.1 2) → σ'.1 0 = 1 ∧ σ'.1 2 = σ.1 2)) → Q σ') : cV C 0 m_end [.ref (co C), .int a1] σ Q := by
  refine m_end_run hC ?_
  unfold w_end_0
  refine ⟨fun c1 => ?_, fun c1 => ?_⟩
  · skip
    unfold w_end_18
    intro σ_2 hσ_2
    refine ⟨fun c3 => ?_, fun c3 => ?_⟩
    · skip
      intro σ_4 hσ_4
      refine h _ ?_
      · clear h; grind (splits := 24) [si1, si2, ri1, ri2, ri3, ri34, ri5, ob_ri, ob_si2, ob_only, ob_refl, vb5]  -- q1
    · skip
      intro σ_5 hσ_5
      refine h _ ?_
      · clear h; grind (splits := 24) [si1, si2, ri1, ri2, ri3, ri34, ri5, ob_ri, ob_si2, ob_only, ob_refl, vb5]  -- q2
  · skip
    refine ⟨fun c6 => ?_, fun c6 => ?_⟩
    · skip
      unfold w_end_18
      intro σ_7 hσ_7
      refine ⟨fun c8 => ?_, fun c8 => ?_⟩
      · skip
        intro σ_9 hσ_9
        refine h _ ?_
        · clear h; grind (splits := 24) [si1, si2, ri1, ri2, ri3, ri34, ri5, ob_ri, ob_si2, ob_only, ob_refl, vb5]  -- q3
      · skip
        intro σ_10 hσ_10
        refine h _ ?_
        · clear h; grind (splits := 24) [si1, si2, ri1, ri2, ri3, ri34, ri5, ob_ri, ob_si2, ob_only, ob_refl, vb5]  -- q4
    · skip
      unfold w_end_18
      intro σ_11 hσ_11
      refine ⟨fun c12 => ?_, fun c12 => ?_⟩
      · skip
        intro σ_13 hσ_13
        refine h _ ?_
        · clear h; grind (splits := 24) [si1, si2, ri1, ri2, ri3, ri34, ri5, ob_ri, ob_si2, ob_only, ob_refl, vb5]  -- q5
      · skip
        intro σ_14 hσ_14
        refine h _ ?_
        · clear h; grind (splits := 24) [si1, si2, ri1, ri2, ri3, ri34, ri5, ob_ri, ob_si2, ob_only, ob_refl, vb5]  -- q6

theorem feed_j {C : rCx} {σ : rS} {a1 a2 a3 a4 a5 : Int32} (hC : cOK C) (J : rJ σ) (h60 : σ.1 2 ≤ 60000) {Q : Int32 → rS → Prop} (h : ∀ v σ', rJ σ' → (oR9 σ' = fdO9 (oR9 σ) (by9 a1 a2 a3 a4 a5) ∧ kR7 σ σ') ∧ kS8 σ σ' → Q v σ') : cI C 0 m_feed [.ref (co C), .int a1, .int a2, .int a3, .int a4, .int a5] σ Q := feed_c9 hC ⟨J.1.1, h60⟩ (fun v σ' q => h v σ' (rJ_c J ⟨q.2.1, q.2.2.1⟩ (by rw [q.1.1 104 (by decide) (by decide)]; exact J.2.2.2.2.2.2.2) (fun k hk => q.1.1 k ((by decide : ∀ k, k ∈ rjF → k ≠ 0) k hk) ((by decide : ∀ k, k ∈ rjF → k ≠ 2) k hk)) (fun k hk => q.1.2.2.1 k ((by decide : ∀ k, k ∈ rjR → k ≠ 1) k hk)) (rjN_r (q.1.2.2.1 90 (by decide)) (q.1.2.2.1 91 (by decide)))) ⟨⟨(by
    have h0 := J.1.1
    have t60 : (60000 : Int32).toInt = 60000 := rfl
    have h61 := h60
    rw [lei, t0i] at h0
    rw [lei, t60] at h61
    have z := fd_m9 (f := σ.2.2.1 1) (f' := σ'.2.2.1 1) (G := by9 a1 a2 a3 a4 a5) (x := σ.1 53) h0 h61 q.2.2.2.2.1 q.2.2.2.2.2.2.1 q.2.2.2.2.2.2.2
    unfold oR9
    rw [q.1.1 53 (by decide) (by decide)]
    exact z), kR_f7 (fun k hk => q.1.1 k ((by decide : ∀ k, k ∈ kf7 → k ≠ 0) k hk) ((by decide : ∀ k, k ∈ kf7 → k ≠ 2) k hk)) (fun k hk => q.1.2.2.1 k ((by decide : ∀ k, k ∈ kz7 → k ≠ 1) k hk)) (fun j => q.1.2.2.2.2 8 j)⟩, kS_f8 (fun k hk => q.1.1 k ((by decide : ∀ k, k ∈ ke8 → k ≠ 0) k hk) ((by decide : ∀ k, k ∈ ke8 → k ≠ 2) k hk)) (fun k hk => q.1.2.2.1 k ((by decide : ∀ k, k ∈ kx8 → k ≠ 1) k hk)) (q.1.2.1 110)⟩)
theorem end_j {C : rCx} {σ : rS} {a1 : Int32} (hC : cOK C) (J : rJ σ) {Q : rS → Prop} (h : ∀ σ', rJ σ' → (oR9 σ' = trO9 (oR9 σ) a1 ∧ kR7 σ σ') ∧ kS8 σ σ' → Q σ') : cV C 0 m_end [.ref (co C), .int a1] σ Q := end_c2 hC J.1 (fun σ' q => h σ' (rJ_c J ⟨q.2.1, q.2.2.1⟩ (by rw [q.1.1 104 (by decide) (by decide)]; exact J.2.2.2.2.2.2.2) (fun k hk => q.1.1 k ((by decide : ∀ k, k ∈ rjF → k ≠ 0) k hk) ((by decide : ∀ k, k ∈ rjF → k ≠ 2) k hk)) (fun k _ => by rw [q.1.2]) (rjN_r (by rw [q.1.2]) (by rw [q.1.2]))) ⟨⟨(by
    unfold oR9
    rw [q.1.1 53 (by decide) (by decide), q.1.2]
    by_cases c : 0 ≤ a1 ∧ a1 ≤ σ.1 2
    · rw [tr_m9 c, (q.2.2.2.1 c).2]
    · rw [tr_n9 c, (q.2.2.2.2 c).2]), kR_f7 (fun k hk => q.1.1 k ((by decide : ∀ k, k ∈ kf7 → k ≠ 0) k hk) ((by decide : ∀ k, k ∈ kf7 → k ≠ 2) k hk)) (fun k _ => by rw [q.1.2]) (fun j => by rw [q.1.2])⟩, kS_f8 (fun k hk => q.1.1 k ((by decide : ∀ k, k ∈ ke8 → k ≠ 0) k hk) ((by decide : ∀ k, k ∈ ke8 → k ≠ 2) k hk)) (fun k _ => by rw [q.1.2]) (by rw [q.1.2])⟩)
theorem fault_j {C : rCx} {σ : rS} (hC : cOK C) (J : rJ σ) {Q : Int32 → rS → Prop} (h : ∀ v σ', rJ σ' → v = σ.1 53 → pR8 σ σ' → Q v σ') : cI C 0 m_fault [.ref (co C)] σ Q := fault_c9 hC (fun σ' q => h _ σ' (rJ_c J (by rw [q.1 2 (by decide)]; exact J.1) (by rw [q.1 104 (by decide)]; exact J.2.2.2.2.2.2.2) (fun k hk => q.1 k ((by decide : ∀ k, k ∈ rjF → k ≠ 0) k hk)) (fun k _ => by rw [q.2]) (rjN_r (by rw [q.2]) (by rw [q.2]))) rfl ⟨⟨oR_k9 (q.1 2 (by decide)) (q.1 53 (by decide)) (by rw [q.2]), kR_f7 (fun k hk => q.1 k ((by decide : ∀ k, k ∈ kf7 → k ≠ 0) k hk)) (fun k _ => by rw [q.2]) (fun j => by rw [q.2])⟩, kS_f8 (fun k hk => q.1 k ((by decide : ∀ k, k ∈ ke8 → k ≠ 0) k hk)) (fun k _ => by rw [q.2]) (by rw [q.2])⟩)
theorem forget_j {C : rCx} {σ : rS} (hC : cOK C) (J : rJ σ) {Q : Int32 → rS → Prop} (h : ∀ v σ', rJ σ' → (pO21 σ σ' ∧ kP23 σ σ') → Q v σ') : cI C 0 m_forget [.ref (co C)] σ Q := forget_c hC (fun v σ' q => h v σ' (rJ_c J (by rw [q.1.1 2 (by decide) (by decide)]; exact J.1) (by rw [q.2.2]; decide) (fun k hk => q.1.1 k ((by decide : ∀ k, k ∈ rjF → k ≠ 0) k hk) ((by decide : ∀ k, k ∈ rjF → k ≠ 104) k hk)) (fun k _ => by rw [q.1.2]) (rjN_r (by rw [q.1.2]) (by rw [q.1.2]))) ⟨⟨⟨oR_k9 (q.1.1 2 (by decide) (by decide)) (q.1.1 53 (by decide) (by decide)) (by rw [q.1.2]), kR_f7 (fun k hk => q.1.1 k ((by decide : ∀ k, k ∈ kf7 → k ≠ 0) k hk) ((by decide : ∀ k, k ∈ kf7 → k ≠ 104) k hk)) (fun k _ => by rw [q.1.2]) (fun j => by rw [q.1.2])⟩, ⟨(fun k hk => q.1.1 k ((by decide : ∀ k, k ∈ kd7 → k ≠ 0) k hk) ((by decide : ∀ k, k ∈ kd7 → k ≠ 104) k hk)), (fun k _ => by rw [q.1.2])⟩, q.2.2⟩, ⟨fun k hk => q.1.1 k ((by decide : ∀ k, k ∈ kp23 → k ≠ 0) k hk) ((by decide : ∀ k, k ∈ kp23 → k ≠ 104) k hk), by rw [q.1.2], by rw [q.1.2]⟩⟩)
theorem tell_j {C : rCx} {σ : rS} {a1 : Int32} (hC : cOK C) (J : rJ σ) {Q : Int32 → rS → Prop} (h : ∀ v σ', rJ σ' → (pL21 a1 σ σ' ∧ kP23 σ σ') → Q v σ') : cI C 0 m_tell [.ref (co C), .int a1] σ Q := tell_g21 hC J.2.2.2.2.2.2.2 (fun v σ' q => h v σ' (rJ_c J (by rw [q.1.1 2 (by decide) (by decide)]; exact J.1) q.2.1 (fun k hk => q.1.1 k ((by decide : ∀ k, k ∈ rjF → k ≠ 0) k hk) ((by decide : ∀ k, k ∈ rjF → k ≠ 104) k hk)) (fun k hk => q.1.2.1 k ((by decide : ∀ k, k ∈ rjR → k ≠ 105) k hk)) (rjN_r (q.1.2.1 90 (by decide)) (q.1.2.1 91 (by decide)))) ⟨⟨⟨oR_k9 (q.1.1 2 (by decide) (by decide)) (q.1.1 53 (by decide) (by decide)) (q.1.2.1 1 (by decide)), kR_f7 (fun k hk => q.1.1 k ((by decide : ∀ k, k ∈ kf7 → k ≠ 0) k hk) ((by decide : ∀ k, k ∈ kf7 → k ≠ 104) k hk)) (fun k hk => q.1.2.1 k ((by decide : ∀ k, k ∈ kz7 → k ≠ 105) k hk)) (fun j => q.1.2.2.1 j)⟩, ⟨fun k hk => q.1.1 k ((by decide : ∀ k, k ∈ kd7 → k ≠ 0) k hk) ((by decide : ∀ k, k ∈ kd7 → k ≠ 104) k hk), fun k hk => q.1.2.1 k ((by decide : ∀ k, k ∈ kx7 → k ≠ 105) k hk)⟩, q.2.2.1, q.2.2.2⟩, ⟨fun k hk => q.1.1 k ((by decide : ∀ k, k ∈ kp23 → k ≠ 0) k hk) ((by decide : ∀ k, k ∈ kp23 → k ≠ 104) k hk), q.1.2.2.2, q.1.2.1 111 (by decide)⟩⟩)

end
section
set_option maxHeartbeats 1600000
/-- what program answers, by its reading -/
def pQ9 (σ : rS) (v : Int32) (σ' : rS) : Prop := ∃ σ2 : rS, (σ2.1 2 = σ.1 2 ∧ σ2.2.2.1 1 = σ.2.2.1 1 ∧ σ2.1 3 = σ.1 3 ∧ (σ.1 3 = 0 ∨ σ.1 3 = 65537)) ∧ σ'.1 53 = (g5_tellProgram σ2).1 11 ∧ ((g5_tellProgram σ2).1 11 = 0 → v = (g5_tellProgram σ2).1 19 ∧ σ'.1 14 = 1 ∧ (∀ g, g ∈ kf7 → g ≠ 14 → σ'.1 g = (g5_tellProgram σ2).1 g) ∧ σ'.2 = (g5_tellProgram σ2).2 ∧ eB (σ'.2.2.1 26) 0 5 ∧ ((g5_tellProgram σ2).1 3 = 0 ∨ (g5_tellProgram σ2).1 3 = 65537) ∧ (g5_tellProgram σ2).1 3 ≠ σ.1 3 ∧ σ'.1 69 = 0 ∧ no8 σ' ∧ σ'.1 106 = -1) ∧ ((g5_tellProgram σ2).1 11 ≠ 0 → v = (-1 : Int32) - (g5_tellProgram σ2).1 12 ∧ kR7 σ σ' ∧ kS9 σ σ')
/-- a text that fails leaves the code that stands -/
theorem kR_b7 {σ σ1 σ4 σ7 τ : rS} (q : back σ1 σ7 τ) (hb : σ.1 3 = 0 ∨ σ.1 3 = 65537) (t3 : σ4.1 3 = 0 ∨ σ4.1 3 = 65537) (t4 : σ4.1 3 ≠ σ.1 3) (t5 : ∀ k, (k = 5 ∨ k = 6 ∨ k = 7 ∨ k = 9 ∨ k = 39) → ∀ t : Int32, 0 ≤ t → (t < σ4.1 3 ∨ σ4.1 3 + 65536 < t) → rd σ4 k t = rd σ k t) (e1 : ∀ k, k ≠ 0 → σ1.1 k = σ.1 k) (s1 : σ1.2 = σ.2) (h14 : σ7.1 14 = σ.1 14) (s7 : σ7.2 = σ4.2) (hl : ∀ j, (if σ.1 3 = 0 then j ≤ 65536 else 65537 ≤ j) → σ4.2.2.2 8 j = σ.2.2.2 8 j) : kR7 σ τ := by
  obtain ⟨b1, b15, b16, b17, b18, b19, b40, b3, b5, b6, b7, b8⟩ := q
  refine ⟨fun g hg => ?_, fun p hp i hi => by rw [(b8 p hp).1 i hi, s1], fun k hk j hj => ?_, fun j hj => ?_⟩
  · have c : g = 3 ∨ g = 14 ∨ g = 15 ∨ g = 16 ∨ g = 17 ∨ g = 18 ∨ g = 19 ∨ g = 40 := by
      have z : ∀ g, g ∈ kf7 → g = 3 ∨ g = 14 ∨ g = 15 ∨ g = 16 ∨ g = 17 ∨ g = 18 ∨ g = 19 ∨ g = 40 := by decide
      exact z g hg
    rcases c with c | c | c | c | c | c | c | c <;> rw [c]
    · exact b3.trans (e1 3 (by decide))
    · exact (b1 14 (by decide) (by decide) (by decide) (by decide) (by decide) (by decide) (by decide) (by decide)).trans h14
    · exact b15.trans (e1 15 (by decide))
    · exact b16.trans (e1 16 (by decide))
    · exact b17.trans (e1 17 (by decide))
    · exact b18.trans (e1 18 (by decide))
    · exact b19.trans (e1 19 (by decide))
    · exact b40.trans (e1 40 (by decide))
  · have y : τ.2.2.1 k = σ4.2.2.1 k := by
      rw [b7 k (by omega) (by rcases hk with c | c | c | c | c <;> rw [c] <;> decide), s7]
    have jj : j ≤ 131073 := by
      unfold hf7 at hj
      by_cases c : σ.1 3 = 0
      · rw [if_pos c] at hj; omega
      · rw [if_neg c] at hj; omega
    have lj := ofn_i (n := j) (by omega)
    have z := t5 k hk (Int32.ofNat j) (by rw [lei, t0i]; omega) (by
      unfold hf7 at hj
      rcases hb with b | b
      · have t : σ4.1 3 = 65537 := by
          rcases t3 with t | t
          · exact absurd (t.trans b.symm) t4
          · exact t
        left
        rw [if_pos b] at hj
        rw [t, lti, lj]
        show (j : Int) < 65537
        omega
      · have t : σ4.1 3 = 0 := by
          rcases t3 with t | t
          · exact t
          · exact absurd (t.trans b.symm) t4
        right
        rw [b, if_neg (by decide)] at hj
        rw [t, lti, lj]
        show (65536 : Int) < j
        omega)
    unfold rd at z
    rw [cl_5 (by omega)] at z
    rw [y]
    exact z
  · rw [b6 8 j, s7]
    refine hl j ?_
    unfold hf7 at hj
    by_cases c : σ.1 3 = 0
    · rw [if_pos c] at hj ⊢; exact hj
    · rw [if_neg c] at hj ⊢; exact hj.1
theorem program_c9 {C : rCx} (hC : cOK C)  {σ : rS}  {Q : Int32 → rS → Prop} (hp : (σ.1 3 = 0 ∨ σ.1 3 = 65537) ∧ 0 ≤ σ.1 2 ∧ σ.1 2 ≤ 65536 ∧ tyAll σ ∧ (σ.1 14 ≠ 0 → ∃ T, progOK σ (σ.1 3) T)) (h : ∀ (v : Int32) (σ' : rS), (prQ σ σ' ∧ pQ9 σ v σ') → Q v σ') : cI C 13 m_program [.ref (co C)] σ Q := by
  refine m_program_run hC ?_
  unfold w_program_0
  obtain ⟨hb, hs0, hs1, hT, hP⟩ := hp
  intro σ_1 hσ_1
  refine swingAll_c_s hC  (fun σ_2 q3 => ?_)
  have e1 : ∀ k, k ≠ 0 → σ_1.1 k = σ.1 k := fun k hk => by rw [hσ_1, si1, if_neg hk]
  have s1 : σ_1.2 = σ.2 := by rw [hσ_1, si2]
  have e2 : ∀ k, k ≠ 0 → k ≠ 55 → σ_2.1 k = σ.1 k := fun k z1 z2 => (q3.1.1 k z2).trans (e1 k z1)
  have r2 : ∀ k, k ≠ 54 → k ≠ 56 → σ_2.2.2.1 k = σ.2.2.1 k := fun k z1 z2 => (q3.1.2.2.1 k z1 z2).trans (by rw [s1])
  have T1 : tyAll σ_1 := ty_s hT (fun k hk => e1 k (by omega)) (fun k _ _ => by rw [s1])
  have T2 : tyAll σ_2 := ty_s hT (fun k hk => e2 k (by omega) (by omega)) r2
  have F2 : frH zFF zRR σ σ_2 := ⟨fun k z => e2 k (fun e => z (by rw [e]; decide)) (fun e => z (by rw [e]; decide)), fun k => (q3.1.2.1 k).trans (by rw [s1]), fun k z => r2 k (fun e => z (by rw [e]; decide)) (fun e => z (by rw [e]; decide)), fun k j _ => (q3.1.2.2.2.2 k j).trans (by rw [s1])⟩
  refine tellProgram_g5 hC  ?_ (fun σ_4 q5z => ?_)
  · clear h; exact ⟨by rw [e2 3 (by decide) (by decide)]; exact hb, by rw [e2 2 (by decide) (by decide)]; exact hs0, by rw [e2 2 (by decide) (by decide)]; exact hs1, T2⟩  -- p1
  obtain ⟨q5, zg⟩ := q5z
  intro σ_6 hσ_6
  intro σ_7 hσ_7
  obtain ⟨t1, t2, t3, t4, t5, t6, t7⟩ := q5
  have e7 : ∀ k, k ≠ 2 → k ≠ 53 → σ_7.1 k = σ_4.1 k := fun k z1 z2 => by rw [hσ_7, si1, if_neg z2, hσ_6, si1, if_neg z1]
  have v7 : σ_7.1 2 = 0 := by rw [hσ_7, si1, if_neg (by decide), hσ_6, si1, if_pos rfl]
  have s7 : σ_7.2 = σ_4.2 := by rw [hσ_7, si2, hσ_6, si2]
  have F7 : frH zFF zRR σ σ_7 := frH_tr F2 (frH_tr (frZ_q t1) (by rw [hσ_7, hσ_6]; exact frH_tr (frZ_si (by decide)) (frZ_si (by decide))))
  have T7 : tyAll σ_7 := ty_s t2 (fun k hk => e7 k (by omega) (by omega)) (fun k _ _ => by rw [s7])
  have k7 : ∀ k, k ∉ qFF → k ≠ 0 → k ≠ 55 → k ≠ 2 → k ≠ 53 → σ_7.1 k = σ.1 k := fun k z1 z2 z3 z4 z5 => (e7 k z4 z5).trans ((t1.1 k z1).trans (e2 k z2 z3))
  refine ⟨fun c8 => ?_, fun c8 => ?_⟩
  · skip
    intro σ_9 hσ_9
    intro σ_10 hσ_10
    intro σ_11 hσ_11
    intro σ_12 hσ_12
    intro σ_13 hσ_13
    intro σ_14 hσ_14
    intro σ_15 hσ_15
    intro σ_16 hσ_16
    have x16 : ∀ k, k ≠ 14 → k ≠ 69 → k ≠ 94 → k ≠ 114 → k ≠ 106 → k ≠ 70 → k ≠ 71 → k ≠ 72 → σ_16.1 k = σ_7.1 k := fun k z1 z2 z3 z4 z5 z6 z7 z8 => by rw [hσ_16, si1, if_neg z8, hσ_15, si1, if_neg z7, hσ_14, si1, if_neg z6, hσ_13, si1, if_neg z5, hσ_12, si1, if_neg z4, hσ_11, si1, if_neg z3, hσ_10, si1, if_neg z2, hσ_9, si1, if_neg z1]
    have x53 : σ_7.1 53 = σ_4.1 11 := by rw [hσ_7, si1, if_pos rfl, hσ_6, si1, if_neg (by decide)]
    have z0 : σ_4.1 11 = 0 := by
      have c9 := c8
      rw [e7 11 (by decide) (by decide)] at c9
      exact Int32.le_antisymm c9 t7
    have s16z : σ_16.2 = σ_4.2 := by rw [hσ_16, si2, hσ_15, si2, hσ_14, si2, hσ_13, si2, hσ_12, si2, hσ_11, si2, hσ_10, si2, hσ_9, si2]; exact s7
    have y14 : σ_16.1 14 = 1 := by rw [hσ_16, si1, if_neg (by decide), hσ_15, si1, if_neg (by decide), hσ_14, si1, if_neg (by decide), hσ_13, si1, if_neg (by decide), hσ_12, si1, if_neg (by decide), hσ_11, si1, if_neg (by decide), hσ_10, si1, if_neg (by decide), hσ_9, si1, if_pos rfl]
    have y26 : eB (σ_16.2.2.1 26) 0 5 := by
      obtain ⟨_, z3, _⟩ := t2
      obtain ⟨_, _, _, _, z4, _⟩ := z3
      rw [s16z]
      exact z4
    have pq : pQ9 σ (σ_16.1 19) σ_16 := ⟨σ_2, ⟨e2 2 (by decide) (by decide), r2 1 (by decide) (by decide), e2 3 (by decide) (by decide), hb⟩, by rw [zg, x16 53 (by decide) (by decide) (by decide) (by decide) (by decide) (by decide) (by decide) (by decide), x53], fun _ => ⟨by rw [zg, x16 19 (by decide) (by decide) (by decide) (by decide) (by decide) (by decide) (by decide) (by decide), e7 19 (by decide) (by decide)], y14, fun g hg n14 => by
      rw [zg, x16 g n14 ((by decide : ∀ g, g ∈ kf7 → g ≠ 69) g hg) ((by decide : ∀ g, g ∈ kf7 → g ≠ 94) g hg) ((by decide : ∀ g, g ∈ kf7 → g ≠ 114) g hg) ((by decide : ∀ g, g ∈ kf7 → g ≠ 106) g hg) ((by decide : ∀ g, g ∈ kf7 → g ≠ 70) g hg) ((by decide : ∀ g, g ∈ kf7 → g ≠ 71) g hg) ((by decide : ∀ g, g ∈ kf7 → g ≠ 72) g hg), e7 g ((by decide : ∀ g, g ∈ kf7 → g ≠ 2) g hg) ((by decide : ∀ g, g ∈ kf7 → g ≠ 53) g hg)], by rw [zg]; exact s16z, y26, by rw [zg]; exact t3, by rw [zg, ← e2 3 (by decide) (by decide)]; exact t4, by rw [hσ_16, si1, if_neg (by decide), hσ_15, si1, if_neg (by decide), hσ_14, si1, if_neg (by decide), hσ_13, si1, if_neg (by decide), hσ_12, si1, if_neg (by decide), hσ_11, si1, if_neg (by decide), hσ_10, si1, if_pos rfl], ⟨by rw [hσ_16, si1, if_neg (by decide), hσ_15, si1, if_neg (by decide), hσ_14, si1, if_pos rfl], by rw [hσ_16, si1, if_neg (by decide), hσ_15, si1, if_pos rfl], by rw [hσ_16, si1, if_pos rfl]⟩, by rw [hσ_16, si1, if_neg (by decide), hσ_15, si1, if_neg (by decide), hσ_14, si1, if_neg (by decide), hσ_13, si1, if_pos rfl]⟩, fun z => absurd (by rw [zg]; exact z0) z⟩
    refine h _ _ ⟨?_, pq⟩
    · clear h; have s16 : σ_16.2 = σ_4.2 := by rw [hσ_16, si2, hσ_15, si2, hσ_14, si2, hσ_13, si2, hσ_12, si2, hσ_11, si2, hσ_10, si2, hσ_9, si2]; exact s7
      have e16 : ∀ k, k ≠ 14 → k ≠ 69 → k ≠ 94 → k ≠ 114 → k ≠ 106 → k ≠ 70 → k ≠ 71 → k ≠ 72 → σ_16.1 k = σ_7.1 k := fun k z1 z2 z3 z4 z5 z6 z7 z8 => by rw [hσ_16, si1, if_neg z8, hσ_15, si1, if_neg z7, hσ_14, si1, if_neg z6, hσ_13, si1, if_neg z5, hσ_12, si1, if_neg z4, hσ_11, si1, if_neg z3, hσ_10, si1, if_neg z2, hσ_9, si1, if_neg z1]
      have e4 : ∀ k, k ≠ 2 → k ≠ 53 → k ≠ 14 → k ≠ 69 → k ≠ 94 → k ≠ 114 → k ≠ 106 → k ≠ 70 → k ≠ 71 → k ≠ 72 → σ_16.1 k = σ_4.1 k := fun k y1 y2 z1 z2 z3 z4 z5 z6 z7 z8 => (e16 k z1 z2 z3 z4 z5 z6 z7 z8).trans (e7 k y1 y2)
      have f0 : σ_4.1 11 = 0 := by
        rw [e7 11 (by decide) (by decide)] at c8
        exact Int32.le_antisymm c8 t7
      obtain ⟨T, pk⟩ := t6 f0
      have d3 := e4 3 (by decide) (by decide) (by decide) (by decide) (by decide) (by decide) (by decide) (by decide) (by decide) (by decide)
      refine ⟨by rw [d3]; exact t3, by rw [e16 2 (by decide) (by decide) (by decide) (by decide) (by decide) (by decide) (by decide) (by decide)]; exact v7, ?_, fun _ => ⟨T, ?_⟩, ?_, Or.inr ⟨?_, ?_, ?_, ?_, ?_, ?_, ?_, ?_⟩⟩
      · exact ty_s t2 (fun k hk => e4 k (by omega) (by omega) (by omega) (by omega) (by omega) (by omega) (by omega) (by omega) (by omega) (by omega)) (fun k _ _ => by rw [s16])
      · rw [d3]
        exact progOK_L t2 pk (fun t _ _ => by rw [s16]) (fun t _ _ => by rw [s16]) (fun t _ _ => by rw [s16]) (e4 18 (by decide) (by decide) (by decide) (by decide) (by decide) (by decide) (by decide) (by decide) (by decide) (by decide)) (e4 19 (by decide) (by decide) (by decide) (by decide) (by decide) (by decide) (by decide) (by decide) (by decide) (by decide)) (e4 40 (by decide) (by decide) (by decide) (by decide) (by decide) (by decide) (by decide) (by decide) (by decide) (by decide)) (fun k _ j _ => by rw [s16]) (fun k _ j _ => by rw [s16])
      · refine frH_tr F7 ⟨fun k z => e16 k ?_ ?_ ?_ ?_ ?_ ?_ ?_ ?_, fun k => by rw [s16, s7], fun k _ => by rw [s16, s7], fun k j _ => by rw [s16, s7]⟩ <;> exact fun e => z (by rw [e]; decide)
      · rw [hσ_16, si1, if_neg (by decide), hσ_15, si1, if_neg (by decide), hσ_14, si1, if_neg (by decide), hσ_13, si1, if_neg (by decide), hσ_12, si1, if_neg (by decide), hσ_11, si1, if_neg (by decide), hσ_10, si1, if_neg (by decide), hσ_9, si1, if_pos rfl]
      · rw [hσ_16, si1, if_neg (by decide), hσ_15, si1, if_neg (by decide), hσ_14, si1, if_neg (by decide), hσ_13, si1, if_neg (by decide), hσ_12, si1, if_neg (by decide), hσ_11, si1, if_neg (by decide), hσ_10, si1, if_pos rfl]
      · rw [hσ_16, si1, if_neg (by decide), hσ_15, si1, if_neg (by decide), hσ_14, si1, if_pos rfl]
      · rw [hσ_16, si1, if_neg (by decide), hσ_15, si1, if_pos rfl]
      · rw [hσ_16, si1, if_pos rfl]
      · rw [hσ_16, si1, if_neg (by decide), hσ_15, si1, if_neg (by decide), hσ_14, si1, if_neg (by decide), hσ_13, si1, if_neg (by decide), hσ_12, si1, if_neg (by decide), hσ_11, si1, if_pos rfl]
      · rw [hσ_16, si1, if_neg (by decide), hσ_15, si1, if_neg (by decide), hσ_14, si1, if_neg (by decide), hσ_13, si1, if_pos rfl]
      · rw [hσ_16, si1, if_neg (by decide), hσ_15, si1, if_neg (by decide), hσ_14, si1, if_neg (by decide), hσ_13, si1, if_neg (by decide), hσ_12, si1, if_pos rfl]
  · skip
    refine swingAll_c_b hC σ_1 ?_ (fun σ_17 q18 => ?_)
    · clear h; exact kept_s q3.2 (by rw [s7]; exact t1.2.2.1 54 (by decide))  -- p3
    have y53 : σ_17.1 53 = σ_4.1 11 := by rw [q18.1 53 (by decide) (by decide) (by decide) (by decide) (by decide) (by decide) (by decide) (by decide), hσ_7, si1, if_pos rfl, hσ_6, si1, if_neg (by decide)]
    have y12 : σ_17.1 12 = σ_4.1 12 := by rw [q18.1 12 (by decide) (by decide) (by decide) (by decide) (by decide) (by decide) (by decide) (by decide), e7 12 (by decide) (by decide)]
    have n0 : ¬ σ_4.1 11 = 0 := fun z => c8 (by rw [e7 11 (by decide) (by decide), z]; decide)
    have okS2 : okS5 σ_2 := by
      have j0 := hs0
      have j1 := hs1
      rw [lei, t0i] at j0
      rw [lei, show (65536 : Int32).toInt = 65536 from rfl] at j1
      unfold okS5
      rw [e2 2 (by decide) (by decide)]
      exact ⟨j0, j1⟩
    have kr : kR7 σ σ_17 := kR_b7 q18 hb t3 (by rw [← e2 3 (by decide) (by decide)]; exact t4) (fun k hk t h1 h2 => by
        rw [rd, rd, ← r2 k (by omega) (by omega)]
        exact t5 k hk t h1 h2) e1 s1 (by
        rw [e7 14 (by decide) (by decide)]
        exact (t1.1 14 (by decide)).trans (e2 14 (by decide) (by decide))) s7 (fun j hj => by
        rw [← zg, tell_l6 okS2 j (by
          rw [e2 3 (by decide) (by decide)]
          exact hj), q3.1.2.2.2.2 8 j, s1])
    have ks : kS9 σ σ_17 := by
      obtain ⟨b1, _, _, _, _, _, _, _, _, _, b7, _⟩ := q18
      refine ⟨fun g hg => ?_, fun g hg => ?_⟩
      · rw [b1 g ((by decide : ∀ g, g ∈ ke8 → g ≠ 55) g hg) ((by decide : ∀ g, g ∈ ke8 → g ≠ 15) g hg) ((by decide : ∀ g, g ∈ ke8 → g ≠ 16) g hg) ((by decide : ∀ g, g ∈ ke8 → g ≠ 17) g hg) ((by decide : ∀ g, g ∈ ke8 → g ≠ 18) g hg) ((by decide : ∀ g, g ∈ ke8 → g ≠ 19) g hg) ((by decide : ∀ g, g ∈ ke8 → g ≠ 40) g hg) ((by decide : ∀ g, g ∈ ke8 → g ≠ 3) g hg)]
        exact k7 g ((by decide : ∀ g, g ∈ ke8 → g ∉ qFF) g hg) ((by decide : ∀ g, g ∈ ke8 → g ≠ 0) g hg) ((by decide : ∀ g, g ∈ ke8 → g ≠ 55) g hg) ((by decide : ∀ g, g ∈ ke8 → g ≠ 2) g hg) ((by decide : ∀ g, g ∈ ke8 → g ≠ 53) g hg)
      · rw [b7 g ((by decide : ∀ g, g ∈ kx8 → g ≠ 56) g hg) (fun p hp e => (by decide : ∀ p, p ∈ kPt → p.1 ∉ kx8) p hp (by rw [e]; exact hg)), s7, t1.2.2.1 g ((by decide : ∀ g, g ∈ kx8 → g ∉ qRR) g hg)]
        exact r2 g ((by decide : ∀ g, g ∈ kx8 → g ≠ 54) g hg) ((by decide : ∀ g, g ∈ kx8 → g ≠ 56) g hg)
    have pq : pQ9 σ ((-1 : Int32) - σ_17.1 12) σ_17 := ⟨σ_2, ⟨e2 2 (by decide) (by decide), r2 1 (by decide) (by decide), e2 3 (by decide) (by decide), hb⟩, by rw [zg, y53], fun z => absurd (by rw [← zg]; exact z) n0, fun _ => ⟨by rw [zg, y12], kr, ks⟩⟩
    refine h _ _ ⟨?_, pq⟩
    · clear h; have T17 := ty_back q18 T1 T7
      obtain ⟨b1, b15, b16, b17, b18, b19, b40, b3, b5, b6, b7, b8⟩ := q18
      have bf : ∀ k, k ∉ [55, 15, 16, 17, 18, 19, 40, 3] → σ_17.1 k = σ_7.1 k := fun k z => b1 k (fun e => z (by rw [e]; decide)) (fun e => z (by rw [e]; decide)) (fun e => z (by rw [e]; decide)) (fun e => z (by rw [e]; decide)) (fun e => z (by rw [e]; decide)) (fun e => z (by rw [e]; decide)) (fun e => z (by rw [e]; decide)) (fun e => z (by rw [e]; decide))
      have d3 : σ_17.1 3 = σ.1 3 := b3.trans (e1 3 (by decide))
      have kk : ∀ k, k ∉ [55, 15, 16, 17, 18, 19, 40, 3] → k ∉ qFF → k ≠ 0 → k ≠ 55 → k ≠ 2 → k ≠ 53 → σ_17.1 k = σ.1 k := fun k z1 z2 z3 z4 z5 z6 => (bf k z1).trans (k7 k z2 z3 z4 z5 z6)
      have d14 : σ_17.1 14 = σ.1 14 := kk 14 (by decide) (by decide) (by decide) (by decide) (by decide) (by decide)
      refine ⟨by rw [d3]; exact hb, by rw [bf 2 (by decide)]; exact v7, T17, fun z => ?_, ?_, Or.inl ⟨d14, kk 69 (by decide) (by decide) (by decide) (by decide) (by decide) (by decide), kk 70 (by decide) (by decide) (by decide) (by decide) (by decide) (by decide), kk 71 (by decide) (by decide) (by decide) (by decide) (by decide) (by decide), kk 72 (by decide) (by decide) (by decide) (by decide) (by decide) (by decide), kk 94 (by decide) (by decide) (by decide) (by decide) (by decide) (by decide), kk 106 (by decide) (by decide) (by decide) (by decide) (by decide) (by decide), kk 114 (by decide) (by decide) (by decide) (by decide) (by decide) (by decide)⟩⟩
      · rw [d14] at z
        obtain ⟨T, pk⟩ := hP z
        have tok : ∀ k, k = 5 ∨ k = 7 ∨ k = 39 → lc (σ.2.2.1 k) (σ_17.2.2.1 k) (σ.1 3) T := fun k hk t ht ht2 => by
          have w := two_b hb t3 (by rw [← e2 3 (by decide) (by decide)]; exact t4) pk.2.2.1 pk.2.2.2.1 ht ht2
          have x := t5 k (by omega) t w.1 w.2
          have y : σ_17.2.2.1 k = σ_4.2.2.1 k := by
            rcases hk with rfl | rfl | rfl
            · rw [b7 5 (by decide) (by decide), s7]
            · rw [b7 7 (by decide) (by decide), s7]
            · rw [b7 39 (by decide) (by decide), s7]
          rw [y]
          refine x.trans ?_
          rw [rd, r2 k (by omega) (by omega)]
        have rw1 : ∀ p ∈ kPt, ∀ j, j < p.2.2 → σ_17.2.2.1 p.1 j = σ.2.2.1 p.1 j := fun p hp j hj => by rw [(b8 p hp).1 j hj, s1]
        refine ⟨T, ?_⟩
        rw [d3]
        refine progOK_L hT pk (tok 5 (by decide)) (tok 7 (by decide)) (tok 39 (by decide)) (b18.trans (e1 18 (by decide))) (b19.trans (e1 19 (by decide))) (b40.trans (e1 40 (by decide))) (fun k hk j hj => ?_) (fun k hk j hj => ?_)
        · rcases hk with rfl | rfl | rfl | rfl | rfl | rfl | rfl | rfl
          · exact rw1 (30, 157, 150) (by decide) j hj
          · exact rw1 (31, 307, 150) (by decide) j hj
          · exact rw1 (32, 457, 150) (by decide) j hj
          · exact rw1 (33, 607, 150) (by decide) j hj
          · exact rw1 (34, 757, 150) (by decide) j hj
          · exact rw1 (35, 907, 150) (by decide) j hj
          · exact rw1 (36, 1057, 150) (by decide) j hj
          · exact rw1 (37, 1207, 150) (by decide) j hj
        · rcases hk with rfl | rfl
          · exact rw1 (26, 47, 10) (by decide) j hj
          · exact rw1 (29, 147, 10) (by decide) j hj
      · refine frH_tr F7 ⟨fun k z => bf k (fun e => z ((by decide : ∀ q ∈ [55, 15, 16, 17, 18, 19, 40, 3], q ∈ zFF) k e)), b5, fun k z => b7 k (fun e => z (by rw [e]; decide)) (fun p hp e => z (by rw [← e]; exact (by decide : ∀ p ∈ kPt, p.1 ∈ zRR) p hp)), fun k j _ => b6 k j⟩

/-! the reference: what holds behind decide, show, solve, best, explore, program, play, walk -/
abbrev rjA : List Nat := [2, 53, 3, 14, 15, 16, 17, 18, 19, 40, 41, 42, 104]
abbrev rjZ : List Nat := 1 :: 6 :: 9 :: 21 :: rjQ
abbrev rjY : List Nat := 1 :: 6 :: 9 :: 21 :: rjR
theorem rJ_x {σ τ : rS} (J : rJ σ) (hf : ∀ k, k ∈ rjA → τ.1 k = σ.1 k) (hr : ∀ k, k ∈ rjZ → τ.2.2.1 k = σ.2.2.1 k) (hl : ∀ j, τ.2.2.2 8 j = σ.2.2.2 8 j) (e : exP τ) (v : jVs τ) (w : jWo τ) (p : plN τ) (s : shO τ) : rJ τ ∧ pR7 σ τ :=
  ⟨⟨by rw [hf 2 (by decide)]; exact J.1, jBk_o J.2.1 (hf 3 (by decide)) (hf 14 (by decide)) (fun k hk => hf k ((by decide : ∀ k, k ∈ rjP → k ∈ rjA) k hk)) (fun k hk => hr k (List.mem_cons_of_mem _ (List.mem_cons_of_mem _ (List.mem_cons_of_mem _ (List.mem_cons_of_mem _ hk))))), e, v, w, p, s, by rw [hf 104 (by decide)]; exact J.2.2.2.2.2.2.2⟩, ⟨oR_k9 (hf 2 (by decide)) (hf 53 (by decide)) (hr 1 (by decide)), kR_f7 (fun k hk => hf k ((by decide : ∀ k, k ∈ kf7 → k ∈ rjA) k hk)) (fun k hk => hr k ((by decide : ∀ k, k ∈ kz7 → k ∈ rjZ) k hk)) hl⟩⟩
theorem rj_88 {σ : rS} (J : rJ σ) : 0 ≤ σ.1 88 := J.2.2.1.2.2.2.1
section callz
variable {C : rCx} {σ : rS} {a1 a2 : Int32}
theorem show_j (hC : cOK C) (J : rJ σ) {Q : Int32 → rS → Prop} (h : ∀ v σ', rJ σ' → pR8 σ σ' → Q v σ') : cI C 8 m_show [.ref (co C), .int a1, .int a2] σ Q := show_c hC _ ⟨pOK_of J.2.2.1, rfl, J.2.2.2.1, J.2.2.2.2.1, J.2.2.2.2.2.1, J.2.2.2.2.2.2.1⟩ (fun v σ' q => by
  obtain ⟨f, s⟩ := q
  have r : ∀ k, k ∈ rjY → σ'.2.2.1 k = σ.2.2.1 k := fun k hk => f.2.2.1 k ((by decide : ∀ k, k ∈ rjY → k ≠ 90) k hk) ((by decide : ∀ k, k ∈ rjY → k ≠ 91) k hk)
  have g := rJ_x J (fun k hk => f.1 k ((by decide : ∀ k, k ∈ rjA → k ∉ shF) k hk)) (fun k hk => r k ((by decide : ∀ k, k ∈ rjZ → k ∈ rjY) k hk)) (fun j => by rw [f.2.2.2.1]) (exP_o J.2.2.1 (fun k hk => f.1 k (by rcases hk with z | z | z | z <;> rw [z] <;> decide)) (fun k hk => r k (by rcases hk with z | z | z | z | z | z | z | z <;> rw [z] <;> decide))) (jVs_o J.2.2.2.1 (by rw [f.1 94 (by decide)]; exact fun y => y) (f.1 70 (by decide)) (r 102 (by decide))) (jWo_o J.2.2.2.2.1 (by rw [f.1 114 (by decide)]; exact fun y => y) (f.1 70 (by decide)) (r 115 (by decide)) (r 116 (by decide))) (plN_o J.2.2.2.2.2.1 (by rw [f.1 106 (by decide)]; exact fun y => y) (fun k hk => f.2.2.2.2 k (by rcases hk with z | z <;> rw [z] <;> decide))) s
  exact h v σ' g.1 ⟨g.2, kS_f8 (fun k hk => f.1 k ((by decide : ∀ k, k ∈ ke8 → k ∉ shF) k hk)) (fun k hk => f.2.2.1 k ((by decide : ∀ k, k ∈ kx8 → k ≠ 90) k hk) ((by decide : ∀ k, k ∈ kx8 → k ≠ 91) k hk)) (by rw [f.2.1])⟩)
theorem solve_j (hC : cOK C) (J : rJ σ) {Q : Int32 → rS → Prop} (h : ∀ v σ', rJ σ' → pR8 σ σ' → Q v σ') : cI C 8 m_solve [.ref (co C)] σ Q := solve_c hC _ ⟨pOK_of J.2.2.1, rfl, J.2.2.2.1⟩ (fun v σ' q => by
  obtain ⟨f, s, n⟩ := q
  have e70 := f.1 70 (by decide)
  have g := rJ_x J (fun k hk => f.1 k ((by decide : ∀ k, k ∈ rjA → k ∉ slF) k hk)) (fun k hk => f.2.2.1 k ((by decide : ∀ k, k ∈ rjZ → k ∉ slR) k hk)) (fun j => by rw [f.2.2.2 8 (by decide)]) (exP_o J.2.2.1 (fun k hk => f.1 k (by rcases hk with z | z | z | z <;> rw [z] <;> decide)) (fun k hk => f.2.2.1 k (by rcases hk with z | z | z | z | z | z | z | z <;> rw [z] <;> decide))) (fun y k hk => s y k (by rw [← e70]; exact hk)) (jWo_o J.2.2.2.2.1 (by rw [f.1 114 (by decide)]; exact fun y => y) e70 (f.2.2.1 115 (by decide)) (f.2.2.1 116 (by decide))) (plN_o J.2.2.2.2.2.1 (by rw [f.1 106 (by decide)]; exact fun y => y) (fun k hk => n k (by omega))) (shO_o J.2.2.2.2.2.2.1 (f.1 103 (by decide)) (fun k hk => n k (by omega)))
  exact h v σ' g.1 ⟨g.2, kS_f8 (fun k hk => f.1 k ((by decide : ∀ k, k ∈ ke8 → k ∉ slF) k hk)) (fun k hk => f.2.2.1 k ((by decide : ∀ k, k ∈ kx8 → k ∉ slR) k hk)) (by rw [f.2.1])⟩)
theorem explore_j (hC : cOK C) (J : rJ σ) {Q : Int32 → rS → Prop} (h : ∀ v σ', rJ σ' → pR7 σ σ' → XS22 a1 σ σ' v → Q v σ') : cI C 11 m_explore [.ref (co C), .int a1] σ Q := explore_g21 hC ⟨J.2.1.2.1, J.2.1.2.2, J.2.2.1⟩ (fun v σ' q => by
  obtain ⟨⟨f, e, -, -, z⟩, xs⟩ := q
  have r0 := f.2.2.1 90 (by decide)
  have r1 := f.2.2.1 91 (by decide)
  have g := rJ_x J (fun k hk => f.1 k ((by decide : ∀ k, k ∈ rjA → k ∉ xpF) k hk)) (fun k hk => f.2.2.1 k ((by decide : ∀ k, k ∈ rjZ → k ∉ xpR) k hk)) (fun j => by rw [f.2.2.2 8 (by decide)]) e (by
    rcases z with z | z
    · exact jVs_o J.2.2.2.1 (by rw [z.1 94 (by decide)]; exact fun y => y) (z.1 70 (by decide)) (by rw [z.2])
    · exact fun y => absurd z.1 y) (by
    rcases z with z | z
    · exact jWo_o J.2.2.2.2.1 (by rw [z.1 114 (by decide)]; exact fun y => y) (z.1 70 (by decide)) (by rw [z.2]) (by rw [z.2])
    · exact fun y => absurd z.2 y) (plN_o J.2.2.2.2.2.1 (by rw [f.1 106 (by decide)]; exact fun y => y) (fun k hk => ⟨by rw [r1], fun i _ => by rw [r0]⟩)) (shO_o J.2.2.2.2.2.2.1 (f.1 103 (by decide)) (fun k hk => ⟨by rw [r1], fun i _ => by rw [r0]⟩))
  exact h v σ' g.1 g.2 ⟨xs, ⟨f.1 104 (by decide), f.2.2.1 105 (by decide)⟩, ⟨fun g q => f.1 g (by rcases q with q | q | q | q <;> rw [q] <;> decide), by rw [f.2.1], f.2.2.1 111 (by decide)⟩⟩)
theorem program_j (hC : cOK C) (J : rJ σ) {Q : Int32 → rS → Prop} (h : ∀ v σ', rJ σ' → oR9 σ' = ((fun _ => 0, 0, σ'.1 53) : Ob9) → (pQ9 σ v σ' ∧ kD20 σ σ' ∧ σ'.2.1 110 = σ.2.1 110) → Q v σ') : cI C 13 m_program [.ref (co C)] σ Q := program_c9 hC ⟨J.2.1.1, J.1.1, J.1.2, J.2.1.2.1, J.2.1.2.2⟩ (fun v σ' q => by
  obtain ⟨⟨b3, b2, ty, pg, f, z⟩, pq⟩ := q
  have r0 := f.2.2.1 90 (by decide)
  have r1 := f.2.2.1 91 (by decide)
  have e104 := f.1 104 (by decide)
  have e88 := f.1 88 (by decide)
  refine h v σ' ⟨by rw [b2]; decide, ⟨b3, ty, pg⟩, ?_, ?_, ?_, ?_, shO_o J.2.2.2.2.2.2.1 (f.1 103 (by decide)) (fun k hk => ⟨by rw [r1], fun i _ => by rw [r0]⟩), by rw [e104]; exact J.2.2.2.2.2.2.2⟩ (by unfold oR9; rw [b2]; exact mk_09) ⟨pq, ⟨e104, f.2.2.1 105 (by decide)⟩, f.2.1 110⟩
  · rcases z with z | z
    · exact exP_o J.2.2.1 (fun k hk => by
        rcases hk with y | y | y | y <;> rw [y]
        · exact z.2.2.1
        · exact z.2.2.2.1
        · exact z.2.2.2.2.1
        · exact e88) (fun k hk => f.2.2.1 k (by rcases hk with z | z | z | z | z | z | z | z <;> rw [z] <;> decide))
    · exact exP_0 z.2.2.1 z.2.2.2.1 z.2.2.2.2.1 (by rw [e88]; exact rj_88 J)
  · rcases z with z | z
    · exact jVs_o J.2.2.2.1 (by rw [z.2.2.2.2.2.1]; exact fun y => y) z.2.2.1 (f.2.2.1 102 (by decide))
    · exact fun y => absurd z.2.2.2.2.2.1 y
  · rcases z with z | z
    · exact jWo_o J.2.2.2.2.1 (by rw [z.2.2.2.2.2.2.2]; exact fun y => y) z.2.2.1 (f.2.2.1 115 (by decide)) (f.2.2.1 116 (by decide))
    · exact fun y => absurd z.2.2.2.2.2.2.2 y
  · refine plN_o J.2.2.2.2.2.1 ?_ (fun k hk => ⟨by rw [r1], fun i _ => by rw [r0]⟩)
    rcases z with z | z
    · rw [z.2.2.2.2.2.2.1]; exact fun y => y
    · exact fun y => absurd z.2.2.2.2.2.2.1 y)
theorem rJ_w {σ ρ τ : rS} (J : rJ σ) (hρ : ∀ k, k ≠ 113 → ρ.1 k = σ.1 k) (hs : ρ.2.2 = σ.2.2) (f : frW ρ τ) (p : plN τ) : rJ τ ∧ (pR7 σ τ ∧ kX7 σ τ ∧ kD20 σ τ) := by
  have ef : ∀ k, k ∉ pyF → k ≠ 113 → τ.1 k = σ.1 k := fun k z1 z2 => (f.1 k z1).trans (hρ k z2)
  have er : ∀ k, k ≠ 90 → k ≠ 91 → k ∉ pyR → τ.2.2.1 k = σ.2.2.1 k := fun k z1 z2 z3 => (f.2.2.1 k z1 z2 z3).trans (by rw [hs])
  have g := rJ_x J (fun k hk => ef k ((by decide : ∀ k, k ∈ rjA → k ∉ pyF) k hk) ((by decide : ∀ k, k ∈ rjA → k ≠ 113) k hk)) (fun k hk => er k ((by decide : ∀ k, k ∈ rjZ → k ≠ 90) k hk) ((by decide : ∀ k, k ∈ rjZ → k ≠ 91) k hk) ((by decide : ∀ k, k ∈ rjZ → k ∉ pyR) k hk)) (fun j => (f.2.2.2.1 8 j).trans (by rw [hs])) (exP_o J.2.2.1 (fun k hk => ef k (by rcases hk with z | z | z | z <;> rw [z] <;> decide) (by rcases hk with z | z | z | z <;> rw [z] <;> decide)) (fun k hk => er k (by rcases hk with z | z | z | z | z | z | z | z <;> rw [z] <;> decide) (by rcases hk with z | z | z | z | z | z | z | z <;> rw [z] <;> decide) (by rcases hk with z | z | z | z | z | z | z | z <;> rw [z] <;> decide))) (jVs_o J.2.2.2.1 (by rw [ef 94 (by decide) (by decide)]; exact fun y => y) (ef 70 (by decide) (by decide)) (er 102 (by decide) (by decide) (by decide))) (jWo_o J.2.2.2.2.1 (by rw [ef 114 (by decide) (by decide)]; exact fun y => y) (ef 70 (by decide) (by decide)) (er 115 (by decide) (by decide) (by decide)) (er 116 (by decide) (by decide) (by decide))) p (shO_o J.2.2.2.2.2.2.1 (ef 103 (by decide) (by decide)) (fun k hk => by
    have y := f.2.2.2.2 k (by rcases hk with z | z <;> rw [z] <;> decide)
    rw [hs] at y
    exact y))
  have x := (fun k hk h1 => ef k hk h1 : ∀ k, k ∉ pyF → k ≠ 113 → τ.1 k = σ.1 k)
  exact ⟨g.1, g.2, ⟨fun k hk => ef k ((by decide : ∀ k, k ∈ kd7 → k ∉ pyF) k hk) ((by decide : ∀ k, k ∈ kd7 → k ≠ 113) k hk), fun k hk => er k ((by decide : ∀ k, k ∈ kx7 → k ≠ 90) k hk) ((by decide : ∀ k, k ∈ kx7 → k ≠ 91) k hk) ((by decide : ∀ k, k ∈ kx7 → k ∉ pyR) k hk)⟩, ef 104 (by decide) (by decide), er 105 (by decide) (by decide) (by decide)⟩
theorem rj_T (J : rJ σ) : ∃ T, (σ.1 14 ≠ 0 → rI σ (σ.1 3) T) := by
  by_cases z : σ.1 14 = 0
  · exact ⟨0, fun y => absurd z y⟩
  · obtain ⟨T, g⟩ := J.2.1.2.2 z
    exact ⟨T, fun _ => ⟨J.2.1.2.1, g⟩⟩

end callz

end
section
set_option maxHeartbeats 1600000
/-! the reference: next, ending, value by what they answer; what holds behind them -/
section callx
variable {C : rCx} {σ : rS} {a1 a2 a3 : Int32}
theorem next_j8 (hC : cOK C) (J : rJ σ) {Q : Int32 → rS → Prop} (h : ∀ v σ', rJ σ' → pR8 σ σ' → XN8 a1 a2 a3 σ σ' v → Q v σ') : cI C 1 m_next [.ref (co C), .int a1, .int a2, .int a3] σ Q := next_g5 hC J.2.2.1 (fun v σ' q => h v σ' (rJ_G J q.1).1 (rJ_G J q.1).2 q.2)
theorem value_j8 (hC : cOK C) (J : rJ σ) {Q : Int32 → rS → Prop} (h : ∀ v σ', rJ σ' → pR8 σ σ' → XV8 a1 a2 a3 σ σ' v → Q v σ') : cI C 1 m_value [.ref (co C), .int a1, .int a2, .int a3] σ Q := value_g5 hC ⟨J.2.2.1, J.2.1.2.1⟩ (fun v σ' q => h v σ' (rJ_G J q.1).1 (rJ_G J q.1).2 q.2)
theorem ending_j8 (hC : cOK C) (J : rJ σ) {Q : Int32 → rS → Prop} (h : ∀ v σ', rJ σ' → pR8 σ σ' → XE8 a1 a2 σ σ' v → Q v σ') : cI C 0 m_ending [.ref (co C), .int a1, .int a2] σ Q := ending_g5 hC ⟨J.2.2.1, J.2.1.2.1⟩ (fun v σ' q => h v σ' (rJ_G J q.1).1 (rJ_G J q.1).2 q.2)
theorem state_j8 (hC : cOK C) (J : rJ σ) {Q : Int32 → rS → Prop} (h : ∀ v σ', rJ σ' → pR8 σ σ' → XT8 a1 a2 σ σ' v → Q v σ') : cI C 1 m_state [.ref (co C), .int a1, .int a2] σ Q := state_g5 hC J.2.2.1 (fun v σ' q => h v σ' (rJ_G J q.1).1 (rJ_G J q.1).2 q.2)
theorem count_j8 (hC : cOK C) (J : rJ σ) {Q : Int32 → rS → Prop} (h : ∀ v σ', rJ σ' → pR8 σ σ' → XK8 a1 σ σ' v → Q v σ') : cI C 1 m_count [.ref (co C), .int a1] σ Q := count_g5 hC ⟨J.2.2.1.1.1.1, J.2.2.1.1.1.2⟩ (fun v σ' q => h v σ' (rJ_G J q.1).1 (rJ_G J q.1).2 q.2)
theorem best_j8 (hC : cOK C) (J : rJ σ) {Q : Int32 → rS → Prop} (h : ∀ v σ', rJ σ' → pT8 σ σ' → XB8 σ σ' v → Q v σ') : cI C 7 m_best [.ref (co C)] σ Q := best_g5 hC _ ⟨J.2.2.1, rfl, J.2.2.2.2.1⟩ (fun v σ' q => by
  obtain ⟨⟨f, e, s, v4, n⟩, xb⟩ := q
  have e70 := f.1 70 (by decide)
  have g := rJ_x J (fun k hk => f.1 k ((by decide : ∀ k, k ∈ rjA → k ∉ bfF) k hk)) (fun k hk => f.2.2.1 k ((by decide : ∀ k, k ∈ rjZ → k ∉ bfR) k hk)) (fun j => by rw [f.2.2.2 8 (by decide)]) e (jVs_o J.2.2.2.1 v4 e70 (f.2.2.1 102 (by decide))) (fun y k hk => s y k (by rw [← e70]; exact hk)) (plN_o J.2.2.2.2.2.1 (by rw [f.1 106 (by decide)]; exact fun y => y) (fun k hk => n k (by omega))) (shO_o J.2.2.2.2.2.2.1 (f.1 103 (by decide)) (fun k hk => n k (by omega)))
  exact h v σ' g.1 ⟨g.2, ⟨fun k hk => f.1 k ((by decide : ∀ k, k ∈ ke8 → k ∉ bfF) k hk), fun k hk => f.2.2.1 k ((by decide : ∀ k, k ∈ ky8 → k ∉ bfR) k hk), by rw [f.2.1]⟩⟩ xb)
theorem decide_j8 (hC : cOK C) (J : rJ σ) {Q : Int32 → rS → Prop} (h : ∀ v σ', rJ σ' → pD8 a1 a2 σ σ' → XD8 a1 a2 σ σ' v → Q v σ') : cI C 1 m_decide [.ref (co C), .int a1, .int a2] σ Q := decide_g5 hC J.2.2.1 (fun v σ' q => by
  obtain ⟨⟨f, e, z⟩, xd, xu⟩ := q
  have g := rJ_x J (fun k hk => f.1 k ((by decide : ∀ k, k ∈ rjA → k ∉ [0, 94]) k hk)) (fun k hk => f.2.2.1 k ((by decide : ∀ k, k ∈ rjZ → k ∉ [83]) k hk)) (fun j => f.2.2.2 8 j) e (by
    rcases z with z | z
    · exact jVs_o J.2.2.2.1 (by rw [z.1 94 (by decide)]; exact fun y => y) (z.1 70 (by decide)) (z.2.2.1 102 (by decide))
    · exact fun y => absurd z y) (jWo_o J.2.2.2.2.1 (by rw [f.1 114 (by decide)]; exact fun y => y) (f.1 70 (by decide)) (f.2.2.1 115 (by decide)) (f.2.2.1 116 (by decide))) (plN_o J.2.2.2.2.2.1 (by rw [f.1 106 (by decide)]; exact fun y => y) (fun k hk => ⟨by rw [f.2.2.1 91 (by decide)], fun i _ => by rw [f.2.2.1 90 (by decide)]⟩)) (shO_o J.2.2.2.2.2.2.1 (f.1 103 (by decide)) (fun k hk => ⟨by rw [f.2.2.1 91 (by decide)], fun i _ => by rw [f.2.2.1 90 (by decide)]⟩))
  exact h v σ' g.1 ⟨⟨g.2, fun k hk => f.1 k ((by decide : ∀ k, k ∈ ke8 → k ∉ [0, 94]) k hk), fun k hk => f.2.2.1 k ((by decide : ∀ k, k ∈ ky8 → k ∉ [83]) k hk), f.2.1 110⟩, xu⟩ xd)
theorem decided_j8 (hC : cOK C) (J : rJ σ) {Q : Int32 → rS → Prop} (h : ∀ v σ', rJ σ' → pR8 σ σ' → XG8 a1 σ σ' v → Q v σ') : cI C 1 m_decided [.ref (co C), .int a1] σ Q := decided_g5 hC J.2.2.1 (fun v σ' q => h v σ' (rJ_G J q.1).1 (rJ_G J q.1).2 q.2)
theorem cy_p23 {σ : rS} {x : Int64} {a : Int32} : cy21 (siU (slU σ 112 x) 113 1) a = cy21 σ a := by
  unfold cy21
  have e : (siU (slU σ 112 x) 113 1).1 14 = σ.1 14 := by rw [si1, if_neg (by decide)]; rfl
  rw [e]
theorem cy_w23 {σ : rS} {a : Int32} : cy21 (siU σ 113 0) a = cy21 σ a := by
  unfold cy21
  have e : (siU σ 113 0).1 14 = σ.1 14 := by rw [si1, if_neg (by decide)]
  rw [e]
def pY23 (m : Int32) (σ σ9 σ' : rS) (v : Int32) : Prop := (oR9 σ' = oR9 σ ∧ kR7 σ σ') ∧ (kX7 σ σ' ∧ kD20 σ σ') ∧ cy21 σ9 m = cy21 σ m ∧ (∀ k, k ≠ 113 → σ9.1 k = σ.1 k) ∧ (σ9.2.1 110 = σ.2.1 110 ∧ σ9.2.2 = σ.2.2) ∧ GO21 m σ9 σ' v
def XP21 (x : Int64) (a : Int32) (σ σ' : rS) (v : Int32) : Prop := GO21 a (siU (slU σ 112 x) 113 1) σ' v
def XW21 (a : Int32) (σ σ' : rS) (v : Int32) : Prop := GO21 a (siU σ 113 0) σ' v
theorem play_j8 {x : Int64} (hC : cOK C) (J : rJ σ) {Q : Int32 → rS → Prop} (h : ∀ v σ', rJ σ' → pY23 a1 σ (siU (slU σ 112 x) 113 1) σ' v → Q v σ') : cI C 11 m_play [.ref (co C), .long x, .int a1] σ Q := by
  obtain ⟨T, hT⟩ := rj_T J
  exact play_g5 hC T ⟨hT, J.2.2.1, J.2.2.2.2.2.2.2.1, J.2.2.2.2.2.2.2.2, J.2.2.2.2.2.1⟩ (fun v σ' q => by
    have g := rJ_w (ρ := (siU (slU σ 112 x) 113 1)) J (fun k hk => if_neg hk) rfl q.1.1 q.1.2
    exact h v σ' g.1 ⟨g.2.1, g.2.2, cy_p23, fun k hk => if_neg hk, ⟨sl_o21 (σ := σ) (k := 112) (j := 110) (x := x) (by decide), rfl⟩, q.2⟩)
theorem walk_j8 (hC : cOK C) (J : rJ σ) {Q : Int32 → rS → Prop} (h : ∀ v σ', rJ σ' → pY23 a1 σ (siU σ 113 0) σ' v → Q v σ') : cI C 11 m_walk [.ref (co C), .int a1] σ Q := by
  obtain ⟨T, hT⟩ := rj_T J
  exact walk_g5 hC T ⟨hT, J.2.2.1, J.2.2.2.2.2.2.2.1, J.2.2.2.2.2.2.2.2, J.2.2.2.2.2.1⟩ (fun v σ' q => by
    have g := rJ_w (ρ := (siU σ 113 0)) J (fun k hk => if_neg hk) rfl q.1.1 q.1.2
    exact h v σ' g.1 ⟨g.2.1, g.2.2, cy_w23, fun k hk => if_neg hk, ⟨rfl, rfl⟩, q.2⟩)
theorem PB_x21 {σ : rS} (hP : exP σ) : PB21 σ := fun k hk => by
  have hO := hP.1
  have n1 := hO.1.2
  have n0 := hO.1.1
  rw [lei, t0i] at n0
  rw [lei, show (1000 : Int32).toInt = 1000 from rfl] at n1
  have cn := cnk n0
  have ex : (Int32.ofNat k).toNatClampNeg = k := cl_5 (by omega)
  have ei : (Int32.ofNat k).toInt = (k : Int) := ofn_i (by omega)
  have e0 : (0 : Int32) ≤ Int32.ofNat k := by rw [lei, t0i, ei]; omega
  have e1 : Int32.ofNat k < σ.1 70 := by rw [lti, ei]; omega
  have e2 : (Int32.ofNat k + 1).toNatClampNeg = k + 1 := by rw [(cn1 (by rw [ei]; omega) (by rw [ei]; omega)).1, ex]
  have s := hO.2.2.2.1 _ e0 e1
  have p := hP.2.2.1 _ e0 e1
  simp only [stOK, rd, ex, e2] at s
  simp only [rd, ex, e2] at p
  obtain ⟨⟨s0, s1, s2⟩, _⟩ := s
  have x1 := hO.2.2.1.2
  rw [lei, show (20000 : Int32).toInt = 20000 from rfl] at x1
  rw [lei, t0i] at s0
  rw [lti] at s1
  rw [lei] at s2
  refine ⟨p.1, fun z => ?_⟩
  obtain ⟨p1, p2⟩ := p.2 z
  rw [lei, t0i] at p1
  rw [lti, sub_i (by omega) (by omega)] at p2
  exact ⟨p1, p2⟩
theorem PB_j21 (J : rJ σ) : PB21 σ := PB_x21 J.2.2.1
theorem played_j8 (hC : cOK C) (J : rJ σ) {Q : Int64 → rS → Prop} (h : ∀ v σ', rJ σ' → pR8 σ σ' → XQ23 a1 σ σ' v → Q v σ') : cJ C 0 m_played [.ref (co C), .int a1] σ Q := played_g23 hC (rj34 J.2.1.2.1) (fun v σ' q => h v σ' (rJ_T J q.1).1 (rJ_T J q.1).2 q.2)
end callx

end
section
set_option maxHeartbeats 1600000
/-! the class: ChanceWorks' perform -/
theorem ch_a9 {C : zC} {n0 b : Nat} {F : Nat → Nat → Prop} {κ τ : zS} (W : zW C n0 κ) (T : zT κ b = 3) (Z : zF F κ τ) (hF : ∀ f x, F f x → zT κ x ≠ 3 ∧ zT κ x ≠ 6) (H : atH κ b) : atH τ b ∧ (atM κ b → atM τ b) ∧ zI τ atExplored b = zI κ atExplored b := by
  have no : ∀ f, ¬ F f b := fun f z => (hF f b z).1 T
  refine ⟨⟨?_, ?_⟩, fun M => ?_, Z.i (no _)⟩
  · rw [Z.r (no atStates)]
    exact hoI_zF Z W (ty_atStates W T) (fun f z => (hF f _ z).2 (ty_atStates W T)) H.1
  · rw [Z.r (no atEndings)]
    exact hoI_zF Z W (ty_atEndings W T) (fun f z => (hF f _ z).2 (ty_atEndings W T)) H.2
  · obtain ⟨m1, m2, m3, m4, m5, m6⟩ := M
    exact ⟨by rw [Z.r (no _), Z.l (ty_atFirsts W T)]; exact m1, by rw [Z.r (no _), Z.l (ty_atTotals W T)]; exact m2, by rw [Z.r (no _), Z.l (ty_atGains W T)]; exact m3, by rw [Z.r (no _), Z.l (ty_atPlan W T)]; exact m4, by rw [Z.r (no _), Z.l (ty_atChooses W T)]; exact m5, by rw [Z.r (no _), Z.l (ty_atHopeless W T)]; exact m6⟩
/-- on the way of a play -/
def pfJ9 (κ τ : zS) (a : Nat) : Prop := zF (dwF9 (zR κ chMachine a) a) κ τ ∧ (∀ f, f ≠ chDrawnWeights → f ≠ chDrawnTotals → zR τ f a = zR κ f a) ∧ mkI τ (zR κ chMachine a) ∧ dwI9 τ a
def pfF9 (m a : Nat) : Nat → Nat → Prop := fun f b => b = m ∨ (b = a ∧ (f = chDrawnWeights ∨ f = chDrawnTotals ∨ f = chRecord ∨ f = chLastShared ∨ f = chPlayMade))
theorem pf_m9 {C : zC} {n0 a : Nat} {κ τ σ : zS} (W : zW C n0 τ) (T : zT τ (zR κ chMachine a) = 7) (J : pfJ9 κ τ a) (q : mF τ σ (zR κ chMachine a)) : pfJ9 κ σ a := by
  refine ⟨J.1.tr (q.1.mono (fun f b z => Or.inl z)), fun f h1 h2 => ?_, (mkI_f q W T J.2.2.1).1, ?_⟩
  · rw [q.2.1]
    exact J.2.1 f h1 h2
  · unfold dwI9
    rw [q.2.1, q.2.2.1]
    exact J.2.2.2
theorem Ch_perform_c {C : zC} {n0 : Nat} {a0 : Nat} {a1 : Int32} {a2 : Int64} {a4 : Int32} {κ : zS} {Q : Int32 → zS → Prop} (W : zW C n0 κ) (Ta0 : zT κ a0 = 15)  (hp : maL κ (zR κ chMachine a0) ∧ coI κ (zR κ chCode a0) ∧ dwI9 κ a0 ∧ ((zN κ (zR κ chRecord a0)) = 5 ∧ (zN κ (zR κ chLastShared a0)) = 34 ∧ (zN κ (zR κ chTold a0)) = 200 ∧ (zI κ chTolds a0).toInt ≤ 200) ∧ atH κ (zR κ chAtlas a0) ∧ (zI κ atExplored (zR κ chAtlas a0) ≠ 0 → atM κ (zR κ chAtlas a0)) ∧ a4.toInt ≤ 2000) (h : ∀ (v : Int32) (κ' : zS), (zF (pfF9 (zR κ chMachine a0) a0) κ κ' ∧ (∀ f, f ≠ chDrawnWeights → f ≠ chDrawnTotals → zR κ' f a0 = zR κ f a0) ∧ mkI κ' (zR κ chMachine a0) ∧ dwI9 κ' a0) → Q v κ') : zRun C 5 mCh_perform [.ref a0, .int a1, .long a2, .int a4] κ (oI Q noX) := by
  refine Ch_perform_run W Ta0 ?_
  replace W := W.lo (Nat.le_trans W.1.2.1 W.1.2.2) (Nat.le_refl (zn κ))
  unfold w_Ch_perform_0
  have am := ch_m9 W Ta0
  have tm := ty_chMachine W Ta0
  obtain ⟨L0, C0, D0, ⟨n5, n34, n200, t20⟩, H0, M0, l4⟩ := hp
  have F7 : ∀ f x, dwF9 (zR κ chMachine a0) a0 f x → zT κ x = 7 ∨ zT κ x = 15 := by
    rintro f x (z | z)
    · left; rw [z]; exact tm
    · right; rw [z.1]; exact Ta0
  have e1 : (1 : Int32).toInt = 1 := rfl
  have hj180 : ∀ (l0 : Nat) (l7 : Int32) (l8 : Int32) (l9 : Int64) (τ : zS), zW C (zn κ) τ → zT τ l0 = 15 → (a0 = l0 ∧ pfJ9 κ τ a0) → w_Ch_perform_180 C (zn κ) Q  l0 l7 l8 l9 τ := by
    rintro _ y180_7 y180_8 y180_9 τ180 W180 T180_0 ⟨rfl, j180⟩
    unfold w_Ch_perform_180
    intro T1
    refine Ch_note_c W180 T1  ?_ (fun κ_2 q3 => ?_)
    · obtain ⟨Z1, R1, K1, D1⟩ := j180
      rw [R1 chMachine (by decide) (by decide), R1 chCode (by decide) (by decide), R1 chRecord (by decide) (by decide), R1 chLastShared (by decide) (by decide)]
      refine ⟨K1, coI_zF Z1 W (ty_chCode W Ta0) (fun f z => ?_) C0, (Z1.l (ty_chRecord W Ta0)).trans n5, (Z1.l (ty_chLastShared W Ta0)).trans n34⟩
      have t5 := ty_chCode W Ta0
      rcases F7 _ _ z with y | y <;> rw [y] at t5 <;> exact absurd t5 (by decide)
    intro W4
    intro M5
    refine h _ _ ?_
    · obtain ⟨Z1, R1, K1, D1⟩ := j180
      have am1 := ch_m9 W180 T180_0
      rw [R1 chMachine (by decide) (by decide)] at am1
      refine ⟨(Z1.mono (fun f b z => ?_)).tr (q3.1.mono (fun f b z => ?_)), fun f h1 h2 => ?_, mkI_zF q3.1 W180 (Z1.t tm (by decide)) (fun f z => am1.1 z.1.symm) (fun f z => am1.2.1 z.1.symm) K1, ?_⟩
      · rcases z with z | ⟨z, y | y⟩
        · exact Or.inl z
        · exact Or.inr ⟨z, Or.inl y⟩
        · exact Or.inr ⟨z, Or.inr (Or.inl y)⟩
      · exact Or.inr ⟨z.1, Or.inr (Or.inr z.2)⟩
      · rw [q3.2]; exact R1 f h1 h2
      · unfold dwI9
        rw [q3.2, q3.1.l (ty_chDrawnWeights W180 T180_0), q3.1.l (ty_chDrawnTotals W180 T180_0)]
        exact D1
  intro T6
  intro T7
  refine Ma_begin_c W T6 T7  ?_ (fun κ_8 q9 => ?_)
  · exact ⟨L0, C0⟩  -- p3
  intro W10
  intro M11
  unfold w_Ch_perform_26
  refine ⟨fun n l0 l1 l4 l5 l7 l8 l9 l11 τ => n = (a4.toInt - l11.toInt).toNat ∧ (a0 = l0 ∧ a1 = l1 ∧ a4 = l4 ∧ pfJ9 κ τ a0 ∧ (zI τ maOutcome (zR κ chMachine a0) = 0 → mO τ (zR κ chMachine a0)) ∧ (0 ≤ l8.toInt ∧ l8.toInt ≤ l11.toInt)), ⟨_, rfl, ?_⟩, ?_⟩
  · refine ⟨rfl, rfl, rfl, ⟨q9.1.mono (fun f b z => Or.inl z), fun f _ _ => q9.1.r (fun z => am.1 z), q9.2.2.1, ?_⟩, fun z => ?_, by decide, by decide⟩
    · unfold dwI9
      rw [q9.1.r (fun z => am.1 z), q9.1.r (fun z => am.1 z), q9.1.l (ty_chDrawnWeights W Ta0), q9.1.l (ty_chDrawnTotals W Ta0)]
      exact D0
    · rcases q9.2.2.2.2.1 with y | y
      · exact y
      · rw [y] at z
        exact absurd z (by decide)
  rintro n26 _ _ _ x26_5 x26_7 x26_8 x26_9 x26_11 κ26 W26 T26_0 ⟨hn26, rfl, rfl, rfl, i26⟩
  have hj158 : ∀ (l0 : Nat) (l1 : Int32) (l4 : Int32) (l5 : Int64) (l7 : Int32) (l8 : Int32) (l9 : Int64) (l11 : Int32) (τ : zS), zW C (zn κ) τ → zT τ l0 = 15 → (a0 = l0 ∧ a1 = l1 ∧ a4 = l4 ∧ pfJ9 κ τ a0 ∧ (zI τ maOutcome (zR κ chMachine a0) = 0 → mO τ (zR κ chMachine a0)) ∧ (0 ≤ l8.toInt ∧ l8.toInt ≤ l11.toInt + 1) ∧ l11 = x26_11 ∧ (0 ≤ l11.toInt ∧ l11.toInt < a4.toInt)) → w_Ch_perform_158 C (zn κ) Q (fun (l0' : Nat) (l1' : Int32) (l4' : Int32) (l5' : Int64) (l7' : Int32) (l8' : Int32) (l9' : Int64) (l11' : Int32) (τ : zS) => ∃ k < n26, (fun (n : Nat) (l0 : Nat) (l1 : Int32) (l4 : Int32) (l5 : Int64) (l7 : Int32) (l8 : Int32) (l9 : Int64) (l11 : Int32) (τ : zS) => n = (a4.toInt - l11.toInt).toNat ∧ (a0 = l0 ∧ a1 = l1 ∧ a4 = l4 ∧ pfJ9 κ τ a0 ∧ (zI τ maOutcome (zR κ chMachine a0) = 0 → mO τ (zR κ chMachine a0)) ∧ (0 ≤ l8.toInt ∧ l8.toInt ≤ l11.toInt))) k l0' l1' l4' l5' l7' l8' l9' l11' τ) l0 l1 l4 l5 l7 l8 l9 l11 τ := by
    rintro _ _ _ y158_5 y158_7 y158_8 y158_9 y158_11 τ158 W158 T158_0 ⟨rfl, rfl, rfl, j158⟩
    unfold w_Ch_perform_158
    intro x12 hx12
    intro x13 hx13
    intro x14 hx14
    obtain ⟨J6, O6, ⟨b0, b1⟩, ex, x0, x1⟩ := j158
    have ix := cn1 (x := y158_11) x0 (by omega)
    refine ⟨_, ?_, rfl, ?_⟩
    · rw [hn26, hx14, ix.2, ← ex]; omega  -- d5
    · exact ⟨rfl, rfl, rfl, J6, O6, b0, by rw [hx14, ix.2]; omega⟩  -- i6
  have hj150 : ∀ (l0 : Nat) (l1 : Int32) (l4 : Int32) (l5 : Int64) (l7 : Int32) (l8 : Int32) (l9 : Int64) (l11 : Int32) (s0 : Int32) (s1 : Nat) (s2 : Int32) (τ : zS), zW C (zn κ) τ → zT τ l0 = 15 → zT τ s1 = 15 → (a0 = l0 ∧ a1 = l1 ∧ a4 = l4 ∧ pfJ9 κ τ a0 ∧ (mO τ (zR κ chMachine a0) ∧ (zI τ maWays (zR κ chMachine a0)).toInt ≤ 64) ∧ (0 ≤ l8.toInt ∧ l8.toInt ≤ l11.toInt) ∧ (l11 = x26_11 ∧ l11.toInt < a4.toInt) ∧ s0 = l8 ∧ s1 = a0) → w_Ch_perform_150 C (zn κ) Q (fun (l0' : Nat) (l1' : Int32) (l4' : Int32) (l5' : Int64) (l7' : Int32) (l8' : Int32) (l9' : Int64) (l11' : Int32) (τ : zS) => ∃ k < n26, (fun (n : Nat) (l0 : Nat) (l1 : Int32) (l4 : Int32) (l5 : Int64) (l7 : Int32) (l8 : Int32) (l9 : Int64) (l11 : Int32) (τ : zS) => n = (a4.toInt - l11.toInt).toNat ∧ (a0 = l0 ∧ a1 = l1 ∧ a4 = l4 ∧ pfJ9 κ τ a0 ∧ (zI τ maOutcome (zR κ chMachine a0) = 0 → mO τ (zR κ chMachine a0)) ∧ (0 ≤ l8.toInt ∧ l8.toInt ≤ l11.toInt))) k l0' l1' l4' l5' l7' l8' l9' l11' τ) l0 l1 l4 l5 l7 l8 l9 l11 s0 s1 s2 τ := by
    rintro _ _ _ y150_5 y150_7 y150_8 y150_9 y150_11 y150_s0 y150_s1 y150_s2 τ150 W150 T150_0 T150_1 ⟨rfl, rfl, rfl, j150⟩
    unfold w_Ch_perform_150
    intro T15
    obtain ⟨J5, ⟨O5, w5⟩, ⟨b0, b1⟩, ⟨ex, x1⟩, es0, es1⟩ := j150
    have rm := J5.2.1 chMachine (by decide) (by decide)
    rw [es1]
    rw [es1] at T15
    refine Ch_drawn_c W150 T15  ?_ (fun r16 κ_17 q18 => ?_)
    · rw [rm]
      exact ⟨J5.2.2.1, ⟨O5, w5⟩, J5.2.2.2, b0, by omega⟩
    intro W19
    intro M20
    intro x21 hx21
    refine hj158 _ _ _ _ _ _ _ _ _ W19 ?_ ?_
    · exact q18.1.t T15 (by decide)  -- t8
    · rw [rm] at q18
      have xb : x21.toInt = y150_8.toInt + r16.toInt ∧ 0 ≤ r16.toInt ∧ r16.toInt ≤ 1 := by
        have t0 : (0 : Int32).toInt = 0 := rfl
        rw [hx21, es0]
        rcases q18.2.2.2.2.2 with y | y <;> rw [y]
        · rw [add_i (by rw [t0]; omega) (by rw [t0]; omega), t0]
          omega
        · rw [add_i (by rw [e1]; omega) (by rw [e1]; omega), e1]
          omega
      refine ⟨rfl, rfl, rfl, ⟨J5.1.tr q18.1, fun f h1 h2 => (q18.2.1 f h1 h2).trans (J5.2.1 f h1 h2), q18.2.2.1, q18.2.2.2.2.1⟩, q18.2.2.2.1, ⟨by omega, by omega⟩, ex, by omega, x1⟩
  have hj109 : ∀ (l0 : Nat) (l1 : Int32) (l4 : Int32) (l5 : Int64) (l7 : Int32) (l8 : Int32) (l9 : Int64) (l11 : Int32) (τ : zS), zW C (zn κ) τ → zT τ l0 = 15 → (a0 = l0 ∧ a1 = l1 ∧ a4 = l4 ∧ pfJ9 κ τ a0 ∧ (mO τ (zR κ chMachine a0) ∧ (zI τ maWays (zR κ chMachine a0)).toInt ≤ 64) ∧ (0 ≤ l8.toInt ∧ l8.toInt ≤ l11.toInt) ∧ (l11 = x26_11 ∧ l11.toInt < a4.toInt) ∧ (¬ a1 = 0 → l8.toInt < 200)) → w_Ch_perform_109 C (zn κ) Q (fun (l0' : Nat) (l1' : Int32) (l4' : Int32) (l5' : Int64) (l7' : Int32) (l8' : Int32) (l9' : Int64) (l11' : Int32) (τ : zS) => ∃ k < n26, (fun (n : Nat) (l0 : Nat) (l1 : Int32) (l4 : Int32) (l5 : Int64) (l7 : Int32) (l8 : Int32) (l9 : Int64) (l11 : Int32) (τ : zS) => n = (a4.toInt - l11.toInt).toNat ∧ (a0 = l0 ∧ a1 = l1 ∧ a4 = l4 ∧ pfJ9 κ τ a0 ∧ (zI τ maOutcome (zR κ chMachine a0) = 0 → mO τ (zR κ chMachine a0)) ∧ (0 ≤ l8.toInt ∧ l8.toInt ≤ l11.toInt))) k l0' l1' l4' l5' l7' l8' l9' l11' τ) l0 l1 l4 l5 l7 l8 l9 l11 τ := by
    rintro _ _ _ y109_5 y109_7 y109_8 y109_9 y109_11 τ109 W109 T109_0 ⟨rfl, rfl, rfl, j109⟩
    unfold w_Ch_perform_109
    intro x22 hx22
    obtain ⟨J9, ⟨O9, w9⟩, b9, ex, h20⟩ := j109
    have rm := J9.2.1 chMachine (by decide) (by decide)
    refine ⟨fun c23 => ?_, fun c23 => ?_⟩
    · skip
      intro T24
      refine Ma_wayAt_c W109 T24  ?_ (fun r25 q27 => ?_)
      · rw [rm]
        exact ⟨J9.2.2.1.1, w9⟩
      intro W28
      intro M29
      refine hj150 _ _ _ _ _ _ _ _ _ _ _ _ W28 ?_ ?_ ?_
      · exact T109_0  -- t11
      · exact T109_0  -- t12
      · exact ⟨rfl, rfl, rfl, J9, ⟨O9, w9⟩, b9, ex, rfl, rfl⟩  -- k13
    · skip
      refine ⟨?_, ?_⟩
      · rw [inb_iff, J9.2.1 chTold (by decide) (by decide), J9.1.l (ty_chTold W Ta0), n200]
        have := h20 c23
        omega
      refine hj150 _ _ _ _ _ _ _ _ _ _ _ _ W109 ?_ ?_ ?_
      · exact T109_0  -- t15
      · exact T109_0  -- t16
      · exact ⟨rfl, rfl, rfl, J9, ⟨O9, w9⟩, b9, ex, rfl, rfl⟩  -- k17
  obtain ⟨J2, O2, b20, b21⟩ := i26
  have rm := J2.2.1 chMachine (by decide) (by decide)
  have tm2 : zT κ26 (zR κ chMachine a0) = 7 := J2.1.t tm (by decide)
  refine ⟨fun c30 => ?_, fun c30 => ?_⟩
  · skip
    refine hj180 _ _ _ _ _ W26 ?_ ?_
    · exact T26_0  -- t18
    · exact ⟨rfl, J2⟩  -- k19
  · skip
    refine ⟨fun c31 => ?_, fun c31 => ?_⟩
    · skip
      refine hj180 _ _ _ _ _ W26 ?_ ?_
      · exact T26_0  -- t20
      · exact ⟨rfl, J2⟩  -- k21
    · skip
      intro T32
      refine Ma_act_c2 W26 T32  ?_ (fun κ_33 q34 => ?_)
      · rw [rm] at c31 ⊢
        exact ⟨J2.2.2.1, O2 c31⟩
      intro W35
      intro M36
      rw [rm] at q34
      rw [lei] at c30
      have J3 := pf_m9 W26 tm2 J2 q34.1
      have T33 : zT κ_33 a0 = 15 := J3.1.t Ta0 (by decide)
      have rm3 := J3.2.1 chMachine (by decide) (by decide)
      rw [rm3]
      have O3 : zI κ_33 maOutcome (zR κ chMachine a0) = 0 → mO κ_33 (zR κ chMachine a0) := fun z => by
        rcases q34.2.2.1 with y | y
        · exact y
        · rw [y] at z
          exact absurd z (by decide)
      have D3 : zI κ_33 maWants (zR κ chMachine a0) = 3 ∨ zI κ_33 maWants (zR κ chMachine a0) = 4 → mO κ_33 (zR κ chMachine a0) ∧ (zI κ_33 maWays (zR κ chMachine a0)).toInt ≤ 64 := fun z => by
        have ne : zI κ_33 maWants (zR κ chMachine a0) ≠ -1 := fun y => by
          rw [y] at z
          rcases z with z | z <;> exact absurd z (by decide)
        refine ⟨q34.2.2.2.2 ne, ?_⟩
        rcases q34.2.2.2.1 with y | y | y
        · exact absurd y ne
        · exact y.2.1.2
        · have := y.2.1.2
          omega
      refine ⟨fun c37 => ?_, fun c37 => ?_⟩
      · skip
        refine ⟨fun c38 => ?_, fun c38 => ?_⟩
        · skip
          refine hj158 _ _ _ _ _ _ _ _ _ W35 ?_ ?_
          · exact T33  -- t23
          · exact ⟨rfl, rfl, rfl, J3, O3, ⟨b20, by omega⟩, rfl, by omega, by omega⟩  -- k24
        · skip
          refine ⟨fun c39 => ?_, fun c39 => ?_⟩
          · skip
            refine hj109 _ _ _ _ _ _ _ _ _ W35 ?_ ?_
            · exact T33  -- t25
            · exact ⟨rfl, rfl, rfl, J3, D3 (Or.inl c38), ⟨b20, b21⟩, ⟨rfl, by omega⟩, fun z => absurd c39 z⟩  -- k26
          · skip
            refine ⟨fun c40 => ?_, fun c40 => ?_⟩
            · skip
              refine hj109 _ _ _ _ _ _ _ _ _ W35 ?_ ?_
              · exact T33  -- t27
              · refine ⟨rfl, rfl, rfl, J3, D3 (Or.inl c38), ⟨b20, b21⟩, ⟨rfl, by omega⟩, fun z => ?_⟩
                have it : zI κ_33 chTolds a0 = zI κ chTolds a0 := J3.1.i (fun y => by
                  rcases y with y | ⟨_, y | y⟩
                  · exact am.1 y
                  · exact absurd y (by decide)
                  · exact absurd y (by decide))
                rw [lti, it] at c40
                omega
            · skip
              refine hj180 _ _ _ _ _ W35 ?_ ?_
              · exact T33  -- t29
              · exact ⟨rfl, J3⟩  -- k30
      · skip
        intro T41
        intro T42
        have A3 := ch_a9 W (ty_chAtlas W Ta0) J3.1 (fun f x z => by rcases F7 f x z with y | y <;> rw [y] <;> decide) H0
        refine At_chosen_c W35 T41 T42  ?_ (fun r43 q45 => ?_)
        · rw [J3.2.1 chAtlas (by decide) (by decide)]
          exact ⟨A3.1, fun z => A3.2.1 (M0 (by rw [← A3.2.2]; exact z))⟩
        intro W46
        intro M47
        intro T48
        refine Ma_settle_c W46 T48  ?_ (fun κ_49 q50 => ?_)
        · exact ⟨J3.2.2.1, D3 (Or.inr c37)⟩  -- p32
        intro W51
        intro M52
        refine hj158 _ _ _ _ _ _ _ _ _ W51 ?_ ?_
        · exact q50.1.1.t T33 (by decide)  -- t33
        · refine ⟨rfl, rfl, rfl, pf_m9 W46 (J3.1.t tm (by decide)) J3 q50.1, fun z => ?_, ⟨b20, by omega⟩, rfl, by omega, by omega⟩
          rcases q50.2.2.1 with y | y
          · exact y
          · rw [y] at z
            exact absurd z (by decide)

end
