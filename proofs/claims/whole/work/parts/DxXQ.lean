section
set_option maxHeartbeats 1600000
/-! the last play's record: the class's note, the reference's played, by what they come to -/
def NV23 (κ : zS) (m : Nat) : Int64 := if zI κ maOutcome m = 1 then (zI κ maNumber m).toInt64 else if zI κ maOutcome m = 2 then (zI κ maFailure m).toInt64 else 0
def NT23 (κ κ' : zS) (a : Nat) (n d : Int32) (g : Int64) : Prop := zI κ' chPlayMade a = 1 ∧ (zJ κ' (zR κ chRecord a) 0 = (zI κ maOutcome (zR κ chMachine a)).toInt64 ∧ zJ κ' (zR κ chRecord a) 1 = NV23 κ (zR κ chMachine a) ∧ zJ κ' (zR κ chRecord a) 2 = n.toInt64 ∧ zJ κ' (zR κ chRecord a) 3 = d.toInt64 ∧ zJ κ' (zR κ chRecord a) 4 = g) ∧ ∀ i : Nat, (i : Int) < (zI κ coVars (zR κ chCode a)).toInt + (zI κ coCells (zR κ chCode a)).toInt → zA κ' (zR κ chLastShared a) i = zA κ (zR κ maMemory (zR κ chMachine a)) i
theorem uj_23 {κ τ : zS} {r i : Nat} {x : Int64} (e : τ = uj κ r i x) : zJ τ r i = x ∧ (∀ j, j ≠ i → zJ τ r j = zJ κ r j) ∧ zA τ = zA κ ∧ zI τ = zI κ := by
  subst e
  refine ⟨?_, fun j hj => ?_, rfl, rfl⟩
  · show (if r = r then vp_updL (zJ κ r) i x else zJ κ r) i = x
    rw [if_pos rfl]
    exact if_pos rfl
  · show (if r = r then vp_updL (zJ κ r) i x else zJ κ r) j = _
    rw [if_pos rfl]
    exact if_neg hj
theorem Ch_note_q6 {C : zC} {n0 : Nat} {a0 : Nat} {a1 : Int32} {a2 : Int32} {a3 : Int64} {κ : zS} {Q : zS → Prop} (W : zW C n0 κ) (Ta0 : zT κ a0 = 15) (hp : mkI κ (zR κ chMachine a0) ∧ coI κ (zR κ chCode a0) ∧ (zN κ (zR κ chRecord a0)) = 5 ∧ (zN κ (zR κ chLastShared a0)) = 34) (h : ∀ (κ' : zS), ((zF (ntF9 a0) κ κ' ∧ zR κ' = zR κ) ∧ NT23 κ κ' a0 a1 a2 a3) → Q κ') : zRun C 1 mCh_note [.ref a0, .int a1, .int a2, .long a3] κ (oV Q noX) := by
  refine Ch_note_run W Ta0 ?_
  replace W := W.lo (Nat.le_trans W.1.2.1 W.1.2.2) (Nat.le_refl (zn κ))
  unfold w_Ch_note_0
  have am := ch_m9 W Ta0
  have nr : ∀ τ, zF (ntF9 a0) κ τ → zN τ (zR κ chRecord a0) = 5 := fun τ Z => (Z.l (ty_chRecord W Ta0)).trans hp.2.2.1
  have e1 : (1 : Int32).toInt = 1 := rfl
  have e2 : (2 : Int32).toInt = 2 := rfl
  have e3 : (3 : Int32).toInt = 3 := rfl
  have e4 : (4 : Int32).toInt = 4 := rfl
  have hj58 : ∀ (s0 : Nat) (s1 : Int32) (s2 : Int64) (τ : zS), zW C (zn κ) τ → zT τ a0 = 15 → zT τ s0 = 22 → ((zF (ntF9 a0) κ τ ∧ zR τ = zR κ) ∧ s0 = zR κ chRecord a0 ∧ s1 = 1 ∧ zJ τ (zR κ chRecord a0) 0 = (zI κ maOutcome (zR κ chMachine a0)).toInt64 ∧ s2 = NV23 κ (zR κ chMachine a0) ∧ zA τ = zA κ ∧ zI τ = zI κ) → w_Ch_note_58 C (zn κ) Q a0 a1 a2 a3 s0 s1 s2 τ := by
    intro y58_s0 y58_s1 y58_s2 τ58 W58 T58_0 T58_1 j58
    unfold w_Ch_note_58
    obtain ⟨⟨Z6, R6⟩, es, e6, j0, s2e, A6, I6⟩ := j58
    refine ⟨?_, ?_⟩
    · rw [inb_iff, es, e6, nr _ Z6, e1]; omega
    intro κ_1 hκ_1
    intro W2
    rw [es, ← R6] at hκ_1
    obtain ⟨Z1, R1⟩ := nt_j9 W58 T58_0 hκ_1
    have R1' := R1.trans R6
    have Y1 := Z6.tr Z1
    have u1 := uj_23 hκ_1
    rw [R6, e6, s2e] at u1
    refine ⟨?_, ?_⟩
    · rw [inb_iff, R1', nr _ Y1, e2]; omega
    intro κ_3 hκ_3
    intro W4
    obtain ⟨Z3, R3⟩ := nt_j9 W2 (Z1.t T58_0 (by decide)) hκ_3
    have R3' := R3.trans R1'
    have Y3 := Y1.tr Z3
    have u3 := uj_23 hκ_3
    rw [R1'] at u3
    refine ⟨?_, ?_⟩
    · rw [inb_iff, R3', nr _ Y3, e3]; omega
    intro κ_5 hκ_5
    intro W6
    obtain ⟨Z5, R5⟩ := nt_j9 W4 (Y3.t Ta0 (by decide)) hκ_5
    have R5' := R5.trans R3'
    have Y5 := Y3.tr Z5
    have u5 := uj_23 hκ_5
    rw [R3'] at u5
    refine ⟨?_, ?_⟩
    · rw [inb_iff, R5', nr _ Y5, e4]; omega
    intro κ_7 hκ_7
    intro W8
    intro T9
    obtain ⟨Z7, R7⟩ := nt_j9 W6 (Y5.t Ta0 (by decide)) hκ_7
    have R7' := R7.trans R5'
    have Y7 := Y5.tr Z7
    have u7 := uj_23 hκ_7
    rw [R5'] at u7
    have C7 : coI κ_7 (zR κ chCode a0) := coI_zF Y7 W (ty_chCode W Ta0) (fun f z => am.2.2 z.1.symm) hp.2.1
    refine Co_shared_c W8 T9 ?_ (fun r10 q12 => ?_)
    · rw [R7']; exact C7
    intro W13
    intro M14
    rw [R7'] at q12
    have rb : 0 ≤ r10.toInt ∧ r10.toInt ≤ 34 := by
      obtain ⟨-, hv, ha, hc, -⟩ := C7
      omega
    have kr := cnk rb.1
    have cd : (if (34 : Int32) < r10 then (34 : Int32) else r10) = r10 := if_neg (by
      have e34 : (34 : Int32).toInt = 34 := rfl
      rw [lti, e34]
      omega)
    have n1 : zN κ_7 (zR κ maMemory (zR κ chMachine a0)) = 142 := (Y7.l (ty_maMemory W (ty_chMachine W Ta0))).trans hp.1.1.1
    have n2 : zN κ_7 (zR κ chLastShared a0) = 34 := (Y7.l (ty_chLastShared W Ta0)).trans hp.2.2.2
    have z0 : (0 : Int32).toNatClampNeg = 0 := rfl
    rw [cd]
    refine ⟨?_, ?_⟩
    · rw [R7']
      refine ⟨by decide, by decide, by rw [lei, t0i]; omega, by rw [n1, z0]; omega, by rw [n2, z0]; omega⟩
    intro κ_15 hκ_15
    intro W16
    intro κ_17 hκ_17
    intro W18
    have T7 := Y7.t Ta0 (by decide)
    have o := W8.o (show zr chLastShared = some 20 by decide +kernel) (by decide) (T7.trans (by decide))
    have Z15 : zF (ntF9 a0) κ_7 κ_15 := by
      rw [hκ_15]
      exact zF_uc (by rw [o]; exact ⟨rfl, Or.inr (Or.inl rfl)⟩)
    have Z17 : zF (ntF9 a0) κ_15 κ_17 := by
      rw [hκ_17]
      exact zF_ui ⟨rfl, Or.inr (Or.inr rfl)⟩
    have A7 : zA κ_7 = zA κ := u7.2.2.1.trans (u5.2.2.1.trans (u3.2.2.1.trans (u1.2.2.1.trans A6)))
    have I7 : zI κ_7 = zI κ := u7.2.2.2.trans (u5.2.2.2.trans (u3.2.2.2.trans (u1.2.2.2.trans I6)))
    have J17 : zJ κ_17 = zJ κ_7 := by rw [hκ_17, hκ_15]; rfl
    rw [I7] at q12
    refine h _ ⟨⟨(Y7.tr Z15).tr Z17, by rw [hκ_17, hκ_15]; exact R7'⟩, by rw [hκ_17]; exact if_pos ⟨rfl, rfl⟩, ⟨?_, ?_, ?_, ?_, ?_⟩, fun i hi => ?_⟩
    · rw [J17]
      exact (u7.2.1 0 (by decide)).trans ((u5.2.1 0 (by decide)).trans ((u3.2.1 0 (by decide)).trans ((u1.2.1 0 (by decide)).trans j0)))
    · rw [J17]
      exact (u7.2.1 1 (by decide)).trans ((u5.2.1 1 (by decide)).trans ((u3.2.1 1 (by decide)).trans u1.1))
    · rw [J17]
      exact (u7.2.1 2 (by decide)).trans ((u5.2.1 2 (by decide)).trans u3.1)
    · rw [J17]
      exact (u7.2.1 3 (by decide)).trans u5.1
    · rw [J17]
      exact u7.1
    · have z : zA κ_17 (zR κ chLastShared a0) = va_cpy (zA κ_7 (zR κ maMemory (zR κ chMachine a0))) (zA κ_7 (zR κ chLastShared a0)) 0 0 r10.toNatClampNeg := by
        rw [hκ_17, hκ_15, R7']
        exact if_pos rfl
      rw [z]
      unfold va_cpy
      rw [if_pos ⟨Nat.zero_le _, by omega⟩, A7, Nat.zero_add, Nat.sub_zero]
  intro x19 hx19
  refine ⟨?_, ?_⟩
  · rw [inb_iff, hp.2.2.1, t0i]; omega
  intro κ_20 hκ_20
  intro W21
  obtain ⟨Z20, R20⟩ := nt_j9 W Ta0 hκ_20
  have T20 := Z20.t Ta0 (by decide)
  have u0 := uj_23 hκ_20
  rw [hx19] at u0
  refine ⟨fun c22 => ?_, fun c22 => ?_⟩
  · rw [hx19] at c22
    refine ⟨fun c23 => ?_, fun c23 => ?_⟩
    · rw [hx19] at c23
      exact hj58 _ _ _ _ W21 T20 (ty_chRecord W21 T20) ⟨⟨Z20, R20⟩, by rw [R20], rfl, u0.1, by unfold NV23; rw [if_neg c22, if_neg c23], u0.2.2.1, u0.2.2.2⟩
    · rw [hx19] at c23
      exact hj58 _ _ _ _ W21 T20 (ty_chRecord W21 T20) ⟨⟨Z20, R20⟩, by rw [R20], rfl, u0.1, by unfold NV23; rw [if_neg c22, if_pos c23, R20, u0.2.2.2], u0.2.2.1, u0.2.2.2⟩
  · rw [hx19] at c22
    exact hj58 _ _ _ _ W21 T20 (ty_chRecord W21 T20) ⟨⟨Z20, R20⟩, by rw [R20], rfl, u0.1, by unfold NV23; rw [if_pos c22, R20, u0.2.2.2], u0.2.2.1, u0.2.2.2⟩
/-! the reference: played -/
def pw23 (σ : rS) : Int32 := if σ.1 14 = 0 then 0 else σ.1 15 + σ.1 17
def pc23 (σ : rS) (a : Int32) : Prop := 0 ≤ a ∧ a < 5 + pw23 σ
def pv23 (σ : rS) (a : Int32) : Int64 := if σ.1 106 = -1 then 0 else if a = 0 then (σ.1 106).toInt64 else if a = 1 then (σ.1 107).toInt64 else if a = 2 then (σ.1 108).toInt64 else if a = 3 then (σ.1 109).toInt64 else if a = 4 then σ.2.1 110 else (σ.2.2.1 111 (a - 5).toNatClampNeg).toInt64
def XQ23 (a : Int32) (σ σ' : rS) (v : Int64) : Prop := (pc23 σ a ∧ σ'.1 0 = 0 ∧ v = pv23 σ a) ∨ (¬ pc23 σ a ∧ σ'.1 0 = 1)
theorem played_g23 {C : rCx} (hC : cOK C) {σ : rS} {a1 : Int32} {Q : Int64 → rS → Prop} (hp : 0 ≤ σ.1 15 + σ.1 17 ∧ σ.1 15 + σ.1 17 ≤ 34) (h : ∀ (v : Int64) (σ' : rS), (frT [0] [] σ σ' ∧ XQ23 a1 σ σ' v) → Q v σ') : cJ C 0 m_played [.ref (co C), .int a1] σ Q := by
  refine m_played_run hC ?_
  unfold w_played_0
  have pw : 0 ≤ pw23 σ ∧ pw23 σ ≤ 34 := by
    unfold pw23
    by_cases c : σ.1 14 = 0
    · rw [if_pos c]; decide
    · rw [if_neg c]; exact hp
  have hj36 : ∀ (s1 : Int32), ((s1 = 0 ∧ pc23 σ a1) ∨ (s1 = 1 ∧ ¬ pc23 σ a1)) → w_played_36 C Q a1 s1 σ := by
    intro s1 j
    unfold w_played_36
    intro σ_1 hσ_1
    have F : frT [0] [] σ σ_1 := by rw [hσ_1]; exact frT_0 (by decide)
    have e0 : σ_1.1 0 = s1 := by rw [hσ_1, si1, if_pos rfl]
    have e : ∀ k, k ≠ 0 → σ_1.1 k = σ.1 k := fun k hk => by rw [hσ_1, si1, if_neg hk]
    have e2 : σ_1.2 = σ.2 := by rw [hσ_1, si2]
    rcases j with ⟨j1, j2⟩ | ⟨j1, j2⟩
    · refine ⟨fun c => absurd c (by rw [e0, j1]; decide), fun _ => ⟨fun c3 => ?_, fun c3 => ?_⟩⟩
      · rw [e 106 (by decide)] at c3
        have t : ∀ k : Int32, a1.toInt = k.toInt → a1 = k := fun k hk => Int32.toInt_inj.mp hk
        refine ⟨fun c4 => ⟨ib_34.mpr (py_b j2.1 (py_c pw.1 pw.2 j2.2) c4), h _ _ ⟨F, Or.inl ⟨j2, by rw [e0, j1], ?_⟩⟩⟩, fun c4 => h _ _ ⟨F, Or.inl ⟨j2, by rw [e0, j1], ?_⟩⟩, fun c4 => h _ _ ⟨F, Or.inl ⟨j2, by rw [e0, j1], ?_⟩⟩, fun c4 => h _ _ ⟨F, Or.inl ⟨j2, by rw [e0, j1], ?_⟩⟩, fun c4 => h _ _ ⟨F, Or.inl ⟨j2, by rw [e0, j1], ?_⟩⟩, fun c4 => h _ _ ⟨F, Or.inl ⟨j2, by rw [e0, j1], ?_⟩⟩⟩
        · unfold pv23
          rw [if_neg c3, if_neg (fun z => by rw [z] at c4; exact absurd c4 (by decide)), if_neg (fun z => by rw [z] at c4; exact absurd c4 (by decide)), if_neg (fun z => by rw [z] at c4; exact absurd c4 (by decide)), if_neg (fun z => by rw [z] at c4; exact absurd c4 (by decide)), if_neg (fun z => by rw [z] at c4; exact absurd c4 (by decide)), e2]
        · unfold pv23
          rw [if_neg c3, if_pos (t 0 c4), e 106 (by decide)]
        · have y := t 1 c4
          unfold pv23
          rw [if_neg c3, if_neg (by rw [y]; decide), if_pos y, e 107 (by decide)]
        · have y := t 2 c4
          unfold pv23
          rw [if_neg c3, if_neg (by rw [y]; decide), if_neg (by rw [y]; decide), if_pos y, e 108 (by decide)]
        · have y := t 3 c4
          unfold pv23
          rw [if_neg c3, if_neg (by rw [y]; decide), if_neg (by rw [y]; decide), if_neg (by rw [y]; decide), if_pos y, e 109 (by decide)]
        · have y := t 4 c4
          unfold pv23
          rw [if_neg c3, if_neg (by rw [y]; decide), if_neg (by rw [y]; decide), if_neg (by rw [y]; decide), if_neg (by rw [y]; decide), if_pos y, e2]
      · rw [e 106 (by decide)] at c3
        exact h _ _ ⟨F, Or.inl ⟨j2, by rw [e0, j1], by unfold pv23; rw [if_pos c3]⟩⟩
    · exact ⟨fun _ => h _ _ ⟨F, Or.inr ⟨j2, by rw [e0, j1]⟩⟩, fun c => absurd (by rw [e0, j1]; decide) c⟩
  refine ⟨fun c => hj36 1 (Or.inr ⟨rfl, fun z => absurd c (Int32.not_lt.mpr z.1)⟩), fun c => ⟨fun z => ?_, fun z => ?_⟩⟩
  · have p0 : pw23 σ = 0 := by unfold pw23; rw [if_pos z]
    unfold w_played_27
    exact ⟨fun y => hj36 0 (Or.inl ⟨rfl, Int32.not_lt.mp c, by rw [p0]; exact y⟩), fun y => hj36 1 (Or.inr ⟨rfl, fun q => y (by have q2 := q.2; rw [p0] at q2; exact q2)⟩)⟩
  · have p0 : pw23 σ = σ.1 15 + σ.1 17 := by unfold pw23; rw [if_neg z]
    unfold w_played_27
    exact ⟨fun y => hj36 0 (Or.inl ⟨rfl, Int32.not_lt.mp c, by rw [p0]; exact y⟩), fun y => hj36 1 (Or.inr ⟨rfl, fun q => y (by have q2 := q.2; rw [p0] at q2; exact q2)⟩)⟩

end
section
set_option maxHeartbeats 1600000
/-! a play's end with its record -/
def RN23 (κ' : zS) (a : Nat) (τ0 : rS) (v : Int32) (w : Nat) : Prop := (v = 0 ∨ v = 1 ∨ v = 2 ∨ v = 3) ∧ zI κ' chPlayMade a = 1 ∧ (zJ κ' (zR κ' chRecord a) 0 = v.toInt64 ∧ zJ κ' (zR κ' chRecord a) 1 = (if v = 1 ∨ v = 2 then τ0.1 61 else 0).toInt64 ∧ zJ κ' (zR κ' chRecord a) 2 = (τ0.1 108).toInt64 ∧ zJ κ' (zR κ' chRecord a) 3 = (τ0.1 109).toInt64 ∧ zJ κ' (zR κ' chRecord a) 4 = τ0.2.1 110) ∧ ∀ i, i < w → zA κ' (zR κ' chLastShared a) i = τ0.2.2.1 57 i
def FZ23 (w : Nat) (e : E5) (dn dr : Int32) (gn : Int64) (σ : rS) (v : Int32) : Prop := FZ21 w e dn dr gn σ v ∧ (v = 0 ∨ v = 1 ∨ v = 2 ∨ v = 3)
theorem ie_23 {nv s w N k : Nat} {cu e : E5} {σ9 : rS} {a n dr v : Int32} {x gn : Int64} {tr : Nat → rS × Int32} (F : TRF21 a σ9 N tr v) (kN : k + 1 ≤ N) (M : MW21 nv w s cu σ9 e x n dr gn 4 (tr (k + 1))) (h3 : σ9.1 113 = 0) (hd : dr = σ9.1 104) : FZ23 w e n dr gn (tr N).1 v := by
  have Z := ie_21 F kN M h3 hd
  refine ⟨Z, Or.inl ?_⟩
  obtain ⟨σ1, d, d0, _, AW, _⟩ := M
  exact Z.1.symm.trans AW.2.1
theorem iz_23 {nv s w N k : Nat} {cu e : E5} {σ9 : rS} {a n dr v : Int32} {x gn : Int64} {tr : Nat → rS × Int32} (F : TRF21 a σ9 N tr v) (kN : k ≤ N) (A : AL21 nv w s cu σ9 e x n dr gn (tr k)) (h : ¬ e.1 711 = 0 ∨ n = a) : FZ23 w e n dr gn (tr N).1 v := by
  have Z := iz_21 F kN A h
  refine ⟨Z, ?_⟩
  obtain ⟨_, p2, p3, p4⟩ := A.1
  have ev : v = (tr k).2 := Z.1.symm.trans p2
  rw [ev]
  rcases p4 with ⟨c, _⟩ | ⟨c, _⟩ | ⟨c, _⟩ | c
  · exact Or.inl c
  · exact Or.inr (Or.inl c)
  · exact Or.inr (Or.inr (Or.inl c))
  · exact Or.inr (Or.inr (Or.inr c))
theorem rn_v23 {κ : zS} {m : Nat} {v x : Int32} (h1 : zI κ maOutcome m = v) (h2 : v = 1 → zI κ maNumber m = x) (h3 : v = 2 → zI κ maFailure m = x) : NV23 κ m = (if v = 1 ∨ v = 2 then x else 0).toInt64 := by
  unfold NV23
  rw [h1]
  by_cases c1 : v = 1
  · rw [if_pos c1, if_pos (Or.inl c1), h2 c1]
  · rw [if_neg c1]
    by_cases c2 : v = 2
    · rw [if_pos c2, if_pos (Or.inr c2), h3 c2]
    · rw [if_neg c2, if_neg (fun z => z.elim c1 c2)]
      rfl
theorem cv_23 {κ : zS} {c : Nat} : (cu7 κ c).1 coVars = zI κ coVars c ∧ (cu7 κ c).1 coCells = zI κ coCells c := ⟨show (if coVars ∈ ci6 then zI κ coVars c else 0) = _ from if_pos (by decide), show (if coCells ∈ ci6 then zI κ coCells c else 0) = _ from if_pos (by decide)⟩
theorem rn_w23 {nv s w c : Nat} {κ : zS} {σ : rS} (h : CR7 nv s w (cu7 κ c) σ) : (w : Int) = (zI κ coVars c).toInt + (zI κ coCells c).toInt ∧ w ≤ 34 ∧ σ.1 15 + σ.1 17 = Int32.ofNat w := by
  obtain ⟨T, X, Bk, N, Z, na, f, _, F, _, _, ⟨h1, h2, h3⟩, _⟩ := h
  have e1 : (cu7 κ c).1 509 = zI κ coVars c := cv_23.1
  have e2 : (cu7 κ c).1 511 = zI κ coCells c := cv_23.2
  obtain ⟨⟨⟨a1, a2⟩, _⟩, ⟨_, b1, _⟩, _, _, _, _, _, G, _⟩ := F
  have g17 := G.2.2.1
  have s15 : σ.1 15 = Int32.ofNat nv := b1
  have s17 : (cu7 κ c).1 511 = σ.1 17 := g17
  have vi : (zI κ coVars c).toInt = (nv : Int) := by rw [← e1, a1, ofn_i (by omega)]
  rw [e2] at h3 s17
  refine ⟨by rw [vi]; exact h3, h2, Int32.toInt_inj.mp ?_⟩
  have n15 : (σ.1 15).toInt = (nv : Int) := by rw [s15, ofn_i (by omega)]
  rw [← s17, add_i (by rw [n15]; omega) (by rw [n15]; omega), n15, ofn_i (by omega)]
  omega

end
section
set_option maxHeartbeats 1600000
/-! the reference: explore: neither visits nor worths behind it; where there is no state, the one ending's number is 0 -/
theorem lz_b16 {σ σ2 : rS} {r : Int32} (h0 : 0 ≤ σ.1 15) (h1 : σ.1 15 ≤ 10) (zb : g5_begin σ = (σ2, r)) (c : ¬ r = 0) : σ2.1 61 = 0 := by
  have l10 : (10 : Int32).toInt = 10 := rfl
  rw [lei, t0i] at h0
  rw [lei, l10] at h1
  have kn := cnk h0
  obtain ⟨σ1, e, e58, _⟩ := bgr_6 (nv := (σ.1 15).toNatClampNeg) (σ := σ) (by omega) (Int32.toInt_inj.mp (by rw [ofn_i (by omega)]; omega))
  rw [e, mv1_6 e58] at zb
  split at zb
  · rw [← (Prod.mk.inj zb).1, si1, if_pos rfl]
  · exact absurd (Prod.mk.inj zb).2.symm c
theorem lz_e16 {σ2 σ3 : rS} {v : Int32} (h71 : σ2.1 71 = 0) (h61 : σ2.1 61 = 0) (z : g5_endingNumber σ2 = (σ3, v)) : σ3.2.2.1 75 0 = 0 ∧ σ3.1 71 = 1 := by
  rcases enn_6 (n := 0) (σ := σ2) (by decide) h71 with ⟨g, g0, _⟩ | ⟨_, ⟨y, _⟩ | ⟨_, τ, e, E⟩⟩
  · exact absurd g0 (Nat.not_lt_zero g)
  · exact absurd y (by decide)
  · rw [z] at e
    rw [(Prod.mk.inj e).1]
    refine ⟨?_, E.1⟩
    rw [E.2.2.2.2 0, if_pos rfl]
    exact h61
theorem explore_n16 {C : rCx} (hC : cOK C)  {σ : rS} {a1 : Int32} {Q : Int32 → rS → Prop} (hp : tyAll σ ∧ (σ.1 14 ≠ 0 → ∃ T, progOK σ (σ.1 3) T) ∧ exP σ) (h : ∀ (v : Int32) (σ' : rS), ((frM xpF xpR σ σ' ∧ exP σ' ∧ tyAll σ' ∧ (σ'.1 14 ≠ 0 → ∃ T, progOK σ' (σ'.1 3) T) ∧ (((∀ k, k ≠ 0 → σ'.1 k = σ.1 k) ∧ σ'.2 = σ.2) ∨ (σ'.1 94 = 0 ∧ σ'.1 114 = 0))) ∧ ((σ'.1 0 = 0 → σ'.1 94 = 0 ∧ σ'.1 114 = 0) ∧ (σ'.1 0 = 0 → σ'.1 69 ≠ 0 → σ'.1 70 ≤ 0 → σ'.2.2.1 75 0 = 0 ∧ σ'.1 71 = 1))) → Q v σ') : cI C 11 m_explore [.ref (co C), .int a1] σ Q := by
  refine m_explore_run hC ?_
  unfold w_explore_0
  obtain ⟨hT, hP, hX⟩ := hp
  have hT' : ∃ T, σ.1 14 ≠ 0 → rI σ (σ.1 3) T := by
    by_cases z : σ.1 14 = 0
    · exact ⟨0, fun y => absurd z y⟩
    · obtain ⟨T, g⟩ := hP z
      exact ⟨T, fun _ => ⟨hT, g⟩⟩
  obtain ⟨T, hI⟩ := hT'
  have ft : ∀ υ, frM xpF xpR σ υ → tyAll υ ∧ (υ.1 14 ≠ 0 → ∃ T, progOK υ (υ.1 3) T) := fun υ f => ⟨ty_M hT f (by decide) (by decide), fun z => ⟨T, by rw [f.1 3 (by decide)]; exact (rI_M (hI (by rw [← f.1 14 (by decide)]; exact z)) f (by decide) (by decide)).2⟩⟩
  have hj136 : ∀ (l2 : Int32) (τ : rS), ((frM xpF xpR σ τ ∧ rI τ (σ.1 3) T ∧ exRR9 τ ∧ nb l2 ∧ τ.1 94 = 0 ∧ τ.1 114 = 0 ∧ τ.1 88 = σ.1 88 ∧ (l2 ≠ 0 → exV τ (σ.1 3) T (τ.1 70))) ∧ (l2 ≠ 0 → τ.1 70 ≤ 0 → τ.2.2.1 75 0 = 0 ∧ τ.1 71 = 1)) → w_explore_136 C Q  l2 τ := by
    rintro y136_2 τ136 ⟨j136, hE⟩
    unfold w_explore_136
    obtain ⟨g1, g2, g3, g4, g5, g6, g7, g8⟩ := j136
    refine ⟨?_, ?_⟩
    · clear h; exact g4  -- b1
    intro σ_1 hσ_1
    refine ⟨fun c2 => ?_, fun c2 => ?_⟩
    · skip
      unfold w_explore_164
      refine ⟨fun n l3 τ => n = (τ.1 70 - l3).toNatClampNeg ∧ ((frM xpF xpR σ τ ∧ 0 ≤ l3 ∧ l3 ≤ τ.1 70 ∧ τ.1 94 = 0 ∧ τ.1 114 = 0 ∧ exV τ (σ.1 3) T (τ.1 70) ∧ ∀ j : Int32, 0 ≤ j → j < l3 → rd τ 83 j = 0) ∧ (τ.1 70 ≤ 0 → τ.2.2.1 75 0 = 0 ∧ τ.1 71 = 1)), ⟨_, rfl, ?_⟩, ?_⟩
      · refine and_5 ?_ (fun o9 => fun z => by
rw [hσ_1, si1, if_neg (by decide)] at z
rw [hσ_1, si2, si1, if_neg (by decide)]
exact hE c2 z)  -- j2
        clear h; have e1 : ∀ k, k ≠ 69 → σ_1.1 k = τ136.1 k := fun k hk => by rw [hσ_1, si1, if_neg hk]
        have V := g8 c2
        rw [e1 70 (by decide)]
        exact ⟨frM_tr g1 (by rw [hσ_1]; exact frM_0 (by decide)), by decide, V.2.1.1.1, by rw [e1 94 (by decide)]; exact g5, by rw [e1 114 (by decide)]; exact g6, exV_o V e1 (fun k _ => by rw [hσ_1, si2]), fun j j0 j1 => absurd j1 (Int32.not_lt.mpr j0)⟩
      rintro n164 x164_3 σ164 ⟨hn164, i164, hE⟩
      obtain ⟨w1, w2, w3, w4, w5, w6, w7⟩ := i164
      refine ⟨fun c3 => ?_, fun c3 => ?_⟩
      · skip
        refine findRings_c hC  ?_ (fun σ_4 q5 => ?_)
        · clear h; exact exO_V w6  -- p3
        refine h _ _ ?_
        · refine and_5 ?_ (fun o9 => ⟨fun _ => ⟨by rw [q5.1.1 94 (by decide)]; exact w4, by rw [q5.1.1 114 (by decide)]; exact w5⟩, fun _ _ z => by
rw [q5.1.1 70 (by decide)] at z
rw [q5.1.2.2.1 75 (by decide), q5.1.1 71 (by decide)]
exact hE z⟩)  -- q4
          clear h; have e : x164_3 = σ164.1 70 := Int32.le_antisymm w3 c3
          rw [e] at w7
          have F : frM xpF xpR σ σ_4 := frM_tr w1 (frM_mono q5.1 (by decide) (by decide))
          have e70 : σ_4.1 70 = σ164.1 70 := q5.1.1 70 (by decide)
          have rr : ∀ k, k ≠ 87 → σ_4.2.2.1 k = σ164.2.2.1 k := fun k hk => q5.1.2.2.1 k (fun z => hk (by simpa using z))
          refine ⟨F, ⟨exO_o (exO_V w6) (fun k hk => q5.1.1 k (by rcases hk with rfl | rfl | rfl <;> decide)) (fun k hk => rr k (by omega)), fun j j0 j1 => ?_, fun j j0 j1 => ?_, q5.2.1, fun z a ha t => ?_⟩, (ft _ F).1, (ft _ F).2, Or.inr ⟨by rw [q5.1.1 94 (by decide)]; exact w4, by rw [q5.1.1 114 (by decide)]; exact w5⟩⟩
          · rw [e70] at j1
            obtain ⟨r1, r2, r3, -⟩ := w6.2.2.1 j j0 j1
            unfold rowR
            simp only [rd]
            rw [rr 73 (by decide)]
            exact ⟨r1, r2, fun c c0 c1 => ⟨(r3 c c0 c1).1, s150 w6.1 (r3 c c0 c1).2⟩⟩
          · rw [e70] at j1
            have sj := (w6.2.2.2.2.2.1 j j0 j1).1
            have p := w7 j j0 j1
            simp only [rd] at p sj ⊢
            rw [rr 83 (by decide), rr 76 (by decide), p]
            exact ⟨fun _ => rfl, fun _ => ⟨by decide, sub_pos sj.1 sj.2.1⟩⟩
          · rw [e70] at ha
            exact q5.2.2 z a ha (Tr_congr (fun a b e => (edN_o (fun k hk => rr k (by omega)) (by decide)).mp e) t)
      · skip
        have u := uk w2 c3 (Int32.le_trans w6.2.1.1.2.1 w6.2.1.1.2.2)
        refine ⟨ib_1000.mpr ?_, ?_⟩
        · clear h; exact ⟨w2, u.2.2.2.2.2⟩  -- b5
        intro σ_6 hσ_6
        intro x7 hx7
        refine lp_b5 (cn_lt2 hn164 ?_ ?_) (fun d9 => ⟨rfl, ?_⟩)
        · clear h; rw [hx7, hσ_6, ri1]; exact u.1  -- d6
        · clear h; rw [hx7, hσ_6, ri1]; exact u.2.1  -- d7
        · refine and_5 ?_ (fun o9 => fun z => by
rw [hσ_6, ri1] at z
rw [hσ_6, ri3 (by decide), ri1]
exact hE z)  -- i8
          clear h; have e6 : ∀ k, σ_6.1 k = σ164.1 k := fun k => by rw [hσ_6, ri1]
          rw [hx7, e6 70]
          refine ⟨frM_tr w1 (by rw [hσ_6]; exact frM_1 (by decide)), u.2.2.1, u.2.2.2.1, by rw [e6]; exact w4, by rw [e6]; exact w5, exV_o w6 (fun k _ => e6 k) (fun k hk => by rw [hσ_6, ri3 hk]), fun j j0 j1 => ?_⟩
          rw [rd, hσ_6, ri4]
          split
          · rfl
          · rename_i ne
            refine w7 j j0 ?_
            rcases l1k w2 u.2.2.2.2.2 j1 with z | z
            · exact absurd (by rw [z]) ne
            · exact z
    · skip
      intro σ_8 hσ_8
      intro σ_9 hσ_9
      intro σ_10 hσ_10
      refine h _ _ ?_
      · refine and_5 ?_ (fun o9 => ⟨fun _ => ⟨by rw [hσ_10, si1, if_neg (by decide), hσ_9, si1, if_neg (by decide), hσ_8, si1, if_neg (by decide), hσ_1, si1, if_neg (by decide)]; exact g5, by rw [hσ_10, si1, if_neg (by decide), hσ_9, si1, if_neg (by decide), hσ_8, si1, if_neg (by decide), hσ_1, si1, if_neg (by decide)]; exact g6⟩, fun _ z _ => absurd (by rw [hσ_10, si1, if_neg (by decide), hσ_9, si1, if_neg (by decide), hσ_8, si1, if_neg (by decide), hσ_1, si1, if_pos rfl]; exact c2) z⟩)  -- q9
        clear h; have F : frM xpF xpR σ σ_10 := frM_tr g1 (frM_tr (by rw [hσ_1]; exact frM_0 (by decide) : frM xpF xpR τ136 σ_1) (by rw [hσ_10, hσ_9, hσ_8]; exact frM_tr (frM_tr (frM_0 (by decide)) (frM_0 (by decide))) (frM_0 (by decide))))
        have k : ∀ k, k ≠ 69 → k ≠ 70 → k ≠ 71 → k ≠ 72 → σ_10.1 k = τ136.1 k := fun k z1 z2 z3 z4 => by rw [hσ_10, si1, if_neg z4, hσ_9, si1, if_neg z3, hσ_8, si1, if_neg z2, hσ_1, si1, if_neg z1]
        exact ⟨F, exP_0 (by rw [hσ_10, si1, if_neg (by decide), hσ_9, si1, if_neg (by decide), hσ_8, si1, if_pos rfl]) (by rw [hσ_10, si1, if_neg (by decide), hσ_9, si1, if_pos rfl]) (by rw [hσ_10, si1, if_pos rfl]) (by rw [k 88 (by decide) (by decide) (by decide) (by decide), g7]; exact hX.2.2.2.1), (ft _ F).1, (ft _ F).2, Or.inr ⟨by rw [k 94 (by decide) (by decide) (by decide) (by decide)]; exact g5, by rw [k 114 (by decide) (by decide) (by decide) (by decide)]; exact g6⟩⟩
  have hh112 : ∀ (l2 : Int32) (l3 : Int32) (τ : rS), ((frM xpF xpR σ τ ∧ rI τ (σ.1 3) T ∧ exRR9 τ ∧ 0 ≤ l3 ∧ l3 ≤ 1000 ∧ nb l2 ∧ τ.1 94 = 0 ∧ τ.1 114 = 0 ∧ τ.1 88 = σ.1 88 ∧ (l2 ≠ 0 → exV τ (σ.1 3) T l3)) ∧ (l2 ≠ 0 → τ.1 70 ≤ 0 → τ.2.2.1 75 0 = 0 ∧ τ.1 71 = 1)) → w_explore_112 C Q  l2 l3 τ := by
    intro z2 z3 τi hinit
    unfold w_explore_112
    refine ⟨fun n l2 l3 τ => n = (1001 - l3).toNatClampNeg ∧ ((frM xpF xpR σ τ ∧ rI τ (σ.1 3) T ∧ exRR9 τ ∧ 0 ≤ l3 ∧ l3 ≤ 1000 ∧ nb l2 ∧ τ.1 94 = 0 ∧ τ.1 114 = 0 ∧ τ.1 88 = σ.1 88 ∧ (l2 ≠ 0 → exV τ (σ.1 3) T l3)) ∧ (l2 ≠ 0 → τ.1 70 ≤ 0 → τ.2.2.1 75 0 = 0 ∧ τ.1 71 = 1)), ⟨_, rfl, hinit⟩, ?_⟩
    clear hinit
    rintro n112 x112_2 x112_3 σ112 ⟨hn112, i112, hE⟩
    obtain ⟨v1, v2, v3, v4, v5, v6, v7, v8, v9, v10⟩ := i112
    refine ⟨fun c11 => ?_, fun c11 => ?_⟩
    · skip
      refine hj136 _ _ ?_
      · refine and_5 ?_ (fun o9 => hE)  -- k10
        clear h; refine ⟨v1, v2, v3, v6, v7, v8, v9, fun z => ?_⟩
        have V := v10 z
        have e : x112_3 = σ112.1 70 := Int32.le_antisymm V.2.2.2.2.1.2 c11
        rw [e] at V
        exact V
    · skip
      refine ⟨fun c12 => ?_, fun c12 => ?_⟩
      · skip
        refine hj136 _ _ ?_
        · refine and_5 ?_ (fun o9 => hE)  -- k11
          clear h; exact ⟨v1, v2, v3, v6, v7, v8, v9, fun z => absurd c12 z⟩
      · skip
        refine expand_c hC (σ.1 3) T ?_ (fun r13 σ_14 q15 => ?_)
        · clear h; exact ⟨v10 c12, Int32.not_le.mp c11⟩  -- p12
        intro x16 hx16
        have u := u1001 v4 (Int32.lt_of_lt_of_le (Int32.not_le.mp c11) (Int32.le_trans v3.1.2.1 v3.1.2.2))
        refine lp_b5 (cn_lt2 hn112 ?_ ?_) (fun d9 => ⟨rfl, ?_⟩)
        · clear h; rw [hx16]; exact u.1  -- d13
        · clear h; rw [hx16]; exact u.2.1  -- d14
        · refine and_5 ?_ (fun o9 => fun _ z => absurd (Int32.lt_of_lt_of_le (Int32.lt_of_le_of_lt v4 (Int32.not_le.mp c11)) q15.2.1.2.2.1.1) (Int32.not_lt.mpr z))  -- i15
          clear h; rw [hx16]; exact ⟨frM_tr v1 (frM_G q15.1 (by decide) (by decide)), q15.2.1.1, q15.2.1.2.1, u.2.2.1, u.2.2.2, q15.2.2.1, by rw [q15.1.1 94 (by decide)]; exact v7, by rw [q15.1.1 114 (by decide)]; exact v8, by rw [q15.1.1 88 (by decide)]; exact v9, q15.2.2.2⟩
  have hj28 : ∀ (l1 : Int32) (s1 : Int32) (τ : rS), ((σ = τ ∧ l1 = a1 ∧ (s1 ≤ 0 → σ.1 14 ≠ 0 ∧ 1 ≤ a1 ∧ a1 ≤ 1000)) ∧ True) → w_explore_28 C Q  l1 s1 τ := by
    rintro y28_1 y28_s1 _ ⟨⟨rfl, j28⟩, hE⟩
    unfold w_explore_28
    intro σ_17 hσ_17
    refine ⟨fun c18 => ?_, fun c18 => ?_⟩
    · skip
      intro σ_19 hσ_19
      intro σ_20 hσ_20
      intro σ_21 hσ_21
      intro σ_22 hσ_22
      intro σ_23 hσ_23
      intro σ_24 hσ_24
      refine begin_g5 hC (σ.1 3) T ?_ (fun r25 σ_26 q27 => ?_)
      · clear h; have e0 : σ_17.1 0 = y28_s1 := by rw [hσ_17, si1, if_pos rfl]
        have w := j28.2 (by rw [← e0]; exact c18)
        have F : frM xpF xpR σ σ_24 := by rw [hσ_24, hσ_23, hσ_22, hσ_21, hσ_20, hσ_19, hσ_17]; exact frM_tr (frM_tr (frM_tr (frM_tr (frM_tr (frM_tr (frM_0 (by decide)) (frM_0 (by decide))) (frM_0 (by decide))) (frM_0 (by decide))) (frM_0 (by decide))) (frM_0 (by decide))) (frM_0 (by decide))
        exact rI_M (hI w.1) F (by decide) (by decide)
      obtain ⟨q27, z9⟩ := q27
      have zb := z9
      have e0 : σ_17.1 0 = y28_s1 := by rw [hσ_17, si1, if_pos rfl]
      have w := j28.2 (by rw [← e0]; exact c18)
      have F24 : frM xpF xpR σ σ_24 := by rw [hσ_24, hσ_23, hσ_22, hσ_21, hσ_20, hσ_19, hσ_17]; exact frM_tr (frM_tr (frM_tr (frM_tr (frM_tr (frM_tr (frM_0 (by decide)) (frM_0 (by decide))) (frM_0 (by decide))) (frM_0 (by decide))) (frM_0 (by decide))) (frM_0 (by decide))) (frM_0 (by decide))
      have I24 : rI σ_24 (σ.1 3) T := rI_M (hI w.1) F24 (by decide) (by decide)
      have v114 : σ_24.1 114 = 0 := by rw [hσ_24, si1, if_pos rfl]
      have v94 : σ_24.1 94 = 0 := by rw [hσ_24, si1, if_neg (by decide), hσ_23, si1, if_pos rfl]
      have v72 : σ_24.1 72 = 0 := by rw [hσ_24, si1, if_neg (by decide), hσ_23, si1, if_neg (by decide), hσ_22, si1, if_pos rfl]
      have v71 : σ_24.1 71 = 0 := by rw [hσ_24, si1, if_neg (by decide), hσ_23, si1, if_neg (by decide), hσ_22, si1, if_neg (by decide), hσ_21, si1, if_pos rfl]
      have v70 : σ_24.1 70 = 0 := by rw [hσ_24, si1, if_neg (by decide), hσ_23, si1, if_neg (by decide), hσ_22, si1, if_neg (by decide), hσ_21, si1, if_neg (by decide), hσ_20, si1, if_pos rfl]
      have v85 : σ_24.1 85 = a1 := by rw [hσ_24, si1, if_neg (by decide), hσ_23, si1, if_neg (by decide), hσ_22, si1, if_neg (by decide), hσ_21, si1, if_neg (by decide), hσ_20, si1, if_neg (by decide), hσ_19, si1, if_pos rfl]; exact j28.1
      have v88 : σ_24.1 88 = σ.1 88 := by rw [hσ_24, si1, if_neg (by decide), hσ_23, si1, if_neg (by decide), hσ_22, si1, if_neg (by decide), hσ_21, si1, if_neg (by decide), hσ_20, si1, if_neg (by decide), hσ_19, si1, if_neg (by decide), hσ_17, si1, if_neg (by decide)]
      have F26 : frM xpF xpR σ σ_26 := frM_tr F24 (frM_G q27.1 (by decide) (by decide))
      have I26 : rI σ_26 (σ.1 3) T := rI_fr I24 (frG_mono q27.1 (by decide) (by decide))
      have k26 : ∀ k, k ≠ 58 → k ≠ 61 → σ_26.1 k = σ_24.1 k := fun k z1 z2 => q27.1.1 k (by simp [z1, z2])
      refine ⟨fun c28 => ?_, fun c28 => ?_⟩
      · skip
        refine endingNumber_g5 hC  ?_ (fun r29 σ_30 q31 => ?_)
        · clear h; rw [k26 71 (by decide) (by decide), v71]; exact ⟨by decide, by decide⟩  -- p17
        obtain ⟨q31, z9⟩ := q31
        have k30 : ∀ k, k ≠ 58 → k ≠ 61 → k ≠ 71 → σ_30.1 k = σ_24.1 k := fun k z1 z2 z3 => (q31.1.1 k (by simp [z3])).trans (k26 k z1 z2)
        have I30 : rI σ_30 (σ.1 3) T := rI_ex I26 (frG_mono q31.1 (by decide) (by decide))
        have R30 : exRR9 σ_30 := by
          unfold exRR9
          rw [k30 70 (by decide) (by decide) (by decide), k30 72 (by decide) (by decide) (by decide), k30 85 (by decide) (by decide) (by decide), v70, v72, v85]
          exact ⟨⟨by decide, Int32.le_trans (by decide) w.2.1, w.2.2⟩, ⟨q31.2.1.1, q31.2.1.2.2⟩, by decide, by decide⟩
        have fin : ∀ l2 : Int32, nb l2 → (l2 ≠ 0 → exV σ_30 (σ.1 3) T 0) → frM xpF xpR σ σ_30 ∧ rI σ_30 (σ.1 3) T ∧ exRR9 σ_30 ∧ (0 : Int32) ≤ 0 ∧ (0 : Int32) ≤ 1000 ∧ nb l2 ∧ σ_30.1 94 = 0 ∧ σ_30.1 114 = 0 ∧ σ_30.1 88 = σ.1 88 ∧ (l2 ≠ 0 → exV σ_30 (σ.1 3) T 0) := fun l2 h1 h2 => ⟨frM_tr F26 (frM_G q31.1 (by decide) (by decide)), I30, R30, by decide, by decide, h1, by rw [k30 94 (by decide) (by decide) (by decide)]; exact v94, by rw [k30 114 (by decide) (by decide) (by decide)]; exact v114, by rw [k30 88 (by decide) (by decide) (by decide)]; exact v88, h2⟩
        refine ⟨fun c32 => ?_, fun c32 => ?_⟩
        · skip
          refine hh112 _ _ _ ?_
          · refine and_5 ?_ (fun o9 => fun z => absurd rfl z)  -- j18
            clear h; exact fin _ nb_0 (fun z => absurd rfl z)
        · skip
          refine hh112 _ _ _ ?_
          · refine and_5 ?_ (fun o9 => fun _ _ => lz_e16 (by rw [k26 71 (by decide) (by decide), v71]) (lz_b16 I24.1.1.1 I24.1.1.2.1 zb c28) z9)  -- j19
            clear h; refine fin _ nb_1 (fun _ => exV_0 I30 R30 (by rw [k30 72 (by decide) (by decide) (by decide)]; exact v72) (fun j j0 j1 => ?_))
            rw [k30 70 (by decide) (by decide) (by decide), v70] at j1
            exact absurd j1 (Int32.not_lt.mpr j0)
      · skip
        refine stateNumber_c hC  ?_ (fun r33 σ_34 q35 => ?_)
        · clear h; refine ⟨?_, ?_, ?_, ?_⟩
          · rcases q27.2 with z | z
            · exact z.2
            · exact absurd (c28.symm.trans z) (by decide)
          · rw [k26 70 (by decide) (by decide), v70]; decide
          · rw [k26 70 (by decide) (by decide), k26 85 (by decide) (by decide), v70, v85]; exact Int32.le_trans (by decide) w.2.1
          · rw [k26 85 (by decide) (by decide), v85]; exact w.2.2
        have k34 : ∀ k, k ≠ 58 → k ≠ 61 → k ≠ 70 → σ_34.1 k = σ_24.1 k := fun k z1 z2 z3 => (q35.1.1 k (by simp [z3])).trans (k26 k z1 z2)
        have I34 : rI σ_34 (σ.1 3) T := rI_ex I26 (frG_mono q35.1 (by decide) (by decide))
        have R34 : exRR9 σ_34 := by
          have q := q35.2.1
          rw [k26 85 (by decide) (by decide), v85] at q
          unfold exRR9
          rw [k34 71 (by decide) (by decide) (by decide), k34 72 (by decide) (by decide) (by decide), k34 85 (by decide) (by decide) (by decide), v71, v72, v85]
          exact ⟨⟨q.1, q.2.2, w.2.2⟩, by decide, by decide⟩
        have fin : ∀ l2 : Int32, nb l2 → frM xpF xpR σ σ_34 ∧ rI σ_34 (σ.1 3) T ∧ exRR9 σ_34 ∧ (0 : Int32) ≤ 0 ∧ (0 : Int32) ≤ 1000 ∧ nb l2 ∧ σ_34.1 94 = 0 ∧ σ_34.1 114 = 0 ∧ σ_34.1 88 = σ.1 88 ∧ (l2 ≠ 0 → exV σ_34 (σ.1 3) T 0) := fun l2 h1 => ⟨frM_tr F26 (frM_G q35.1 (by decide) (by decide)), I34, R34, by decide, by decide, h1, by rw [k34 94 (by decide) (by decide) (by decide)]; exact v94, by rw [k34 114 (by decide) (by decide) (by decide)]; exact v114, by rw [k34 88 (by decide) (by decide) (by decide)]; exact v88, fun _ => exV_0 I34 R34 (by rw [k34 72 (by decide) (by decide) (by decide)]; exact v72) (fun j j0 j1 => q35.2.2.2.2 j j0 (by rw [k26 70 (by decide) (by decide), v70]; exact j0) j1)⟩
        refine ⟨fun c36 => ?_, fun c36 => ?_⟩
        · skip
          refine hh112 _ _ _ ?_
          · refine and_5 ?_ (fun o9 => fun z => absurd rfl z)  -- j21
            clear h; exact fin _ nb_0
        · skip
          refine hh112 _ _ _ ?_
          · refine and_5 ?_ (fun o9 => fun _ z => by
rcases q35.2.2.1 with y | y
· exact absurd y c36
· exact absurd (Int32.lt_of_le_of_lt y.1 y.2) (Int32.not_lt.mpr z))  -- j22
            clear h; exact fin _ nb_1
    · skip
      refine h _ _ ?_
      · refine and_5 ?_ (fun o9 => ⟨fun z => absurd (show σ_17.1 0 ≤ 0 by rw [z]; decide) c18, fun z => absurd (show σ_17.1 0 ≤ 0 by rw [z]; decide) c18⟩)  -- q23
        clear h; have F : frM xpF xpR σ σ_17 := by rw [hσ_17]; exact frM_0 (by decide)
        exact ⟨F, exP_o hX (fun k hk => by rw [hσ_17, si1, if_neg (by omega)]) (fun k _ => by rw [hσ_17, si2]), (ft _ F).1, (ft _ F).2, Or.inl ⟨fun k hk => by rw [hσ_17, si1, if_neg hk], by rw [hσ_17, si2]⟩⟩
  refine ⟨fun c37 => ?_, fun c37 => ?_⟩
  · skip
    refine within_c hC  (fun r38 q40 => ?_)
    refine ⟨fun c41 => ?_, fun c41 => ?_⟩
    · skip
      refine hj28 _ _ _ ?_
      · refine and_5 ?_ (fun o9 => trivial)  -- k24
        clear h; exact ⟨rfl, rfl, fun _ => ⟨c37, q40.2.mp c41⟩⟩
    · skip
      refine hj28 _ _ _ ?_
      · refine and_5 ?_ (fun o9 => trivial)  -- k25
        clear h; exact ⟨rfl, rfl, fun z => absurd z (by decide)⟩
  · skip
    refine hj28 _ _ _ ?_
    · refine and_5 ?_ (fun o9 => trivial)  -- k26
      clear h; exact ⟨rfl, rfl, fun z => absurd z (by decide)⟩

end
section
set_option maxHeartbeats 1600000
/-! the reference: explore, all that is said of it together -/
theorem UQ_r16 {σ τ : rS} (h : UQ15 σ) (e : τ.1 70 = σ.1 70) (r76 : τ.2.2.1 76 = σ.2.2.1 76) (r77 : τ.2.2.1 77 = σ.2.2.1 77) (r78 : τ.2.2.1 78 = σ.2.2.1 78) (r81 : τ.2.2.1 81 = σ.2.2.1 81) : UQ15 τ := by
  unfold UQ15
  rw [e, r76, r77, r78, r81]
  exact h
theorem UQ_k16 {σ τ : rS} (h : UQ15 σ) (k : kT7 σ τ) : UQ15 τ := UQ_r16 h (k.1 70 (by decide)) (k.2 76 (by decide)) (k.2 77 (by decide)) (k.2 78 (by decide)) (k.2 81 (by decide))
/-- nexts lead to different states; the one ending where there is no state has number 0 -/
def UZ16 (σ : rS) : Prop := UQ15 σ ∧ (σ.1 70 ≤ 0 → σ.2.2.1 75 0 = 0 ∧ σ.1 71 = 1)
theorem UZ_k16 {σ τ : rS} (h : UZ16 σ) (k : kT7 σ τ) : UZ16 τ := ⟨UQ_k16 h.1 k, by rw [k.1 70 (by decide), k.1 71 (by decide), k.2 75 (by decide)]; exact h.2⟩
def XS16 (a1 : Int32) (σ σ' : rS) (v : Int32) : Prop := XS21 a1 σ σ' v ∧ (σ'.1 0 = 0 → σ'.1 69 ≠ 0 → UZ16 σ') ∧ (σ'.1 0 = 0 → σ'.1 94 = 0 ∧ σ'.1 114 = 0)
def EF16 (σ σ' : rS) : Prop := frM xpF xpR σ σ' ∧ exP σ' ∧ tyAll σ' ∧ (σ'.1 14 ≠ 0 → ∃ T, progOK σ' (σ'.1 3) T) ∧ (((∀ k, k ≠ 0 → σ'.1 k = σ.1 k) ∧ σ'.2 = σ.2) ∨ (σ'.1 94 = 0 ∧ σ'.1 114 = 0))
theorem explore_y16 {C : rCx} (hC : cOK C) {σ : rS} {a1 : Int32} (hp : tyAll σ ∧ (σ.1 14 ≠ 0 → ∃ T, progOK σ (σ.1 3) T) ∧ exP σ) : cI C 11 m_explore [.ref (co C), .int a1] σ (fun v σ' => (EF16 σ σ' ∧ XS21 a1 σ σ' v) ∧ (σ'.1 0 = 0 → σ'.1 69 ≠ 0 → UQ15 σ')) := by
  obtain ⟨v, σ', r, q, σ2, g, hf, hr⟩ := cI_d8 hC (explore_g21 (a1 := a1) (Q := fun v σ' => EF16 σ σ' ∧ XS21 a1 σ σ' v) hC hp (fun v σ' q => q)) (explore_x15 (a1 := a1) (Q := fun _ σ' => σ'.1 0 = 0 → σ'.1 69 ≠ 0 → UQ15 σ') hC hp (fun v σ' q => q.2.2))
  refine ⟨v, σ', r, q, fun z0 z1 => ?_⟩
  rw [hf 0 (by decide) (by decide +kernel) (by decide) (by decide)] at z0
  rw [hf 69 (by decide) (by decide +kernel) (by decide) (by decide)] at z1
  exact UQ_r16 (g z0 z1) (hf 70 (by decide) (by decide +kernel) (by decide) (by decide)) (hr 76 0 1001 (by decide +kernel) (by decide)) (hr 77 0 20000 (by decide +kernel) (by decide)) (hr 78 0 20000 (by decide +kernel) (by decide)) (hr 81 3 1000 (by decide +kernel) (by decide))
theorem explore_g16 {C : rCx} (hC : cOK C) {σ : rS} {a1 : Int32} {Q : Int32 → rS → Prop} (hp : tyAll σ ∧ (σ.1 14 ≠ 0 → ∃ T, progOK σ (σ.1 3) T) ∧ exP σ) (h : ∀ (v : Int32) (σ' : rS), ((frM xpF xpR σ σ' ∧ exP σ' ∧ tyAll σ' ∧ (σ'.1 14 ≠ 0 → ∃ T, progOK σ' (σ'.1 3) T) ∧ (((∀ k, k ≠ 0 → σ'.1 k = σ.1 k) ∧ σ'.2 = σ.2) ∨ (σ'.1 94 = 0 ∧ σ'.1 114 = 0))) ∧ XS16 a1 σ σ' v) → Q v σ') : cI C 11 m_explore [.ref (co C), .int a1] σ Q := by
  obtain ⟨v, σ', r, q, σ2, g, hf, hr⟩ := cI_d8 hC (explore_y16 (a1 := a1) hC hp) (explore_n16 (a1 := a1) (Q := fun _ σ' => (σ'.1 0 = 0 → σ'.1 94 = 0 ∧ σ'.1 114 = 0) ∧ (σ'.1 0 = 0 → σ'.1 69 ≠ 0 → σ'.1 70 ≤ 0 → σ'.2.2.1 75 0 = 0 ∧ σ'.1 71 = 1)) hC hp (fun v σ' q => q.2))
  refine ⟨v, σ', r, h v σ' ⟨q.1.1, q.1.2, fun z0 z1 => ⟨q.2 z0 z1, fun z2 => ?_⟩, fun z0 => ?_⟩⟩
  · rw [hf 0 (by decide) (by decide +kernel) (by decide) (by decide)] at z0
    rw [hf 69 (by decide) (by decide +kernel) (by decide) (by decide)] at z1
    rw [hf 70 (by decide) (by decide +kernel) (by decide) (by decide)] at z2
    rw [hr 75 0 35000 (by decide +kernel) (by decide), hf 71 (by decide) (by decide +kernel) (by decide) (by decide)]
    exact g.2 z0 z1 z2
  · rw [hf 0 (by decide) (by decide +kernel) (by decide) (by decide)] at z0
    rw [hf 94 (by decide) (by decide +kernel) (by decide) (by decide), hf 114 (by decide) (by decide +kernel) (by decide) (by decide)]
    exact g.1 z0

end
section
set_option maxHeartbeats 1600000
/-! the reference: sums of visits, by their values -/
noncomputable def vt16 (σ : rS) (k : Nat) : Rat := if vsV σ k = 0 then 0 else fV σ k
def gr16 (σ : rS) (by9 : Int32) (k : Nat) : Int := if by9 = 0 then 1 else (σ.2.2.1 82 k).toInt
noncomputable def vsR16 (σ : rS) (by9 : Int32) (n : Nat) : Rat := smQ (fun k => vt16 σ k * ((gr16 σ by9 k : Int) : Rat)) n
theorem vsR_s16 {σ : rS} {b : Int32} {n : Nat} : vsR16 σ b (n + 1) = vsR16 σ b n + vt16 σ n * ((gr16 σ b n : Int) : Rat) := rfl
theorem mk_116 {x : Int} : mkRat x 1 = (x : Rat) := by
  have e : ((1 : Nat) : Rat)⁻¹ = 1 := by
    have m := Rat.mul_inv_cancel (1 : Rat) (by decide)
    rw [Rat.one_mul] at m
    exact m
  rw [mk_d, e, Rat.mul_one]
theorem sg_116 {f : Rat} {l : Int} (h : 0 ≤ l) : sgq 1 (f * mkRat (l.natAbs : Int) 1) = f * (l : Rat) := by
  rw [sgq_1, mk_116, Int.natAbs_of_nonneg h]
theorem sg_m16 {f : Rat} {l : Int} (h : l ≤ 0) : sgq (-1) (f * mkRat (l.natAbs : Int) 1) = f * (l : Rat) := by
  have e : (l.natAbs : Int) = -l := by omega
  rw [sgq_m, mk_116, e, Rat.intCast_neg]
  grind
theorem vs_e16 {l : List Nat} {σ τ : rS} (F : frS l σ τ) (k : Nat) : vsV τ k = vsV σ k := by
  unfold vsV
  rw [F.2.2.1 95 (by decide) (by decide), F.2.2.1 102 (by decide) (by decide)]
theorem sumVisits_g5 {C : rCx} (hC : cOK C) (s : Nat) {σ : rS} {a1 : Int32} {Q : rS → Prop} (hp : pOK σ ∧ s = (σ.1 70).toNatClampNeg ∧ (∀ k, k < s → vOK σ k)) (h : ∀ (σ' : rS), ((frS [0, 1, 2, 3, 4, 5, 6, 7, 8, 9, 10] σ σ' ∧ ∃ S, siS σ σ' s 1000 S) ∧ (hS σ' (vsR16 σ a1 s))) → Q σ') : cV C 5 m_sumVisits [.ref (co C), .int a1] σ Q := by
  refine m_sumVisits_run hC ?_
  unfold w_sumVisits_0
  obtain ⟨hO, hs, hv⟩ := hp
  have n1000 := hO.1.1.2
  refine clearSum_c hC  (fun σ_1 q2 => ?_)
  unfold w_sumVisits_6
  refine ⟨fun n l1 l2 τ => n = (σ.1 70 - l2).toNatClampNeg ∧ ((l1 = a1 ∧ frS [0, 1, 2, 3, 4, 5, 6, 7, 8, 9, 10] σ τ ∧ 0 ≤ l2 ∧ l2 ≤ σ.1 70 ∧ ∃ S, siS σ τ s l2.toNatClampNeg S) ∧ hS τ (vsR16 σ a1 l2.toNatClampNeg)), ⟨_, rfl, ?_⟩, ?_⟩
  · refine and_5 ?_ (fun o9 => q2.2)  -- j1
    clear h; exact ⟨rfl, frS_mono q2.1 (sub_of rfl), by decide, hO.1.1.1, 0, siS_0 q2.2⟩
  rintro n6 x6_1 x6_2 σ6 ⟨hn6, i6, hE⟩
  have hj62 : ∀ (l1 : Int32) (l2 : Int32) (l3 : Int64) (s1 : Int64) (τ : rS), ((l1 = a1 ∧ l2 = x6_2 ∧ ¬ σ.1 70 ≤ x6_2 ∧ l3.toInt.natAbs ≤ 2147483648 ∧ s1.toInt = (l3.toInt.natAbs : Int) ∧ frN [6, 7] σ6 τ ∧ numO τ 6 ∧ numO τ 7 ∧ fQ τ 6 7 = fV σ x6_2.toNatClampNeg ∧ 0 < nV τ 7 ∧ nL τ 6 ≤ 16 ∧ nL τ 7 ≤ 16) ∧ l3.toInt = gr16 σ a1 x6_2.toNatClampNeg ∧ vsV σ x6_2.toNatClampNeg ≠ 0 ∧ hS τ (vsR16 σ a1 x6_2.toNatClampNeg)) → w_sumVisits_62 C Q (fun l1' l2' τ => ∃ k < n6, (fun n l1 l2 τ => n = (σ.1 70 - l2).toNatClampNeg ∧ ((l1 = a1 ∧ frS [0, 1, 2, 3, 4, 5, 6, 7, 8, 9, 10] σ τ ∧ 0 ≤ l2 ∧ l2 ≤ σ.1 70 ∧ ∃ S, siS σ τ s l2.toNatClampNeg S) ∧ hS τ (vsR16 σ a1 l2.toNatClampNeg))) k l1' l2' τ) l1 l2 l3 s1 τ := by
    rintro y62_1 y62_2 y62_3 y62_s1 τ62 ⟨j62, hE⟩
    unfold w_sumVisits_62
    obtain ⟨e1, F, a0, a1', S, J⟩ := i6
    obtain ⟨y1, y2, y3, y4, y5, Y, o6, o7, e67, p7, l6, l7⟩ := j62
    have u := uk a0 y3 n1000
    have as := cn_succ a0 (Int32.lt_trans u.2.2.2.2.2 (by decide))
    have ks : x6_2.toNatClampNeg < s := by rw [hs]; exact cn_lt a0 u.2.2.2.2.1
    have s1000 : s ≤ 1000 := by rw [hs]; exact cn_le (y := 1000) rfl n1000
    have vq := vq_b (hv _ ks) (b := (y62_3.toInt.natAbs : Int)) (by omega) (by omega)
    have gb := gV_b hO hs hv ks
    refine scale_c hC  ?_ (fun σ_3 q4 => ?_)
    · clear h; exact ⟨o6, o7, p7, l64_0 y5 (by omega), by decide, by omega, by omega⟩  -- p2
    rw [e67, y5, show (1 : Int64).toInt.toNat = 1 from rfl] at q4
    have J3 := siS_N q4.1 (by decide) (by decide) (siS_N Y (by decide) (by decide) J)
    have F3 : frS [0, 1, 2, 3, 4, 5, 6, 7, 8, 9, 10] σ σ_3 := frS_tr F (frS_tr (frS_mono (frS_of Y) (sub_of rfl)) (frS_mono (frS_of q4.1) (sub_of rfl)))
    refine ⟨fun c5 => ?_, fun c5 => ?_⟩
    · skip
      refine add_c hC  ?_ (fun σ_6 q7 => ?_)
      · clear h; exact (siS_add (x := 1) (Or.inl rfl) hO hs hv (by omega) J3 q4.2 vq.1 vq.2 (prS_dvd ks) gb.1 gb.2).1  -- p3
      intro x8 hx8
      refine lp_b5 (cn_lt2 hn6 ?_ ?_) (fun d9 => ⟨rfl, ?_⟩)
      · clear h; rw [hx8, y2]; exact u.1  -- d4
      · clear h; rw [hx8, y2]; exact u.2.1  -- d5
      · refine and_5 ?_ (fun o9 => ?_)  -- i6
        · clear h; rw [hx8, y2, as]
          exact ⟨y1, frS_tr F3 (frS_mono q7.1 (sub_of rfl)), u.2.2.1, u.2.2.2.1, _, (siS_add (x := 1) (Or.inl rfl) hO hs hv (by omega) J3 q4.2 vq.1 vq.2 (prS_dvd ks) gb.1 gb.2).2 _ q7.2⟩
        · clear o9
          have S3 := hS_N q4.1 (by decide) (by decide) hE.2.2
          have y := q7.2
          rw [hS_addx S3 q4.2, sg_116 (l64_pos (lg_ge.mp c5)).2, hE.1] at y
          rw [hx8, y2, as, vsR_s16, show vt16 σ x6_2.toNatClampNeg = fV σ x6_2.toNatClampNeg from if_neg hE.2.1]
          exact y
    · skip
      refine add_c hC  ?_ (fun σ_9 q10 => ?_)
      · clear h; exact (siS_add (x := -1) (Or.inr rfl) hO hs hv (by omega) J3 q4.2 vq.1 vq.2 (prS_dvd ks) gb.1 gb.2).1  -- p7
      intro x11 hx11
      refine lp_b5 (cn_lt2 hn6 ?_ ?_) (fun d9 => ⟨rfl, ?_⟩)
      · clear h; rw [hx11, y2]; exact u.1  -- d8
      · clear h; rw [hx11, y2]; exact u.2.1  -- d9
      · refine and_5 ?_ (fun o9 => ?_)  -- i10
        · clear h; rw [hx11, y2, as]
          exact ⟨y1, frS_tr F3 (frS_mono q10.1 (sub_of rfl)), u.2.2.1, u.2.2.2.1, _, (siS_add (x := -1) (Or.inr rfl) hO hs hv (by omega) J3 q4.2 vq.1 vq.2 (prS_dvd ks) gb.1 gb.2).2 _ q10.2⟩
        · clear o9
          have S3 := hS_N q4.1 (by decide) (by decide) hE.2.2
          have y := q10.2
          rw [hS_addx S3 q4.2, sg_m16 (l64_neg (fun z => c5 (lg_ge.mpr z)) y4).2, hE.1] at y
          rw [hx11, y2, as, vsR_s16, show vt16 σ x6_2.toNatClampNeg = fV σ x6_2.toNatClampNeg from if_neg hE.2.1]
          exact y
  have hj29 : ∀ (l1 : Int32) (l2 : Int32) (s0 : Int64) (τ : rS), ((l1 = a1 ∧ l2 = x6_2 ∧ ¬ σ.1 70 ≤ x6_2 ∧ s0.toInt.natAbs ≤ 2147483648 ∧ τ = σ6) ∧ s0.toInt = gr16 σ a1 x6_2.toNatClampNeg ∧ hS τ (vsR16 σ a1 x6_2.toNatClampNeg)) → w_sumVisits_29 C Q (fun l1' l2' τ => ∃ k < n6, (fun n l1 l2 τ => n = (σ.1 70 - l2).toNatClampNeg ∧ ((l1 = a1 ∧ frS [0, 1, 2, 3, 4, 5, 6, 7, 8, 9, 10] σ τ ∧ 0 ≤ l2 ∧ l2 ≤ σ.1 70 ∧ ∃ S, siS σ τ s l2.toNatClampNeg S) ∧ hS τ (vsR16 σ a1 l2.toNatClampNeg))) k l1' l2' τ) l1 l2 s0 τ := by
    rintro y29_1 y29_2 y29_s0 τ29 ⟨j29, hE⟩
    unfold w_sumVisits_29
    obtain ⟨e1, F, a0, a1', S, J⟩ := i6
    obtain ⟨y1, y2, y3, y4, y5⟩ := j29
    have u := uk a0 y3 n1000
    have as := cn_succ a0 (Int32.lt_trans u.2.2.2.2.2 (by decide))
    have ks : x6_2.toNatClampNeg < s := by rw [hs]; exact cn_lt a0 u.2.2.2.2.1
    rw [y5, y2]
    refine isVisited_c hC  ?_ (fun r12 q14 => ?_)
    · clear h; exact ⟨a0, u.2.2.2.2.2⟩  -- p11
    refine ⟨fun c15 => ?_, fun c15 => ?_⟩
    · skip
      intro x16 hx16
      refine lp_b5 (cn_lt2 hn6 ?_ ?_) (fun d9 => ⟨rfl, ?_⟩)
      · clear h; rw [hx16]; exact u.1  -- d12
      · clear h; rw [hx16]; exact u.2.1  -- d13
      · refine and_5 ?_ (fun o9 => ?_)  -- i14
        · clear h; rw [hx16, as]; exact ⟨y1, F, u.2.2.1, u.2.2.2.1, S, siS_mono J (by omega)⟩
        · clear o9
          rw [y5] at hE
          have v0 : vsV σ x6_2.toNatClampNeg = 0 := by rw [← vs_e16 F, ← q14]; exact c15
          rw [hx16, as, vsR_s16, show vt16 σ x6_2.toNatClampNeg = 0 from if_pos v0, Rat.zero_mul, Rat.add_zero]
          exact hE.2
    · skip
      refine ⟨fun c17 => ?_, fun c17 => ?_⟩
      · skip
        intro x18 hx18
        refine lp_b5 (cn_lt2 hn6 ?_ ?_) (fun d9 => ⟨rfl, ?_⟩)
        · clear h; rw [hx18]; exact u.1  -- d15
        · clear h; rw [hx18]; exact u.2.1  -- d16
        · refine and_5 ?_ (fun o9 => ?_)  -- i17
          · clear h; rw [hx18, as]; exact ⟨y1, F, u.2.2.1, u.2.2.2.1, S, siS_mono J (by omega)⟩
          · clear o9
            rw [y5] at hE
            have g0 : gr16 σ a1 x6_2.toNatClampNeg = 0 := by rw [← hE.1, (lg_cmp_eq _ _).mp c17]; rfl
            have i0 : ((0 : Int) : Rat) = 0 := rfl
            rw [hx18, as, vsR_s16, g0, i0, Rat.mul_zero, Rat.add_zero]
            exact hE.2
      · skip
        refine loadVisits_c hC  ?_ (fun σ_19 q20 => ?_)
        · clear h; have V := vOK_f (F.2.2.1 102 (by decide) (by decide)) (hv _ ks)
          exact ⟨a0, u.2.2.2.2.2, V.1, V.2.1⟩
        have V := hv _ ks
        rw [(sl_f (m := 16) (F.2.2.1 102 (by decide) (by decide))).1, (sl_f (m := 16) (F.2.2.1 102 (by decide) (by decide))).1] at q20
        have e67 : fQ σ_19 6 7 = fV σ x6_2.toNatClampNeg := by unfold fQ fV; rw [q20.2.2.2.1, q20.2.2.2.2.1]
        have p7 : 0 < nV σ_19 7 := by rw [q20.2.2.2.2.1]; exact V.2.2
        refine ⟨fun c21 => ?_, fun c21 => ?_⟩
        · skip
          refine hj62 _ _ _ _ _ ?_
          · refine and_5 ?_ (fun o9 => ?_)  -- k19
            · clear h; exact ⟨y1, rfl, y3, y4, (l64_pos (lg_ge.mp c21)).1, q20.1, q20.2.1, q20.2.2.1, e67, p7, q20.2.2.2.2.2.1, q20.2.2.2.2.2.2⟩
            · clear o9
              rw [y5] at hE
              exact ⟨hE.1, fun z => c15 (by rw [q14, vs_e16 F]; exact z), hS_N q20.1 (by decide) (by decide) hE.2⟩
        · skip
          refine hj62 _ _ _ _ _ ?_
          · refine and_5 ?_ (fun o9 => ?_)  -- k20
            · clear h; exact ⟨y1, rfl, y3, y4, (l64_neg (fun z => c21 (lg_ge.mpr z)) y4).1, q20.1, q20.2.1, q20.2.2.1, e67, p7, q20.2.2.2.2.2.1, q20.2.2.2.2.2.2⟩
            · clear o9
              rw [y5] at hE
              exact ⟨hE.1, fun z => c15 (by rw [q14, vs_e16 F]; exact z), hS_N q20.1 (by decide) (by decide) hE.2⟩
  obtain ⟨e1, F, a0, a1', S, J⟩ := i6
  have e70 := F.1 70 (by decide)
  rw [e70]
  refine ⟨fun c22 => ?_, fun c22 => ?_⟩
  · skip
    refine h _ ?_
    · refine and_5 ?_ (fun o9 => ?_)  -- q21
      · clear h; have s1000 : s ≤ 1000 := by rw [hs]; exact cn_le (y := 1000) rfl n1000
        have l := cn_l a1' a0
        exact ⟨F, S, siS_mono J (by omega)⟩
      · clear o9
        have e : x6_2 = σ.1 70 := Int32.le_antisymm a1' c22
        rw [e, ← hs] at hE
        exact hE
  · skip
    refine ⟨fun c23 => ?_, fun c23 => ?_⟩
    · skip
      refine hj29 _ _ _ _ ?_
      · refine and_5 ?_ (fun o9 => ?_)  -- k22
        · clear h; exact ⟨e1, rfl, c22, one_64, rfl⟩
        · clear o9
          refine ⟨?_, hE⟩
          unfold gr16
          rw [if_pos (e1.symm.trans c23)]
          rfl
    · skip
      refine ⟨ib_1000.mpr ?_, ?_⟩
      · clear h; have u := uk a0 c22 n1000
        exact ⟨a0, u.2.2.2.2.2⟩
      refine hj29 _ _ _ _ ?_
      · refine and_5 ?_ (fun o9 => ?_)  -- k24
        · clear h; exact ⟨e1, rfl, c22, i32_abs, rfl⟩
        · clear o9
          refine ⟨?_, hE⟩
          unfold gr16
          rw [if_neg (fun z => c23 (e1.trans z)), Int32.toInt_toInt64, F.2.2.1 82 (by decide) (by decide)]

/-! the reference: a sum over another, by its value -/
theorem qd_16 {a b c d : Nat} {p q : Rat} (hp : (a : Int) = p.num) (hb : b = p.den) (hc : (c : Int) = q.num) (hd : d = q.den) : mkRat (((a * d : Nat)) : Int) (b * c) = p * q⁻¹ := by
  have P : ((a : Nat) : Rat) = p * ((b : Nat) : Rat) := by rw [hb, nu_q8, ← hp, Rat.intCast_natCast]
  have Q : ((c : Nat) : Rat) = q * ((d : Nat) : Rat) := by rw [hd, nu_q8, ← hc, Rat.intCast_natCast]
  have b0 : ((b : Nat) : Rat) ≠ 0 := fun z => p.den_nz (hb ▸ Rat.natCast_eq_zero_iff.mp z)
  have d0 : ((d : Nat) : Rat) ≠ 0 := fun z => q.den_nz (hd ▸ Rat.natCast_eq_zero_iff.mp z)
  rw [mk_d, Rat.intCast_natCast, Rat.natCast_mul, Rat.natCast_mul, P, Q]
  generalize ((b : Nat) : Rat) = x at *
  generalize ((d : Nat) : Rat) = y at *
  by_cases z : q = 0
  · rw [z, Rat.zero_mul, Rat.mul_zero, Rat.inv_zero, Rat.mul_zero, Rat.mul_zero]
  · have n : x * (q * y) ≠ 0 := fun e => by
      rcases Rat.mul_eq_zero.mp e with e | e
      · exact b0 e
      · rcases Rat.mul_eq_zero.mp e with e | e
        · exact z e
        · exact d0 e
    have k := Rat.mul_inv_cancel _ n
    have g := Rat.mul_inv_cancel q z
    generalize (x * (q * y))⁻¹ = u at *
    generalize q⁻¹ = w at *
    have e1 : p * x * y * u * q = p := by
      have e2 : p * x * y * u * q = p * (x * (q * y) * u) := by grind
      rw [e2, k, Rat.mul_one]
    have e3 : p * x * y * u = p * x * y * u * (q * w) := by rw [g, Rat.mul_one]
    rw [e3, ← Rat.mul_assoc, e1]
theorem sumOver_g5 {C : rCx} (hC : cOK C) (s : Nat) {σ : rS} {a1 : Int32} {a2 : Int32} {a3 : Int32} {a4 : Int32} {Q : rS → Prop} (hP9 : 0 ≤ swQ σ a4 0 0) (hp : pOK σ ∧ s = (σ.1 70).toNatClampNeg ∧ (∀ k, k < s → vOK σ k) ∧ (a3 ≠ 0 → a1 = 7) ∧ swQ σ a4 0 0 ≠ 0) (h : ∀ (σ' : rS), ((frS [0, 1, 2, 3, 4, 5, 6, 7, 8, 9, 10, 19, 20] σ σ' ∧ numO σ' 4 ∧ numO σ' 5 ∧ (σ'.1 92 = 1 ∨ σ'.1 92 = -1)) ∧ (hS σ' (swQ σ a1 a2 a3 * (swQ σ a4 0 0)⁻¹))) → Q σ') : cV C 7 m_sumOver [.ref (co C), .int a1, .int a2, .int a3, .int a4] σ Q := by
  refine m_sumOver_run hC ?_
  unfold w_sumOver_0
  obtain ⟨hO, hs, hv, h37, hne⟩ := hp
  refine sumWeights_c hC s ?_ (fun σ_1 q2 => ?_)
  · clear h; exact ⟨hO, hs, hv, h37⟩  -- p1
  intro x3 hx3
  have s1000 : s ≤ 1000 := by rw [hs]; exact cn_le (y := 1000) rfl hO.1.1.2
  have L1 := siS_L hO hs hv (by decide) q2.2
  refine copy_v hC  ?_ (fun σ_4 q5 => ?_)
  · clear h; simp only [kn, kn2]; exact ⟨by decide, by decide, by decide, by decide, by decide, L1.1⟩  -- p2
  simp only [kn, kn2] at q5
  have n5 := nV_fr q5.1 (k := 5) (by decide) L1.2.1
  refine copy_v hC  ?_ (fun σ_6 q7 => ?_)
  · clear h; simp only [kn, kn2]; exact ⟨by decide, by decide, by decide, by decide, by decide, n5.1⟩  -- p3
  simp only [kn, kn2] at q7
  have m19 := nV_fr q7.1 (k := 19) (by decide) q5.2.1
  have F6 : frS [0, 1, 2, 3, 4, 5, 6, 7, 8, 9, 10, 19, 20] σ σ_6 := frS_tr (frS_mono q2.1 (sub_of rfl)) (frS_tr (frS_mono (frS_of q5.1) (sub_of rfl)) (frS_mono (frS_of q7.1) (sub_of rfl)))
  refine sumWeights_c hC s ?_ (fun σ_8 q9 => ?_)
  · clear h; exact ⟨pOK_S hO F6, by rw [F6.1 70 (by decide)]; exact hs, fun k hk => vOK_f (F6.2.2.1 102 (by decide) (by decide)) (hv k hk), fun z => absurd rfl z⟩  -- p4
  rw [swQ_S F6] at q9
  have L8 := siS_L hO hs hv (by decide) (siS_gr F6 q9.2)
  have z4 := hS_ne q9.2.1 hne
  have v19 := nV_frS q9.1 (k := 19) (by decide) m19.1
  have v20 := nV_frS q9.1 (k := 20) (by decide) q7.2.1
  have l19 : nL σ_8 19 ≤ 18 * s + 1 + 20 := by have := L1.2.2.2.2.1; have := v19.2.2; have := m19.2.2; have := q5.2.2.2; omega
  have l20 : nL σ_8 20 ≤ 18 * s + 1 := by have := L1.2.2.2.1; have := v20.2.2; have := q7.2.2.2; have := n5.2.2; omega
  have p20' : 0 < nV σ_8 20 := by rw [v20.2.1, q7.2.2.1, n5.2.1]; exact L1.2.2.1
  refine times_c hC  ?_ (fun σ_10 q11 => ?_)
  · clear h; simp only [kn, kn2]
    exact ⟨by decide, by decide, by decide, by decide, by decide, by decide, by decide, by decide, v19.1, L8.2.1, by have := L8.2.2.2.1; omega⟩
  simp only [kn, kn2] at q11
  have w20 := nV_fr q11.1 (k := 20) (by decide) v20.1
  have w4 := nV_fr q11.1 (k := 4) (by decide) L8.1
  refine times_c hC  ?_ (fun σ_12 q13 => ?_)
  · clear h; simp only [kn, kn2]
    exact ⟨by decide, by decide, by decide, by decide, by decide, by decide, by decide, by decide, w20.1, w4.1, by have := L8.2.2.2.2.1; have := w20.2.2; have := w4.2.2; omega⟩
  simp only [kn, kn2] at q13
  have x8 := nV_fr q13.1 (k := 8) (by decide) q11.2.1
  refine copy_v hC  ?_ (fun σ_14 q15 => ?_)
  · clear h; simp only [kn, kn2]; exact ⟨by decide, by decide, by decide, by decide, by decide, x8.1⟩  -- p7
  simp only [kn, kn2] at q15
  have x9 := nV_fr q15.1 (k := 9) (by decide) q13.2.1
  refine copy_v hC  ?_ (fun σ_16 q17 => ?_)
  · clear h; simp only [kn, kn2]; exact ⟨by decide, by decide, by decide, by decide, by decide, x9.1⟩  -- p8
  simp only [kn, kn2] at q17
  have x4 := nV_fr q17.1 (k := 4) (by decide) q15.2.1
  refine reduce_c hC  ?_ (fun σ_18 q19 => ?_)
  · clear h; simp only [kn, kn2]
    refine ⟨by decide, by decide, by decide, by decide, by decide, x4.1, q17.2.1, ?_, ?_, ?_⟩
    · rw [q17.2.2.1, x9.2.1, q13.2.2.1, w20.2.1, w4.2.1]
      exact Nat.mul_pos p20' z4
    · have := x4.2.2; have := q15.2.2.2; have := x8.2.2; have := q11.2.2.2; have := L8.2.2.2.1; omega
    · have := q17.2.2.2; have := x9.2.2; have := q13.2.2.2; have := w20.2.2; have := w4.2.2; have := L8.2.2.2.2.1; omega
  intro σ_20 hσ_20
  refine h _ ?_
  · refine and_5 ?_ (fun o9 => ?_)  -- q10
    · clear h; simp only [kn, kn2] at q19
      have F8 := frS_tr F6 (frS_mono q9.1 (sub_of rfl))
      have F18 : frS [0, 1, 2, 3, 4, 5, 6, 7, 8, 9, 10, 19, 20] σ σ_18 := frS_tr F8 (frS_tr (frS_mono (frS_of q11.1) (sub_of rfl)) (frS_tr (frS_mono (frS_of q13.1) (sub_of rfl)) (frS_tr (frS_mono (frS_of q15.1) (sub_of rfl)) (frS_tr (frS_mono (frS_of q17.1) (sub_of rfl)) (frS_mono (frS_of q19.1) (sub_of rfl))))))
      rw [hσ_20]
      refine ⟨frS_tr F18 frS_92, nV_92.2.1.mpr q19.2.1, nV_92.2.1.mpr q19.2.2.1, ?_⟩
      rw [hx3]
      exact L1.2.2.2.2.2
    · clear o9
      simp only [kn, kn2] at q19
      obtain ⟨p, P, W⟩ := q2.2.1
      have Q := hS_nn q9.2.1 hP9
      have e4 : nV σ_16 4 = nV σ_1 4 * nV σ_8 5 := by rw [x4.2.1, q15.2.2.1, x8.2.1, q11.2.2.1, v19.2.1, m19.2.1, q5.2.2.1]
      have e5 : nV σ_16 5 = nV σ_1 5 * nV σ_8 4 := by rw [q17.2.2.1, x9.2.1, q13.2.2.1, w20.2.1, w4.2.1, v20.2.1, q7.2.2.1, n5.2.1]
      have D := qd_16 P.2.2.1 P.2.2.2 Q.2.2.1 Q.2.2.2
      have p5 : 0 < nV σ_16 5 := by
        rw [e5, P.2.2.2]
        exact Nat.mul_pos (Nat.pos_of_ne_zero p.den_nz) z4
      have R := hR_red q19.2.1 q19.2.2.1 p5 q19.2.2.2.1 q19.2.2.2.2
      have f : fQ σ_16 4 5 = p * (swQ σ a4 0 0)⁻¹ := by
        unfold fQ
        rw [e4, e5]
        exact D
      rw [f] at R
      rw [hσ_20]
      refine ⟨p * (swQ σ a4 0 0)⁻¹, R, ?_⟩
      rw [si1, if_pos rfl, hx3]
      rcases W with ⟨w1, w2⟩ | ⟨w1, w2⟩
      · exact Or.inl ⟨w1, by rw [w2]⟩
      · exact Or.inr ⟨w1, by rw [w2, Rat.neg_mul]⟩

/-! the reference: show, by its value -/
noncomputable def wr16 (σ : rS) (v : Nat) : Rat := sgq (σ.2.2.1 116 v) (mkRat (slV σ 115 (34 * v)) (slV σ 115 (34 * v + 17)))
noncomputable def shR16 (σ : rS) (kind v : Int32) : Rat :=
  if kind < 2 then swQ σ kind v 0 * (swQ σ 6 0 0)⁻¹
  else if kind < 7 then swQ σ kind v 0
  else if kind = 7 then vsR16 σ 1 (σ.1 70).toNatClampNeg
  else if kind = 8 then fV σ v.toNatClampNeg
  else if kind = 9 then vsR16 σ 0 (σ.1 70).toNatClampNeg
  else if kind = 10 then swQ σ 7 0 1 * (swQ σ 7 0 0)⁻¹
  else if kind = 11 then wr16 σ v.toNatClampNeg
  else fQ σ 17 18
/-- its code -/
noncomputable def ca16 (σ : rS) (a : Int32) : Int32 := if ¬ (0 ≤ a ∧ a ≤ 12) then 1 else @ite Int32 (shC σ a) (Classical.propDecidable _) 0 2
noncomputable def cb16 (σ : rS) (a : Int32) : Int32 := if ¬ ca16 σ a = 0 then ca16 σ a else @ite Int32 ((a < 2 → swQ σ 6 0 0 ≠ 0) ∧ (a = 10 → swQ σ 7 0 0 ≠ 0)) (Classical.propDecidable _) 0 2
noncomputable def cc16 (σ : rS) (a v : Int32) : Int32 := if ¬ cb16 σ a = 0 then cb16 σ a else @ite Int32 ((a = 2 → 0 ≤ v ∧ v < σ.1 71) ∧ (a = 8 ∨ a = 11 → 0 ≤ v ∧ v < σ.1 70)) (Classical.propDecidable _) 0 3
noncomputable def ab16 (q : Rat) : Rat := if 0 ≤ q then q else -q
def XW16 (σ σ' : rS) (v : Int32) (q : Rat) : Prop := v.toInt = q.num.sign ∧ hR σ' 15 16 (ab16 q) ∧ σ'.1 103 ≠ 0
theorem ca_016 {σ : rS} {a : Int32} (w : 0 ≤ a ∧ a ≤ 12) (c : shC σ a) : ca16 σ a = 0 := by
  unfold ca16
  rw [if_neg (fun z => z w), if_pos c]
theorem ca_216 {σ : rS} {a : Int32} (w : 0 ≤ a ∧ a ≤ 12) (c : ¬ shC σ a) : ca16 σ a = 2 := by
  unfold ca16
  rw [if_neg (fun z => z w), if_neg c]
theorem ca_116 {σ : rS} {a : Int32} (w : ¬ (0 ≤ a ∧ a ≤ 12)) : ca16 σ a = 1 := if_pos w
theorem cb_016 {σ : rS} {a : Int32} (h : ca16 σ a = 0) (c : (a < 2 → swQ σ 6 0 0 ≠ 0) ∧ (a = 10 → swQ σ 7 0 0 ≠ 0)) : cb16 σ a = 0 := by
  unfold cb16
  rw [if_neg (fun z => z h), if_pos c]
theorem cb_216 {σ : rS} {a : Int32} (h : ca16 σ a = 0) (c : ¬ ((a < 2 → swQ σ 6 0 0 ≠ 0) ∧ (a = 10 → swQ σ 7 0 0 ≠ 0))) : cb16 σ a = 2 := by
  unfold cb16
  rw [if_neg (fun z => z h), if_neg c]
theorem cb_a16 {σ : rS} {a : Int32} (h : ¬ ca16 σ a = 0) : cb16 σ a = ca16 σ a := if_pos h
theorem cc_016 {σ : rS} {a v : Int32} (h : cb16 σ a = 0) (c : (a = 2 → 0 ≤ v ∧ v < σ.1 71) ∧ (a = 8 ∨ a = 11 → 0 ≤ v ∧ v < σ.1 70)) : cc16 σ a v = 0 := by
  unfold cc16
  rw [if_neg (fun z => z h), if_pos c]
theorem cc_316 {σ : rS} {a v : Int32} (h : cb16 σ a = 0) (c : ¬ ((a = 2 → 0 ≤ v ∧ v < σ.1 71) ∧ (a = 8 ∨ a = 11 → 0 ≤ v ∧ v < σ.1 70))) : cc16 σ a v = 3 := by
  unfold cc16
  rw [if_neg (fun z => z h), if_neg c]
theorem cc_b16 {σ : rS} {a v : Int32} (h : ¬ cb16 σ a = 0) : cc16 σ a v = cb16 σ a := if_pos h
theorem ca_v16 {σ : rS} {a : Int32} : ca16 σ a = 0 ∨ ca16 σ a = 1 ∨ ca16 σ a = 2 := by
  by_cases w : 0 ≤ a ∧ a ≤ 12
  · by_cases c : shC σ a
    · exact Or.inl (ca_016 w c)
    · exact Or.inr (Or.inr (ca_216 w c))
  · exact Or.inr (Or.inl (ca_116 w))
theorem cb_v16 {σ : rS} {a : Int32} : cb16 σ a = 0 ∨ cb16 σ a = 1 ∨ cb16 σ a = 2 := by
  by_cases h : ca16 σ a = 0
  · by_cases c : (a < 2 → swQ σ 6 0 0 ≠ 0) ∧ (a = 10 → swQ σ 7 0 0 ≠ 0)
    · exact Or.inl (cb_016 h c)
    · exact Or.inr (Or.inr (cb_216 h c))
  · rw [cb_a16 h]
    exact ca_v16
theorem cc_v16 {σ : rS} {a v : Int32} : cc16 σ a v = 0 ∨ cc16 σ a v = 1 ∨ cc16 σ a v = 2 ∨ cc16 σ a v = 3 := by
  by_cases h : cb16 σ a = 0
  · by_cases c : (a = 2 → 0 ≤ v ∧ v < σ.1 71) ∧ (a = 8 ∨ a = 11 → 0 ≤ v ∧ v < σ.1 70)
    · exact Or.inl (cc_016 h c)
    · exact Or.inr (Or.inr (Or.inr (cc_316 h c)))
  · rw [cc_b16 h]
    rcases cb_v16 (σ := σ) (a := a) with z | z | z
    · exact Or.inl z
    · exact Or.inr (Or.inl z)
    · exact Or.inr (Or.inr (Or.inl z))
theorem cc_n16 {σ : rS} {a v : Int32} (h : cc16 σ a v ≤ 0) : cc16 σ a v = 0 := by
  rcases cc_v16 (σ := σ) (a := a) (v := v) with z | z | z | z
  · exact z
  · rw [z] at h; exact absurd h (by decide)
  · rw [z] at h; exact absurd h (by decide)
  · rw [z] at h; exact absurd h (by decide)
theorem sR_w16 {σ : rS} {a v : Int32} (h : ¬ a < 2) (g : a < 7) : shR16 σ a v = swQ σ a v 0 := (if_neg h).trans (if_pos g)
theorem sR_o16 {σ : rS} {a v : Int32} (h : a < 2) : shR16 σ a v = swQ σ a v 0 * (swQ σ 6 0 0)⁻¹ := if_pos h
theorem sR_716 {σ : rS} {v : Int32} : shR16 σ 7 v = vsR16 σ 1 (σ.1 70).toNatClampNeg := (if_neg (by decide)).trans ((if_neg (by decide)).trans (if_pos rfl))
theorem sR_816 {σ : rS} {v : Int32} : shR16 σ 8 v = fV σ v.toNatClampNeg := (if_neg (by decide)).trans ((if_neg (by decide)).trans ((if_neg (by decide)).trans (if_pos rfl)))
theorem sR_916 {σ : rS} {v : Int32} : shR16 σ 9 v = vsR16 σ 0 (σ.1 70).toNatClampNeg := (if_neg (by decide)).trans ((if_neg (by decide)).trans ((if_neg (by decide)).trans ((if_neg (by decide)).trans (if_pos rfl))))
theorem sR_1016 {σ : rS} {v : Int32} : shR16 σ 10 v = swQ σ 7 0 1 * (swQ σ 7 0 0)⁻¹ := (if_neg (by decide)).trans ((if_neg (by decide)).trans ((if_neg (by decide)).trans ((if_neg (by decide)).trans ((if_neg (by decide)).trans (if_pos rfl)))))
theorem sR_1116 {σ : rS} {v : Int32} : shR16 σ 11 v = wr16 σ v.toNatClampNeg := (if_neg (by decide)).trans ((if_neg (by decide)).trans ((if_neg (by decide)).trans ((if_neg (by decide)).trans ((if_neg (by decide)).trans ((if_neg (by decide)).trans (if_pos rfl))))))
theorem sR_1216 {σ : rS} {v : Int32} : shR16 σ 12 v = fQ σ 17 18 := (if_neg (by decide)).trans ((if_neg (by decide)).trans ((if_neg (by decide)).trans ((if_neg (by decide)).trans ((if_neg (by decide)).trans ((if_neg (by decide)).trans (if_neg (by decide)))))))
theorem hz_16 {σ : rS} {S : Rat} (h : hS σ S) (z : σ.2.2.1 91 4 = 0) : S = 0 := Decidable.byContradiction (fun n => by
  have p := hS_ne h n
  have e : nV σ 4 = 0 := by
    show dv (σ.2.2.1 90) (40000 * 4) (σ.2.2.1 91 4).toNatClampNeg = 0
    rw [z]
    rfl
  omega)
theorem ab_q16 {p q : Rat} (h : 0 ≤ q) (e : p = q ∨ p = -q) : ab16 p = q := by
  unfold ab16
  rcases e with e | e
  · rw [e, if_pos h]
  · rw [e]
    by_cases c : 0 ≤ -q
    · rw [if_pos c]; grind
    · rw [if_neg c]; grind
theorem sn_p16 {q : Rat} (h : 0 < q) : q.num.sign = 1 := Int.sign_eq_one_of_pos (by
  have a := Rat.num_nonneg.mpr (Rat.le_of_lt h)
  have b : q.num ≠ 0 := fun z => by
    rw [Rat.num_eq_zero.mp z] at h
    exact Rat.lt_irrefl h
  omega)
theorem sn_m16 {q : Rat} (h : 0 < -q) : q.num.sign = -1 := by
  have p := sn_p16 h
  rw [Rat.neg_num, Int.sign_neg] at p
  omega
theorem sh_e16r {a : Int32} (h : 11 ≤ a) (g : a ≤ 12) (n : ¬ a = 11) : a = 12 := by grind
theorem sl_e16 {σ τ : rS} {r o : Nat} (h : τ.2.2.1 r = σ.2.2.1 r) : slV τ r o = slV σ r o := by
  unfold slV
  rw [h]
theorem tT_e16 {σ τ : rS} (h : ∀ g, g ≠ 90 → g ≠ 91 → τ.2.2.1 g = σ.2.2.1 g) : vsR16 τ = vsR16 σ := by
  have e : vt16 τ = vt16 σ := by
    funext k
    unfold vt16 vsV fV
    rw [h 95 (by decide) (by decide), sl_e16 (h 102 (by decide) (by decide)), sl_e16 (h 102 (by decide) (by decide)), h 102 (by decide) (by decide)]
  have g : gr16 τ = gr16 σ := by
    funext b k
    unfold gr16
    rw [h 82 (by decide) (by decide)]
  unfold vsR16
  rw [e, g]
theorem show_g5 {C : rCx} (hC : cOK C) (s : Nat) {σ : rS} {a1 : Int32} {a2 : Int32} {Q : Int32 → rS → Prop} (hP9 : 0 ≤ swQ σ 6 0 0 ∧ 0 ≤ swQ σ 7 0 0) (hp : pOK σ ∧ s = (σ.1 70).toNatClampNeg ∧ (σ.1 94 ≠ 0 → ∀ k, k < s → vOK σ k) ∧ (σ.1 114 ≠ 0 → ∀ k, k < s → wkO σ 115 116 k) ∧ plN σ ∧ shO σ) (h : ∀ (v : Int32) (σ' : rS), ((frT shF shL σ σ' ∧ shO σ') ∧ (σ'.1 0 = cc16 σ a1 a2 ∧ (cc16 σ a1 a2 = 0 → XW16 σ σ' v (shR16 σ a1 a2)))) → Q v σ') : cI C 8 m_show [.ref (co C), .int a1, .int a2] σ Q := by
  refine m_show_run hC ?_
  unfold w_show_0
  obtain ⟨hO, hs, hv, hw, hn, hh⟩ := hp
  have hj352 : ∀  (τ : rS), ((frT shF shL σ τ ∧ numO τ 4 ∧ numO τ 5) ∧ cc16 σ a1 a2 = 0 ∧ τ.1 0 = 0 ∧ hS τ (shR16 σ a1 a2)) → w_show_352 C Q   τ := by
    rintro  τ352 ⟨j352, hE⟩
    unfold w_show_352
    obtain ⟨F, o4, o5⟩ := j352
    refine copy_v hC  ?_ (fun σ_1 q2 => ?_)
    · clear h; simp only [kn, kn2]; exact ⟨by decide, by decide, by decide, by decide, by decide, o4⟩  -- p1
    simp only [kn, kn2] at q2
    have g5 := nV_fr q2.1 (k := 5) (by decide) o5
    refine copy_v hC  ?_ (fun σ_3 q4 => ?_)
    · clear h; simp only [kn, kn2]; exact ⟨by decide, by decide, by decide, by decide, by decide, g5.1⟩  -- p2
    simp only [kn, kn2] at q4
    have m15 := nV_fr q4.1 (k := 15) (by decide) q2.2.1
    intro σ_5 hσ_5
    refine isZero_c hC  ?_ (fun r6 q8 => ?_)
    · clear h; exact ⟨by decide, by decide⟩  -- p3
    refine ⟨fun c9 => ?_, fun c9 => ?_⟩
    · skip
      refine h _ _ ?_
      · refine and_5 ?_ (fun o9 => ?_)  -- q4
        · clear h; rw [hσ_5]; exact ⟨frT_tr F (frT_tr (frT_N q2.1 (sub_of rfl)) (frT_tr (frT_N q4.1 (sub_of rfl)) (frT_0 (by decide)))), fun _ => ⟨m15.1, q4.2.1⟩⟩
        · clear o9
          obtain ⟨e0, z0, S⟩ := hE
          have f1 : σ_3.1 = τ352.1 := q4.1.1.trans q2.1.1
          have nz : shR16 σ a1 a2 ≠ 0 := fun e => by
            have y := hS_z S e
            have r4 : σ_5.2.2.1 91 4 = 0 := by
              rw [hσ_5, si2, (q4.1.2.2.2.2 4 (by decide)).1, (q2.1.2.2.2.2 4 (by decide)).1]
              exact y
            exact q8.2.mpr r4 c9
          obtain ⟨q, R, Wq⟩ := S
          have q0 := hR_nn R
          refine ⟨by rw [hσ_5, si1, if_neg (by decide), f1, z0, e0], fun _ => ⟨?_, ?_, by rw [hσ_5, si1, if_pos rfl]; decide⟩⟩
          · rw [hσ_5, si1, if_neg (by decide), f1]
            rcases Wq with ⟨w1, w2⟩ | ⟨w1, w2⟩
            · rw [w1, sn_p16 (by rw [w2] at nz ⊢; grind)]; rfl
            · rw [w1, sn_m16 (by rw [w2] at nz ⊢; grind)]; rfl
          · rw [ab_q16 q0 (Wq.imp (fun z => z.2) (fun z => z.2)), hσ_5]
            exact ⟨m15.1, q4.2.1, by show (nV σ_3 15 : Int) = _; rw [m15.2.1, q2.2.2.1]; exact R.2.2.1, by show nV σ_3 16 = _; rw [q4.2.2.1, g5.2.1]; exact R.2.2.2⟩
    · skip
      refine h _ _ ?_
      · refine and_5 ?_ (fun o9 => ?_)  -- q5
        · clear h; rw [hσ_5]; exact ⟨frT_tr F (frT_tr (frT_N q2.1 (sub_of rfl)) (frT_tr (frT_N q4.1 (sub_of rfl)) (frT_0 (by decide)))), fun _ => ⟨m15.1, q4.2.1⟩⟩
        · clear o9
          obtain ⟨e0, z0, S⟩ := hE
          have f1 : σ_3.1 = τ352.1 := q4.1.1.trans q2.1.1
          have r4 : σ_5.2.2.1 91 4 = 0 := q8.2.mp c9
          rw [hσ_5, si2, (q4.1.2.2.2.2 4 (by decide)).1, (q2.1.2.2.2.2 4 (by decide)).1] at r4
          have Q0 := hz_16 S r4
          obtain ⟨q, R, Wq⟩ := S
          have q0 := hR_nn R
          refine ⟨by rw [hσ_5, si1, if_neg (by decide), f1, z0, e0], fun _ => ⟨by rw [Q0]; rfl, ?_, by rw [hσ_5, si1, if_pos rfl]; decide⟩⟩
          rw [ab_q16 q0 (Wq.imp (fun z => z.2) (fun z => z.2)), hσ_5]
          exact ⟨m15.1, q4.2.1, by show (nV σ_3 15 : Int) = _; rw [m15.2.1, q2.2.2.1]; exact R.2.2.1, by show nV σ_3 16 = _; rw [q4.2.2.1, g5.2.1]; exact R.2.2.2⟩
  have hj235 : ∀ (l1 : Int32) (τ : rS), ((l1 = a1 ∧ frT shF shL σ τ ∧ σ.1 94 ≠ 0) ∧ cc16 σ a1 a2 = 0 ∧ τ.1 0 = 0 ∧ (a1 = 7 ∨ a1 = 9)) → w_show_235 C Q  l1 τ := by
    rintro y235_1 τ235 ⟨j235, hE⟩
    unfold w_show_235
    obtain ⟨y1, F, n94⟩ := j235
    have P1 := pOK_T hO F (by decide) (by decide) (by decide)
    have P2 : s = (τ235.1 70).toNatClampNeg := by rw [F.1 70 (by decide)]; exact hs
    have P3 : ∀ k, k < s → vOK τ235 k := fun k hk => vOK_f (F.2.2.1 102 (by decide) (by decide)) (hv n94 k hk)
    refine ⟨fun c10 => ?_, fun c10 => ?_⟩
    · skip
      refine sumVisits_g5 hC s ?_ (fun σ_11 q12 => ?_)
      · clear h; exact ⟨P1, P2, P3⟩  -- p6
      obtain ⟨q12, z9⟩ := q12
      refine hj352 _ ?_
      · refine and_5 ?_ (fun o9 => ?_)  -- k7
        · clear h; obtain ⟨S, J⟩ := q12.2
          have L := siS_L P1 P2 P3 (by decide) J
          exact ⟨frT_tr F (frT_S q12.1 (by decide) (sub_of rfl)), L.1, L.2.1⟩
        · clear o9
          have e9 : a1 = 9 := hE.2.2.resolve_left (fun z => c10 (y1.trans z))
          refine ⟨hE.1, by rw [q12.1.1 0 (by decide)]; exact hE.2.1, ?_⟩
          rw [tT_e16 F.2.2.1, hs] at z9
          rw [e9, sR_916]
          exact z9
    · skip
      refine sumVisits_g5 hC s ?_ (fun σ_13 q14 => ?_)
      · clear h; exact ⟨P1, P2, P3⟩  -- p8
      obtain ⟨q14, z9⟩ := q14
      refine hj352 _ ?_
      · refine and_5 ?_ (fun o9 => ?_)  -- k9
        · clear h; obtain ⟨S, J⟩ := q14.2
          have L := siS_L P1 P2 P3 (by decide) J
          exact ⟨frT_tr F (frT_S q14.1 (by decide) (sub_of rfl)), L.1, L.2.1⟩
        · clear o9
          refine ⟨hE.1, by rw [q14.1.1 0 (by decide)]; exact hE.2.1, ?_⟩
          rw [tT_e16 F.2.2.1, hs] at z9
          rw [y1.symm.trans c10, sR_716]
          exact z9
  have hj181 : ∀ (l1 : Int32) (l2 : Int32) (τ : rS), ((l1 = a1 ∧ l2 = a2 ∧ frT shF shL σ τ ∧ shO τ ∧ (τ.1 0 ≤ 0 → shD σ a1 ∧ ((a1 = 8 ∨ a1 = 11) → 0 ≤ a2 ∧ a2 < σ.1 70))) ∧ τ.1 0 = cc16 σ a1 a2) → w_show_181 C Q  l1 l2 τ := by
    rintro y181_1 y181_2 τ181 ⟨j181, hE⟩
    unfold w_show_181
    obtain ⟨y1, y2, F, H, D⟩ := j181
    have P1 := pOK_T hO F (by decide) (by decide) (by decide)
    have P2 : s = (τ181.1 70).toNatClampNeg := by rw [F.1 70 (by decide)]; exact hs
    have P3 : σ.1 94 ≠ 0 → ∀ k, k < s → vOK τ181 k := fun n94 k hk => vOK_f (F.2.2.1 102 (by decide) (by decide)) (hv n94 k hk)
    have P4 : swQ τ181 = swQ σ := swQ_o (F.1 70 (by decide)) F.2.2.1
    rw [y1, y2]
    refine ⟨fun c15 => ?_, fun c15 => ?_⟩
    · skip
      refine ⟨fun c16 => ?_, fun c16 => ?_⟩
      · skip
        refine ⟨fun c17 => ?_, fun c17 => ?_⟩
        · skip
          refine ⟨fun c18 => ?_, fun c18 => ?_⟩
          · skip
            refine hj235 _ _ ?_
            · refine and_5 ?_ (fun o9 => ⟨cc_n16 (by rw [← hE]; exact c15), hE.trans (cc_n16 (by rw [← hE]; exact c15)), Or.inl c18⟩)  -- k10
              clear h; exact ⟨rfl, F, (D c15).1.1.2.2.1 (by rw [c18]; decide)⟩
          · skip
            refine ⟨fun c19 => ?_, fun c19 => ?_⟩
            · skip
              refine ⟨fun c20 => ?_, fun c20 => ?_⟩
              · skip
                refine ⟨fun c21 => ?_, fun c21 => ?_⟩
                · skip
                  refine ⟨fun c22 => ?_, fun c22 => ?_⟩
                  · skip
                    refine copy_v hC  ?_ (fun σ_23 q24 => ?_)
                    · clear h; have n := hn ((D c15).1.1.1 (sh_12 c17 (D c15).1.1.2.2.2 c18 c20 c19 c21 c22))
                      simp only [kn, kn2]; exact ⟨by decide, by decide, by decide, by decide, by decide, (nV_T F (by decide) n.1).1⟩
                    simp only [kn, kn2] at q24
                    have n := hn ((D c15).1.1.1 (sh_12 c17 (D c15).1.1.2.2.2 c18 c20 c19 c21 c22))
                    have n17 := nV_T F (k := 17) (by decide) n.1
                    have n18 := nV_T F (k := 18) (by decide) n.2.1
                    have m18 := nV_fr q24.1 (k := 18) (by decide) n18.1
                    refine copy_v hC  ?_ (fun σ_25 q26 => ?_)
                    · clear h; simp only [kn, kn2]; exact ⟨by decide, by decide, by decide, by decide, by decide, m18.1⟩  -- p12
                    simp only [kn, kn2] at q26
                    have m4 := nV_fr q26.1 (k := 4) (by decide) q24.2.1
                    refine reduce_c hC  ?_ (fun σ_27 q28 => ?_)
                    · clear h; simp only [kn, kn2]
                      exact ⟨by decide, by decide, by decide, by decide, by decide, m4.1, q26.2.1, by rw [q26.2.2.1, m18.2.1, n18.2.1]; exact n.2.2.1, by have := m4.2.2; have := q24.2.2.2; have := n17.2.2; have := n.2.2.2.1; omega, by have := q26.2.2.2; have := m18.2.2; have := n18.2.2; have := n.2.2.2.2; omega⟩
                    intro σ_29 hσ_29
                    refine hj352 _ ?_
                    · refine and_5 ?_ (fun o9 => ?_)  -- k14
                      · clear h; simp only [kn, kn2] at q28
                        rw [hσ_29]
                        exact ⟨frT_tr F (frT_tr (frT_N q24.1 (sub_of rfl)) (frT_tr (frT_N q26.1 (sub_of rfl)) (frT_tr (frT_N q28.1 (sub_of rfl)) (frT_0 (by decide))))), nV_92.2.1.mpr q28.2.1, nV_92.2.1.mpr q28.2.2.1⟩
                      · clear o9
                        simp only [kn, kn2] at q28
                        have cc0 := cc_n16 (σ := σ) (a := a1) (v := a2) (by rw [← hE]; exact c15)
                        have e12 := sh_12 c17 (D c15).1.1.2.2.2 c18 c20 c19 c21 c22
                        have p5 : 0 < nV σ_25 5 := by rw [q26.2.2.1, m18.2.1, n18.2.1]; exact n.2.2.1
                        have R := hR_red q28.2.1 q28.2.2.1 p5 q28.2.2.2.1 q28.2.2.2.2
                        have f : fQ σ_25 4 5 = fQ σ 17 18 := by
                          unfold fQ
                          rw [m4.2.1, q24.2.2.1, n17.2.1, q26.2.2.1, m18.2.1, n18.2.1]
                        rw [f] at R
                        refine ⟨cc0, by rw [hσ_29, si1, if_neg (by decide), q28.1.1, q26.1.1, q24.1.1]; exact hE.trans cc0, ?_⟩
                        rw [e12, sR_1216, hσ_29]
                        exact ⟨_, R, Or.inl ⟨by rw [si1, if_pos rfl], rfl⟩⟩
                  · skip
                    refine clearSum_c hC  (fun σ_30 q31 => ?_)
                    have r := (D c15).2 (Or.inr c22)
                    have r1 := Int32.lt_of_lt_of_le r.2 hO.1.1.2
                    have W := wkO_f ((q31.1.2.2.1 115 (by decide) (by decide)).trans (F.2.2.1 115 (by decide) (by decide))) ((q31.1.2.2.1 116 (by decide) (by decide)).trans (F.2.2.1 116 (by decide) (by decide))) (hw ((D c15).1.1.2.1 c22) a2.toNatClampNeg (by rw [hs]; exact cn_lt r.1 r.2))
                    refine loadWorth_c hC  ?_ (fun σ_32 q33 => ?_)
                    · clear h; exact ⟨Or.inl rfl, r.1, r1, W.1, W.2.1⟩  -- p15
                    have p7 : 0 < nV σ_32 7 := by rw [q33.2.2.2.2.1]; exact W.2.2.1
                    have fb := fQ_b q33.2.1 p7 q33.2.2.2.2.2.1
                    have m7 := nV_lt q33.2.2.1 q33.2.2.2.2.2.2
                    have A := siG_add (a := 16) (M := nV σ_32 7) (x := σ_32.2.2.1 116 a2.toNatClampNeg) (by rw [q33.1.2.2.1 116 (by decide) (by decide)]; exact W.2.2.2) p7 m7 (by decide) (by decide) (siG_N q33.1 (by decide) (by decide) (siG_0 q31.2)) q33.2.1 q33.2.2.1 p7 (by have := q33.2.2.2.2.2.1; omega) (by have := q33.2.2.2.2.2.2; omega) (Rat.le_trans fb.2.1 p16_wB) fb.2.2
                    refine ⟨ib_1000.mpr ?_, ?_⟩
                    · clear h; exact ⟨r.1, r1⟩  -- b16
                    refine add_c hC  ?_ (fun σ_34 q35 => ?_)
                    · clear h; exact A.1  -- p17
                    refine hj352 _ ?_
                    · refine and_5 ?_ (fun o9 => ?_)  -- k18
                      · clear h; have L := siG_L (a := 16) p7 m7 (by decide) (A.2 _ q35.2)
                        exact ⟨frT_tr F (frT_tr (frT_S q31.1 (by decide) (sub_of rfl)) (frT_tr (frT_N q33.1 (sub_of rfl)) (frT_S q35.1 (by decide) (sub_of rfl)))), L.1, L.2.1⟩
                      · clear o9
                        have cc0 := cc_n16 (σ := σ) (a := a1) (v := a2) (by rw [← hE]; exact c15)
                        have S0 := hS_N q33.1 (by decide) (by decide) q31.2
                        have y := q35.2
                        rw [hS_addy S0, Rat.zero_add] at y
                        have r115 : σ_30.2.2.1 115 = σ.2.2.1 115 := (q31.1.2.2.1 115 (by decide) (by decide)).trans (F.2.2.1 115 (by decide) (by decide))
                        have r116 : σ_32.2.2.1 116 = σ.2.2.1 116 := (q33.1.2.2.1 116 (by decide) (by decide)).trans ((q31.1.2.2.1 116 (by decide) (by decide)).trans (F.2.2.1 116 (by decide) (by decide)))
                        have f : sgq (σ_32.2.2.1 116 a2.toNatClampNeg) (fQ σ_32 6 7) = wr16 σ a2.toNatClampNeg := by
                          unfold wr16 fQ
                          rw [q33.2.2.2.1, q33.2.2.2.2.1, r116, sl_e16 r115, sl_e16 r115]
                        rw [f] at y
                        refine ⟨cc0, by rw [q35.1.1 0 (by decide), q33.1.1, q31.1.1 0 (by decide)]; exact hE.trans cc0, ?_⟩
                        rw [c22, sR_1116]
                        exact y
                · skip
                  refine sumOver_g5 hC s (by rw [P4]; exact hP9.2) ?_ (fun σ_36 q37 => ?_)
                  · clear h; exact ⟨P1, P2, P3 ((D c15).1.1.2.2.1 (by rw [c21]; decide)), fun _ => rfl, by rw [P4]; exact (D c15).1.2.2 c21⟩  -- p19
                  obtain ⟨q37, z9⟩ := q37
                  refine hj352 _ ?_
                  · refine and_5 ?_ (fun o9 => ?_)  -- k20
                    · clear h; exact ⟨frT_tr F (frT_S q37.1 (by decide) (sub_of rfl)), q37.2.1, q37.2.2.1⟩
                    · clear o9
                      have cc0 := cc_n16 (σ := σ) (a := a1) (v := a2) (by rw [← hE]; exact c15)
                      rw [P4] at z9
                      refine ⟨cc0, by rw [q37.1.1 0 (by decide)]; exact hE.trans cc0, ?_⟩
                      rw [c21, sR_1016]
                      exact z9
              · skip
                refine clearSum_c hC  (fun σ_38 q39 => ?_)
                have r := (D c15).2 (Or.inl c20)
                have r1 := Int32.lt_of_lt_of_le r.2 hO.1.1.2
                have V := vOK_f (q39.1.2.2.1 102 (by decide) (by decide)) (P3 ((D c15).1.1.2.2.1 (by rw [c20]; decide)) a2.toNatClampNeg (by rw [hs]; exact cn_lt r.1 r.2))
                refine loadVisits_c hC  ?_ (fun σ_40 q41 => ?_)
                · clear h; exact ⟨r.1, r1, V.1, V.2.1⟩  -- p21
                have p7 : 0 < nV σ_40 7 := by rw [q41.2.2.2.2.1]; exact V.2.2
                have fb := fQ_b q41.2.1 p7 q41.2.2.2.2.2.1
                have m7 := nV_lt q41.2.2.1 q41.2.2.2.2.2.2
                have A := siG_add (a := 16) (M := nV σ_40 7) (x := 1) (Or.inl rfl) p7 m7 (by decide) (by decide) (siG_N q41.1 (by decide) (by decide) (siG_0 q39.2)) q41.2.1 q41.2.2.1 p7 (by have := q41.2.2.2.2.2.1; omega) (by have := q41.2.2.2.2.2.2; omega) (Rat.le_trans fb.2.1 p16_wB) fb.2.2
                refine add_c hC  ?_ (fun σ_42 q43 => ?_)
                · clear h; exact A.1  -- p22
                refine hj352 _ ?_
                · refine and_5 ?_ (fun o9 => ?_)  -- k23
                  · clear h; have L := siG_L (a := 16) p7 m7 (by decide) (A.2 _ q43.2)
                    exact ⟨frT_tr F (frT_tr (frT_S q39.1 (by decide) (sub_of rfl)) (frT_tr (frT_N q41.1 (sub_of rfl)) (frT_S q43.1 (by decide) (sub_of rfl)))), L.1, L.2.1⟩
                  · clear o9
                    have cc0 := cc_n16 (σ := σ) (a := a1) (v := a2) (by rw [← hE]; exact c15)
                    have S0 := hS_N q41.1 (by decide) (by decide) q39.2
                    have y := q43.2
                    rw [hS_addy S0, Rat.zero_add, sgq_1] at y
                    have r102 : σ_38.2.2.1 102 = σ.2.2.1 102 := (q39.1.2.2.1 102 (by decide) (by decide)).trans (F.2.2.1 102 (by decide) (by decide))
                    have f : fQ σ_40 6 7 = fV σ a2.toNatClampNeg := by
                      unfold fV fQ
                      rw [q41.2.2.2.1, q41.2.2.2.2.1, sl_e16 r102, sl_e16 r102]
                    rw [f] at y
                    refine ⟨cc0, by rw [q43.1.1 0 (by decide), q41.1.1, q39.1.1 0 (by decide)]; exact hE.trans cc0, ?_⟩
                    rw [c20, sR_816]
                    exact y
            · skip
              refine hj235 _ _ ?_
              · refine and_5 ?_ (fun o9 => ⟨cc_n16 (by rw [← hE]; exact c15), hE.trans (cc_n16 (by rw [← hE]; exact c15)), Or.inr c19⟩)  -- k24
                clear h; exact ⟨rfl, F, (D c15).1.1.2.2.1 (by rw [c19]; decide)⟩
        · skip
          refine sumWeights_c hC s ?_ (fun σ_44 q45 => ?_)
          · clear h; exact ⟨P1, P2, P3 ((D c15).1.1.2.2.1 (sh_l7 c17)), fun z => absurd rfl z⟩  -- p25
          refine hj352 _ ?_
          · refine and_5 ?_ (fun o9 => ?_)  -- k26
            · clear h; have L := siS_L P1 P2 (P3 ((D c15).1.1.2.2.1 (sh_l7 c17))) (by decide) q45.2
              exact ⟨frT_tr F (frT_S q45.1 (by decide) (sub_of rfl)), L.1, L.2.1⟩
            · clear o9
              have cc0 := cc_n16 (σ := σ) (a := a1) (v := a2) (by rw [← hE]; exact c15)
              have y := q45.2.1
              rw [P4] at y
              refine ⟨cc0, by rw [q45.1.1 0 (by decide)]; exact hE.trans cc0, ?_⟩
              rw [sR_w16 (Int32.not_lt.mpr c16) (Int32.not_le.mp c17)]
              exact y
      · skip
        refine sumOver_g5 hC s (by rw [P4]; exact hP9.1) ?_ (fun σ_46 q47 => ?_)
        · clear h; exact ⟨P1, P2, P3 ((D c15).1.1.2.2.1 (sh_l2 c16).1), fun z => absurd rfl z, by rw [P4]; exact (D c15).1.2.1 (sh_l2 c16).2⟩  -- p27
        obtain ⟨q47, z9⟩ := q47
        refine hj352 _ ?_
        · refine and_5 ?_ (fun o9 => ?_)  -- k28
          · clear h; exact ⟨frT_tr F (frT_S q47.1 (by decide) (sub_of rfl)), q47.2.1, q47.2.2.1⟩
          · clear o9
            have cc0 := cc_n16 (σ := σ) (a := a1) (v := a2) (by rw [← hE]; exact c15)
            rw [P4] at z9
            refine ⟨cc0, by rw [q47.1.1 0 (by decide)]; exact hE.trans cc0, ?_⟩
            rw [sR_o16 (Int32.not_le.mp c16)]
            exact z9
    · skip
      refine h _ _ ?_
      · refine and_5 ?_ (fun o9 => ⟨hE, fun z => absurd (by rw [hE, z]; decide) c15⟩)  -- q29
        clear h; exact ⟨F, H⟩
  have hj162 : ∀ (l1 : Int32) (l2 : Int32) (τ : rS), ((l1 = a1 ∧ l2 = a2 ∧ frT shF shL σ τ ∧ shO τ ∧ shD σ a1) ∧ cb16 σ a1 = 0 ∧ (a1 = 2 → 0 ≤ a2 ∧ a2 < σ.1 71) ∧ (a1 = 8 ∨ a1 = 11)) → w_show_162 C Q  l1 l2 τ := by
    rintro y162_1 y162_2 τ162 ⟨j162, hE⟩
    unfold w_show_162
    obtain ⟨y1, y2, F, H, D⟩ := j162
    refine isSlot_c hC  (fun r48 q50 => ?_)
    refine ⟨fun c51 => ?_, fun c51 => ?_⟩
    · skip
      intro σ_52 hσ_52
      refine hj181 _ _ _ ?_
      · refine and_5 ?_ (fun o9 => ?_)  -- k30
        · clear h; rw [hσ_52]
          have q := q50.2.mp c51
          rw [y2, F.1 70 (by decide)] at q
          exact ⟨y1, y2, frT_tr F (frT_0 (by decide)), shO_0 H, fun _ => ⟨D, fun _ => q⟩⟩
        · clear o9
          have q := q50.2.mp c51
          rw [y2, F.1 70 (by decide)] at q
          rw [hσ_52, cc_016 hE.1 ⟨hE.2.1, fun _ => q⟩]
          rfl
    · skip
      intro σ_53 hσ_53
      refine hj181 _ _ _ ?_
      · refine and_5 ?_ (fun o9 => ?_)  -- k31
        · clear h; rw [hσ_53]
          exact ⟨y1, y2, frT_tr F (frT_0 (by decide)), shO_0 H, fun z => absurd z (by show ¬ (3 : Int32) ≤ 0; decide)⟩
        · clear o9
          rw [hσ_53, cc_316 hE.1 (fun z => by
            have q := z.2 hE.2.2
            rw [← y2, ← F.1 70 (by decide)] at q
            exact q50.2.mpr q c51)]
          rfl
  have hj150 : ∀ (l1 : Int32) (l2 : Int32) (τ : rS), ((l1 = a1 ∧ l2 = a2 ∧ frT shF shL σ τ ∧ shO τ ∧ shD σ a1) ∧ cb16 σ a1 = 0 ∧ (a1 = 2 → 0 ≤ a2 ∧ a2 < σ.1 71)) → w_show_150 C Q  l1 l2 τ := by
    rintro y150_1 y150_2 τ150 ⟨j150, hE⟩
    unfold w_show_150
    obtain ⟨y1, y2, F, H, D⟩ := j150
    refine ⟨fun c54 => ?_, fun c54 => ?_⟩
    · skip
      refine hj162 _ _ _ ?_
      · refine and_5 ?_ (fun o9 => ?_)  -- k32
        · clear h; exact ⟨y1, y2, F, H, D⟩
        · clear o9
          rw [y1] at c54
          exact ⟨hE.1, hE.2, Or.inl c54⟩
    · skip
      refine ⟨fun c55 => ?_, fun c55 => ?_⟩
      · skip
        intro σ_56 hσ_56
        refine hj181 _ _ _ ?_
        · refine and_5 ?_ (fun o9 => ?_)  -- k33
          · clear h; rw [hσ_56]
            rw [y1] at c54 c55
            exact ⟨y1, y2, frT_tr F (frT_0 (by decide)), shO_0 H, fun _ => ⟨D, fun z => z.elim (fun e => absurd e c54) (fun e => absurd e c55)⟩⟩
          · clear o9
            rw [y1] at c54 c55
            rw [hσ_56, cc_016 hE.1 ⟨hE.2, fun z => z.elim (fun e => absurd e c54) (fun e => absurd e c55)⟩]
            rfl
      · skip
        refine hj162 _ _ _ ?_
        · refine and_5 ?_ (fun o9 => ?_)  -- k34
          · clear h; exact ⟨y1, y2, F, H, D⟩
          · clear o9
            rw [y1] at c55
            exact ⟨hE.1, hE.2, Or.inr c55⟩
  have hj126 : ∀ (l1 : Int32) (l2 : Int32) (τ : rS), ((l1 = a1 ∧ l2 = a2 ∧ frT shF shL σ τ ∧ shO τ ∧ (τ.1 0 = 0 ∨ 0 < τ.1 0) ∧ (τ.1 0 = 0 → shD σ a1)) ∧ τ.1 0 = cb16 σ a1) → w_show_126 C Q  l1 l2 τ := by
    rintro y126_1 y126_2 τ126 ⟨j126, hE⟩
    unfold w_show_126
    obtain ⟨y1, y2, F, H, z0, D⟩ := j126
    refine ⟨fun c57 => ?_, fun c57 => ?_⟩
    · skip
      refine hj181 _ _ _ ?_
      · refine and_5 ?_ (fun o9 => ?_)  -- k35
        · clear h; refine ⟨y1, y2, F, H, fun z => ?_⟩
          rcases z0 with e | e
          · exact absurd e c57
          · exact absurd z (Int32.not_le.mpr e)
        · clear o9
          rw [cc_b16 (by rw [← hE]; exact c57)]
          exact hE
    · skip
      refine ⟨fun c58 => ?_, fun c58 => ?_⟩
      · skip
        refine hj150 _ _ _ ?_
        · refine and_5 ?_ (fun o9 => ?_)  -- k36
          · clear h; exact ⟨y1, y2, F, H, D c57⟩
          · clear o9
            rw [y1] at c58
            exact ⟨hE.symm.trans c57, fun e => absurd e c58⟩
      · skip
        refine isSlot_c hC  (fun r59 q61 => ?_)
        refine ⟨fun c62 => ?_, fun c62 => ?_⟩
        · skip
          intro σ_63 hσ_63
          refine hj181 _ _ _ ?_
          · refine and_5 ?_ (fun o9 => ?_)  -- k37
            · clear h; rw [hσ_63]
              exact ⟨y1, y2, frT_tr F (frT_0 (by decide)), shO_0 H, fun z => absurd z (by show ¬ (3 : Int32) ≤ 0; decide)⟩
            · clear o9
              rw [y1] at c58
              rw [hσ_63, cc_316 (hE.symm.trans c57) (fun z => by
                have q := z.1 c58
                rw [← y2, ← F.1 71 (by decide)] at q
                exact q61.2.mpr q c62)]
              rfl
        · skip
          refine hj150 _ _ _ ?_
          · refine and_5 ?_ (fun o9 => ?_)  -- k38
            · clear h; exact ⟨y1, y2, F, H, D c57⟩
            · clear o9
              have q := q61.2.mp c62
              rw [y2, F.1 71 (by decide)] at q
              exact ⟨hE.symm.trans c57, fun _ => q⟩
  have hj104 : ∀ (l1 : Int32) (l2 : Int32) (s1 : Int32) (τ : rS), ((l1 = a1 ∧ l2 = a2 ∧ frT shF shL σ τ ∧ shO τ ∧ τ.1 0 = 0 ∧ shC σ a1 ∧ ((a1 < 2 ∧ s1 = 6) ∨ (a1 = 10 ∧ s1 = 7))) ∧ ca16 σ a1 = 0) → w_show_104 C Q  l1 l2 s1 τ := by
    rintro y104_1 y104_2 y104_s1 τ104 ⟨j104, hE⟩
    unfold w_show_104
    obtain ⟨y1, y2, F, H, z0, Cc, kk⟩ := j104
    have P1 := pOK_T hO F (by decide) (by decide) (by decide)
    have P2 : s = (τ104.1 70).toNatClampNeg := by rw [F.1 70 (by decide)]; exact hs
    have P3 : ∀ k, k < s → vOK τ104 k := fun k hk => vOK_f (F.2.2.1 102 (by decide) (by decide)) (hv (Cc.2.2.1 (sh_lt (kk.imp (fun z => z.1) (fun z => z.1)))) k hk)
    have P4 : swQ τ104 = swQ σ := swQ_o (F.1 70 (by decide)) F.2.2.1
    refine sumWeights_c hC s ?_ (fun σ_64 q65 => ?_)
    · clear h; exact ⟨P1, P2, P3, fun z => absurd rfl z⟩  -- p39
    refine isZero_c hC  ?_ (fun r66 q68 => ?_)
    · clear h; exact ⟨by decide, by decide⟩  -- p40
    refine ⟨fun c69 => ?_, fun c69 => ?_⟩
    · skip
      intro σ_70 hσ_70
      refine hj126 _ _ _ ?_
      · refine and_5 ?_ (fun o9 => ?_)  -- k41
        · clear h; rw [P4] at q65
          have nz : swQ σ y104_s1 0 0 ≠ 0 := fun e => q68.2.mpr (hS_z q65.2.1 e) c69
          rw [hσ_70]
          refine ⟨y1, y2, frT_tr F (frT_tr (frT_S q65.1 (by decide) (sub_of rfl)) (frT_0 (by decide))), shO_0 (shO_S H q65.1 (by decide) (by decide)), Or.inl rfl, fun _ => ⟨Cc, fun lt => ?_, fun e10 => ?_⟩⟩
          · rcases kk with z | z
            · rw [← z.2]; exact nz
            · rw [z.1] at lt; exact absurd lt (by decide)
          · rcases kk with z | z
            · rw [e10] at z; exact absurd z.1 (by decide)
            · rw [← z.2]; exact nz
        · clear o9
          rw [P4] at q65
          have nz : swQ σ y104_s1 0 0 ≠ 0 := fun e => q68.2.mpr (hS_z q65.2.1 e) c69
          rw [hσ_70, cb_016 hE ⟨fun lt => by
            rcases kk with z | z
            · rw [← z.2]; exact nz
            · rw [z.1] at lt; exact absurd lt (by decide), fun e10 => by
            rcases kk with z | z
            · rw [e10] at z; exact absurd z.1 (by decide)
            · rw [← z.2]; exact nz⟩]
          rfl
    · skip
      intro σ_71 hσ_71
      refine hj126 _ _ _ ?_
      · refine and_5 ?_ (fun o9 => ?_)  -- k42
        · clear h; rw [hσ_71]
          exact ⟨y1, y2, frT_tr F (frT_tr (frT_S q65.1 (by decide) (sub_of rfl)) (frT_0 (by decide))), shO_0 (shO_S H q65.1 (by decide) (by decide)), Or.inr (by show (0 : Int32) < 2; decide), fun z => absurd z (by show ¬ (2 : Int32) = 0; decide)⟩
        · clear o9
          rw [P4] at q65
          have nz : swQ σ y104_s1 0 0 = 0 := hz_16 q65.2.1 (q68.2.mp c69)
          rw [hσ_71, cb_216 hE (fun w => by
            rcases kk with z | z
            · exact w.1 z.1 (by rw [← z.2]; exact nz)
            · exact w.2 z.1 (by rw [← z.2]; exact nz))]
          rfl
  have hj91 : ∀ (l1 : Int32) (l2 : Int32) (τ : rS), ((l1 = a1 ∧ l2 = a2 ∧ frT shF shL σ τ ∧ shO τ ∧ τ.1 0 = 0 ∧ shC σ a1 ∧ (a1 < 2 ∨ a1 = 10)) ∧ ca16 σ a1 = 0) → w_show_91 C Q  l1 l2 τ := by
    rintro y91_1 y91_2 τ91 ⟨j91, hE⟩
    unfold w_show_91
    obtain ⟨y1, y2, F, H, z0, Cc, kk⟩ := j91
    refine ⟨fun c72 => ?_, fun c72 => ?_⟩
    · skip
      refine hj104 _ _ _ _ ?_
      · refine and_5 ?_ (fun o9 => hE)  -- k43
        clear h; rw [y1] at c72
        exact ⟨y1, y2, F, H, z0, Cc, Or.inr ⟨kk.resolve_left (fun z => absurd z (Int32.not_lt.mpr c72)), rfl⟩⟩
    · skip
      refine hj104 _ _ _ _ ?_
      · refine and_5 ?_ (fun o9 => hE)  -- k44
        clear h; rw [y1] at c72
        exact ⟨y1, y2, F, H, z0, Cc, Or.inl ⟨Int32.not_le.mp c72, rfl⟩⟩
  have hj70 : ∀ (l1 : Int32) (l2 : Int32) (s1 : Int32) (τ : rS), ((l1 = a1 ∧ l2 = a2 ∧ τ = σ ∧ (s1 = 0 ∨ 0 < s1) ∧ (s1 = 0 → shC σ a1)) ∧ s1 = ca16 σ a1) → w_show_70 C Q  l1 l2 s1 τ := by
    rintro y70_1 y70_2 y70_s1 τ70 ⟨j70, hE⟩
    unfold w_show_70
    intro σ_73 hσ_73
    obtain ⟨y1, y2, e, z0, Cc⟩ := j70
    have F : frT shF shL σ σ_73 := by rw [hσ_73, e]; exact frT_0 (by decide)
    have H : shO σ_73 := by rw [hσ_73, e]; exact shO_0 hh
    have e0 : σ_73.1 0 = y70_s1 := by rw [hσ_73]; rfl
    refine ⟨fun c74 => ?_, fun c74 => ?_⟩
    · skip
      refine hj126 _ _ _ ?_
      · refine and_5 ?_ (fun o9 => ?_)  -- k45
        · clear h; exact ⟨y1, y2, F, H, by rw [e0]; exact z0, fun z => absurd z c74⟩
        · clear o9
          rw [e0, cb_a16 (by rw [← hE, ← e0]; exact c74)]
          exact hE
    · skip
      refine ⟨fun c75 => ?_, fun c75 => ?_⟩
      · skip
        refine hj91 _ _ _ ?_
        · refine and_5 ?_ (fun o9 => hE.symm.trans (e0.symm.trans c74))  -- k46
          clear h; exact ⟨y1, y2, F, H, c74, Cc (e0.symm.trans c74), Or.inl (by rw [← y1]; exact c75)⟩
      · skip
        refine ⟨fun c76 => ?_, fun c76 => ?_⟩
        · skip
          refine hj126 _ _ _ ?_
          · refine and_5 ?_ (fun o9 => ?_)  -- k47
            · clear h; rw [y1] at c75 c76
              exact ⟨y1, y2, F, H, Or.inl c74, fun _ => ⟨Cc (e0.symm.trans c74), fun lt => absurd lt c75, fun e => absurd e c76⟩⟩
            · clear o9
              rw [y1] at c75 c76
              rw [c74, cb_016 (hE.symm.trans (e0.symm.trans c74)) ⟨fun lt => absurd lt c75, fun e => absurd e c76⟩]
        · skip
          refine hj91 _ _ _ ?_
          · refine and_5 ?_ (fun o9 => hE.symm.trans (e0.symm.trans c74))  -- k48
            clear h; exact ⟨y1, y2, F, H, c74, Cc (e0.symm.trans c74), Or.inr (by rw [← y1]; exact c76)⟩
  refine within_c hC  (fun r77 q79 => ?_)
  refine ⟨fun c80 => ?_, fun c80 => ?_⟩
  · skip
    refine ⟨fun c81 => ?_, fun c81 => ?_⟩
    · skip
      refine ⟨fun c82 => ?_, fun c82 => ?_⟩
      · skip
        refine ⟨fun c83 => ?_, fun c83 => ?_⟩
        · skip
          refine hj70 _ _ _ _ ?_
          · refine and_5 ?_ (fun o9 => (ca_016 (q79.2.mp c80) ⟨fun _ => c83, fun e => absurd e c82, fun lt => absurd lt (Int32.not_lt.mpr c81), (q79.2.mp c80).2⟩).symm)  -- k49
            clear h; exact ⟨rfl, rfl, rfl, Or.inl rfl, fun _ => ⟨fun _ => c83, fun e => absurd e c82, fun lt => absurd lt (Int32.not_lt.mpr c81), (q79.2.mp c80).2⟩⟩
        · skip
          refine hj70 _ _ _ _ ?_
          · refine and_5 ?_ (fun o9 => (ca_216 (q79.2.mp c80) (fun z => z.1 (sh_e16r c81 (q79.2.mp c80).2 c82) c83)).symm)  -- k50
            clear h; exact ⟨rfl, rfl, rfl, Or.inr (by decide), fun z => absurd z (by decide)⟩
      · skip
        refine ⟨fun c84 => ?_, fun c84 => ?_⟩
        · skip
          refine hj70 _ _ _ _ ?_
          · refine and_5 ?_ (fun o9 => (ca_216 (q79.2.mp c80) (fun z => z.2.1 c82 c84)).symm)  -- k51
            clear h; exact ⟨rfl, rfl, rfl, Or.inr (by decide), fun z => absurd z (by decide)⟩
        · skip
          refine hj70 _ _ _ _ ?_
          · refine and_5 ?_ (fun o9 => (ca_016 (q79.2.mp c80) ⟨fun e => absurd (c82.symm.trans e) (by decide), fun _ => c84, fun lt => absurd lt (Int32.not_lt.mpr c81), (q79.2.mp c80).2⟩).symm)  -- k52
            clear h; exact ⟨rfl, rfl, rfl, Or.inl rfl, fun _ => ⟨fun e => absurd (c82.symm.trans e) (by decide), fun _ => c84, fun lt => absurd lt (Int32.not_lt.mpr c81), (q79.2.mp c80).2⟩⟩
    · skip
      refine ⟨fun c85 => ?_, fun c85 => ?_⟩
      · skip
        refine hj70 _ _ _ _ ?_
        · refine and_5 ?_ (fun o9 => (ca_216 (q79.2.mp c80) (fun z => z.2.2.1 (Int32.not_le.mp c81) c85)).symm)  -- k53
          clear h; exact ⟨rfl, rfl, rfl, Or.inr (by decide), fun z => absurd z (by decide)⟩
      · skip
        refine hj70 _ _ _ _ ?_
        · refine and_5 ?_ (fun o9 => (ca_016 (q79.2.mp c80) ⟨fun e => absurd (by rw [e]; decide) c81, fun e => absurd (by rw [e]; decide) c81, fun _ => c85, (q79.2.mp c80).2⟩).symm)  -- k54
          clear h; exact ⟨rfl, rfl, rfl, Or.inl rfl, fun _ => ⟨fun e => absurd (by rw [e]; decide) c81, fun e => absurd (by rw [e]; decide) c81, fun _ => c85, (q79.2.mp c80).2⟩⟩
  · skip
    refine hj70 _ _ _ _ ?_
    · refine and_5 ?_ (fun o9 => (ca_116 (fun z => q79.2.mpr z c80)).symm)  -- k55
      clear h; exact ⟨rfl, rfl, rfl, Or.inr (by decide), fun z => absurd z (by decide)⟩

end
