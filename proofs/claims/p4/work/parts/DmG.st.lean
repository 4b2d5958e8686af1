set_option maxHeartbeats 1600000
/-! operators that wait, on both sides, as lists (the latest first) -/
def z05 : rS := (fun _ => 0, fun _ => 0, fun _ _ => 0, fun _ _ => 0)
def rk5 (s : Int32) : Int32 := g5_rank s z05
theorem rk_5 {s : Int32} {σ : rS} : g5_rank s σ = rk5 s := rfl
def stk5 (row : Nat → Int32) : List Int32 → Prop
  | [] => True
  | x :: r => row r.length = x ∧ stk5 row r
theorem stk_e5 {row row' : Nat → Int32} : ∀ {L : List Int32}, (∀ i, i < L.length → row' i = row i) → stk5 row L → stk5 row' L
  | [], _, _ => trivial
  | x :: r, h, s => ⟨by rw [h r.length (by rw [List.length_cons]; omega)]; exact s.1, stk_e5 (fun i hi => h i (by rw [List.length_cons]; omega)) s.2⟩
def wC5 (e : E5) (C : List Int32) : Prop := e.1 paWaits = Int32.ofNat C.length ∧ stk5 (e.2.1 paWaiting) C
def wS5 (σ : rS) (S : List Int32) : Prop := σ.1 48 = Int32.ofNat S.length ∧ stk5 (σ.2.2.1 50) S
/-- a sign with no operands yet, a bracket, an operator -/
def un5 (s : Int32) : Prop := s = 1000 ∨ s = 1001
def wr5 (c s : Int32) : Prop := (f5_Pa_rankOf c = 6 ∧ rk5 s = 0 ∧ un5 s) ∨ (f5_Pa_rankOf c = 0 ∧ rk5 s = 0 ∧ ((c = 100 ∧ s = 40) ∨ (c ≠ 100 ∧ s = 91))) ∨ (0 < (rk5 s).toInt ∧ (rk5 s).toInt ≤ 5 ∧ f5_Pa_rankOf c = rk5 s ∧ ¬ un5 s ∧ s ≠ 40 ∧ s ≠ 91)
def a25 : List Int32 → List Int32 → Prop
  | [], [] => True
  | c :: C, s :: S => wr5 c s ∧ a25 C S
  | _, _ => False
def nu5 : List Int32 → Prop
  | [] => True
  | s :: _ => ¬ un5 s
/-- below an operator that waits there is no sign without its operand -/
def wf5 : List Int32 → Prop
  | [] => True
  | s :: r => (0 < (rk5 s).toInt → nu5 r) ∧ wf5 r
def bk5 : List Int32 → Nat
  | [] => 0
  | s :: r => (if s = 40 ∨ s = 91 then 1 else 0) + bk5 r
def un6 : List Int32 → Prop
  | [] => True
  | c :: r => f5_Pa_rankOf c = 6 ∧ un6 r
def drC5 (r : Int32) : List Int32 → List Int32
  | [] => []
  | c :: C => if f5_Pa_rankOf c < r then c :: C else drC5 r C
def drR5 (r : Int32) : List Int32 → List Int32
  | [] => []
  | s :: S => if rk5 s < r then s :: S else if rk5 s ≤ 0 then s :: S else drR5 r S
def drU5 : List Int32 → List Int32
  | [] => []
  | s :: S => if s = 1000 ∨ s = 1001 then drU5 S else s :: S
theorem a2_l5 : ∀ {C S : List Int32}, a25 C S → C.length = S.length
  | [], [], _ => rfl
  | _ :: _, _ :: _, h => by rw [List.length_cons, List.length_cons, a2_l5 h.2]
  | [], _ :: _, h => h.elim
  | _ :: _, [], h => h.elim
theorem dC_l5 {r : Int32} : ∀ {C : List Int32}, (drC5 r C).length ≤ C.length
  | [] => Nat.le_refl _
  | c :: C => by
    unfold drC5
    by_cases h : f5_Pa_rankOf c < r
    · rw [if_pos h]; exact Nat.le_refl _
    · rw [if_neg h, List.length_cons]; have := dC_l5 (r := r) (C := C); omega
/-- operators settled: both lists alike -/
theorem dr_5 {r : Int32} (h1 : 1 ≤ r.toInt) (h5 : r.toInt ≤ 5) : ∀ {C S : List Int32}, a25 C S → wf5 S → nu5 S → a25 (drC5 r C) (drR5 r S) ∧ wf5 (drR5 r S) ∧ nu5 (drR5 r S) ∧ bk5 (drR5 r S) = bk5 S
  | [], [], _, _, _ => ⟨trivial, trivial, trivial, rfl⟩
  | c :: C, s :: S, h, w, n => by
    have k6 : (6 : Int32).toInt = 6 := rfl
    have k0 : (0 : Int32).toInt = 0 := rfl
    unfold drC5 drR5
    rcases h.1 with ⟨a, b, d⟩ | ⟨a, b, d⟩ | ⟨a, b, d, f, g, i⟩
    · exact absurd d n
    · rw [a, b, if_pos (by rw [lti, k0]; omega), if_pos (by rw [lti, k0]; omega)]
      exact ⟨h, w, n, rfl⟩
    · rw [d]
      by_cases z : rk5 s < r
      · rw [if_pos z, if_pos z]
        exact ⟨h, w, n, rfl⟩
      · rw [if_neg z, if_neg z, if_neg (by rw [lei, k0]; omega)]
        obtain ⟨q1, q2, q3, q4⟩ := dr_5 h1 h5 h.2 w.2 (w.1 a)
        refine ⟨q1, q2, q3, ?_⟩
        rw [q4]
        show _ = (if s = 40 ∨ s = 91 then 1 else 0) + bk5 S
        rw [if_neg (fun q => by rcases q with q | q; exact g q; exact i q)]
        omega
  | [], _ :: _, h, _, _ => h.elim
  | _ :: _, [], h, _, _ => h.elim
theorem dr_U5 {r : Int32} (h5 : r.toInt ≤ 5) : ∀ {U C : List Int32}, un6 U → drC5 r (U ++ C) = drC5 r C
  | [], _, _ => rfl
  | c :: U, C, h => by
    have k6 : (6 : Int32).toInt = 6 := rfl
    show (if f5_Pa_rankOf c < r then _ else drC5 r (U ++ C)) = _
    rw [h.1, if_neg (by rw [lti, k6]; omega)]
    exact dr_U5 h5 h.2
/-- signs turned: what the class still holds in front -/
theorem dU_5 : ∀ {C S : List Int32}, a25 C S → wf5 S → ∃ U C', C = U ++ C' ∧ un6 U ∧ a25 C' (drU5 S) ∧ wf5 (drU5 S) ∧ nu5 (drU5 S) ∧ bk5 (drU5 S) = bk5 S
  | [], [], _, _ => ⟨[], [], rfl, trivial, trivial, trivial, trivial, rfl⟩
  | c :: C, s :: S, h, w => by
    unfold drU5
    by_cases z : s = 1000 ∨ s = 1001
    · rw [if_pos z]
      obtain ⟨U, C', q1, q2, q3, q4, q5, q6⟩ := dU_5 h.2 w.2
      have hc : f5_Pa_rankOf c = 6 := by
        rcases h.1 with ⟨a, _⟩ | ⟨_, _, d⟩ | ⟨_, _, _, f, _⟩
        · exact a
        · rcases d with ⟨_, d⟩ | ⟨_, d⟩ <;> rw [d] at z <;> exact absurd z (by decide)
        · exact absurd z f
      refine ⟨c :: U, C', by rw [q1]; rfl, ⟨hc, q2⟩, q3, q4, q5, ?_⟩
      rw [q6]
      show _ = (if s = 40 ∨ s = 91 then 1 else 0) + bk5 S
      rw [if_neg (fun q => by rcases z with z | z <;> rw [z] at q <;> exact absurd q (by decide))]
      omega
    · rw [if_neg z]
      exact ⟨[], c :: C, rfl, trivial, h, w, z, rfl⟩
  | [], _ :: _, h, _ => h.elim
  | _ :: _, [], h, _ => h.elim
/-- frames: what isn't looked at by the states' likeness -/
def fe5 (e e' : E5) : Prop := tq5 e' = tq5 e ∧ gE5 e' = gE5 e ∧ e'.1 paAt = e.1 paAt ∧ e'.1 paKind = e.1 paKind ∧ e'.1 paOpen = e.1 paOpen
def fs5 (σ σ' : rS) : Prop := sx5 σ' = sx5 σ ∧ gS5 σ' = gS5 σ ∧ σ'.1 2 = σ.1 2 ∧ σ'.1 10 = σ.1 10 ∧ σ'.1 11 = σ.1 11 ∧ σ'.1 46 = σ.1 46 ∧ σ'.1 47 = σ.1 47 ∧ σ'.1 13 = σ.1 13
theorem fe_r5 {e : E5} : fe5 e e := ⟨rfl, rfl, rfl, rfl, rfl⟩
theorem fs_r5 {σ : rS} : fs5 σ σ := ⟨rfl, rfl, rfl, rfl, rfl, rfl, rfl, rfl⟩
theorem fe_t5 {e f g : E5} (h : fe5 e f) (k : fe5 f g) : fe5 e g := ⟨k.1.trans h.1, k.2.1.trans h.2.1, k.2.2.1.trans h.2.2.1, k.2.2.2.1.trans h.2.2.2.1, k.2.2.2.2.trans h.2.2.2.2⟩
theorem fs_t5 {e f g : rS} (h : fs5 e f) (k : fs5 f g) : fs5 e g := ⟨k.1.trans h.1, k.2.1.trans h.2.1, k.2.2.1.trans h.2.2.1, k.2.2.2.1.trans h.2.2.2.1, k.2.2.2.2.1.trans h.2.2.2.2.1, k.2.2.2.2.2.1.trans h.2.2.2.2.2.1, k.2.2.2.2.2.2.1.trans h.2.2.2.2.2.2.1, k.2.2.2.2.2.2.2.trans h.2.2.2.2.2.2.2⟩
theorem lr_fe5 {T : T5} {X : X5} {Bk N a l : Nat} {Z : Int32} {V : V5} {W : W5} {e e' : E5} {σ σ' : rS} (L : LR5 T X Bk N Z V W a l e σ) (h : fe5 e e') (k : fs5 σ σ') : LR5 T X Bk N Z V W a l e' σ' := by
  obtain ⟨h1, h2, h3, h4, h5⟩ := h
  obtain ⟨k1, k2, k3, k4, k5, k6, k7, k8⟩ := k
  refine ⟨⟨h1.trans L.1.1, k1.trans L.1.2.1, k3.trans L.1.2.2⟩, ⟨h2.trans L.2.1.1, k2.trans L.2.1.2⟩, ⟨L.2.2.1.1, h3.trans L.2.2.1.2.1, k4.trans L.2.2.1.2.2.1, h4.trans L.2.2.1.2.2.2.1, L.2.2.1.2.2.2.2⟩, ⟨k5.trans L.2.2.2.1.1, k6.trans L.2.2.2.1.2.1, k7.trans L.2.2.2.1.2.2⟩, ⟨?_, ?_⟩⟩
  · rw [k8, h5]; exact L.2.2.2.2.1
  · rw [h5]; exact L.2.2.2.2.2
theorem lr_l5 {T : T5} {X : X5} {Bk N a l m : Nat} {Z : Int32} {V : V5} {W : W5} {e : E5} {σ : rS} (L : LR5 T X Bk N Z V W a l e σ) (h : m ≤ l) : LR5 T X Bk N Z V W a m e σ := ⟨L.1, L.2.1, L.2.2.1, L.2.2.2.1, L.2.2.2.2.1, by have := L.2.2.2.2.2; omega⟩
theorem tp_5 {σ : rS} {s : Int32} {S : List Int32} (h : wS5 σ (s :: S)) (hl : S.length ≤ 1000000) : g5_top σ = s ∧ (σ.1 48 - 1).toNatClampNeg = S.length ∧ σ.1 48 - 1 = Int32.ofNat S.length := by
  have e0 : σ.1 48 = Int32.ofNat (S.length + 1) := h.1
  have l0 := ofn_i (n := S.length + 1) (by omega)
  have l1 := ofn_i (n := S.length) (by omega)
  have e1 : σ.1 48 - 1 = Int32.ofNat S.length := by
    apply Int32.toInt_inj.mp
    rw [e0, sub_i (by rw [t1i]; omega) (by rw [t1i]; omega), l0, l1, t1i]
    omega
  have e2 : (σ.1 48 - 1).toNatClampNeg = S.length := by rw [e1, cl_5 (by omega)]
  refine ⟨?_, e2, e1⟩
  unfold g5_top
  rw [if_neg (by rw [e0, lei, l0, t0i]; omega), e2]
  exact h.2.1
theorem tp_05 {σ : rS} (h : wS5 σ []) : g5_top σ = 0 := by
  unfold g5_top
  have e0 : σ.1 48 = Int32.ofNat 0 := h.1
  rw [if_pos (by rw [e0]; decide)]
/-- the reference settles -/
theorem se_m5 {r : Int32} (h1 : 1 ≤ r.toInt) : ∀ (m : Nat) (S : List Int32) (σ : rS), wS5 σ S → S.length ≤ 1000000 → S.length < m → σ.1 11 = 0 → σ.1 46 = 0 → σ.1 47 = 0 → fs5 σ (g5_settle_0 m r σ) ∧ wS5 (g5_settle_0 m r σ) (drR5 r S)
  | 0, _, _, _, _, h, _, _, _ => absurd h (by omega)
  | m + 1, [], σ, w, _, _, f0, f1, f2 => by
    have go : g5_goesOn σ = 1 := by
      unfold g5_goesOn g5_isRight
      dsimp only [pb5]
      rw [if_pos f0, if_neg (by decide), if_pos f2]
    have k : rk5 0 = 0 := by decide
    rw [g5_settle_0]
    dsimp only [pb5]
    rw [go, if_neg (by decide), tp_05 w, rk_5, k, if_pos (by rw [lti, t0i]; omega)]
    exact ⟨fs_r5, w⟩
  | m + 1, s :: S, σ, w, hl, hm, f0, f1, f2 => by
    have go : g5_goesOn σ = 1 := by
      unfold g5_goesOn g5_isRight
      dsimp only [pb5]
      rw [if_pos f0, if_neg (by decide), if_pos f2]
    rw [List.length_cons] at hl hm
    obtain ⟨t1, t2, t3⟩ := tp_5 w (by omega)
    rw [g5_settle_0]
    dsimp only [pb5]
    rw [go, if_neg (by decide), t1, rk_5]
    unfold drR5
    by_cases z : rk5 s < r
    · rw [if_pos z, if_pos z]
      exact ⟨fs_r5, w⟩
    · rw [if_neg z, if_neg z]
      by_cases y : rk5 s ≤ 0
      · rw [if_pos y, if_pos y]
        exact ⟨fs_r5, w⟩
      · rw [if_neg y, if_neg y]
        have ap : g5_apply σ = siU (siU σ 48 (σ.1 48 - 1)) 49 (σ.1 49 - 1) := by
          unfold g5_apply
          dsimp only [pb5]
          exact if_pos f1
        rw [ap]
        obtain ⟨q1, q2⟩ := se_m5 h1 m S (siU (siU σ 48 (σ.1 48 - 1)) 49 (σ.1 49 - 1)) ⟨t3, w.2.2⟩ (by omega) (by omega) f0 f1 f2
        exact ⟨fs_t5 (⟨rfl, rfl, rfl, rfl, rfl, rfl, rfl, rfl⟩ : fs5 σ (siU (siU σ 48 (σ.1 48 - 1)) 49 (σ.1 49 - 1))) q1, q2⟩
theorem se_5 {r : Int32} {S : List Int32} {σ : rS} (h1 : 1 ≤ r.toInt) (w : wS5 σ S) (hl : S.length ≤ 1000000) (f0 : σ.1 11 = 0) (f1 : σ.1 46 = 0) (f2 : σ.1 47 = 0) : fs5 σ (g5_settle r σ) ∧ wS5 (g5_settle r σ) (drR5 r S) := by
  unfold g5_settle
  exact se_m5 h1 fu5 S σ w hl (by unfold fu5; omega) f0 f1 f2
/-- the reference turns -/
theorem tu_m5 : ∀ (m : Nat) (S : List Int32) (σ : rS), wS5 σ S → S.length ≤ 1000000 → S.length < m → fs5 σ (g5_turn_0 m σ) ∧ wS5 (g5_turn_0 m σ) (drU5 S)
  | 0, _, _, _, _, h => absurd h (by omega)
  | m + 1, [], σ, w, _, _ => by
    rw [g5_turn_0]
    dsimp only [pb5]
    rw [tp_05 w, if_neg (by decide), if_neg (by decide)]
    exact ⟨fs_r5, w⟩
  | m + 1, s :: S, σ, w, hl, hm => by
    rw [List.length_cons] at hl hm
    obtain ⟨t1, t2, t3⟩ := tp_5 w (by omega)
    have st : ∀ (i : Nat) (x : Int32), fs5 σ (g5_turn_0 m (siU (riU σ 52 i x) 48 ((riU σ 52 i x).1 48 - 1))) ∧ wS5 (g5_turn_0 m (siU (riU σ 52 i x) 48 ((riU σ 52 i x).1 48 - 1))) (drU5 S) := fun i x => by
      obtain ⟨q1, q2⟩ := tu_m5 m S (siU (riU σ 52 i x) 48 ((riU σ 52 i x).1 48 - 1)) ⟨t3, w.2.2⟩ (by omega) (by omega)
      exact ⟨fs_t5 (⟨rfl, rfl, rfl, rfl, rfl, rfl, rfl, rfl⟩ : fs5 σ (siU (riU σ 52 i x) 48 ((riU σ 52 i x).1 48 - 1))) q1, q2⟩
    have t20 : (s = 1000 ∨ s = 1001) → ∃ (i : Nat) (x : Int32), g5_turn_20 (g5_turn_0 m) σ = g5_turn_0 m (siU (riU σ 52 i x) 48 ((riU σ 52 i x).1 48 - 1)) := fun _ => by
      unfold g5_turn_20 g5_turn_69
      dsimp only [pb5]
      rw [t1]
      by_cases c : s = 1000
      · rw [if_pos c]
        by_cases d : σ.2.2.1 52 (σ.1 49 - 1).toNatClampNeg = 0
        · rw [if_pos d]; exact ⟨_, _, rfl⟩
        · rw [if_neg d]; exact ⟨_, _, rfl⟩
      · rw [if_neg c]; exact ⟨_, _, rfl⟩
    rw [g5_turn_0]
    dsimp only [pb5]
    rw [t1]
    unfold drU5
    by_cases c : s = 1000
    · obtain ⟨i, x, q⟩ := t20 (Or.inl c)
      rw [if_pos c, if_pos (Or.inl c), q]
      exact st i x
    · by_cases d : s = 1001
      · obtain ⟨i, x, q⟩ := t20 (Or.inr d)
        rw [if_neg c, if_pos d, if_pos (Or.inr d), q]
        exact st i x
      · rw [if_neg c, if_neg d, if_neg (fun q => by rcases q with q | q; exact c q; exact d q)]
        exact ⟨fs_r5, w⟩
theorem tu_5 {S : List Int32} {σ : rS} (w : wS5 σ S) (hl : S.length ≤ 1000000) : fs5 σ (g5_turn σ) ∧ wS5 (g5_turn σ) (drU5 S) := by
  unfold g5_turn
  exact tu_m5 fu5 S σ w hl (by unfold fu5; omega)
theorem ps_5 {S : List Int32} {σ : rS} {x : Int32} (w : wS5 σ S) (hl : S.length ≤ 1000000) : fs5 σ (g5_push x σ) ∧ wS5 (g5_push x σ) (drU5 S) := by
  unfold g5_push
  dsimp only [pb5]
  obtain ⟨q1, q2⟩ := tu_5 (σ := siU (riU σ 52 (σ.1 49).toNatClampNeg x) 49 ((riU σ 52 (σ.1 49).toNatClampNeg x).1 49 + 1)) (S := S) w hl
  exact ⟨fs_t5 (⟨rfl, rfl, rfl, rfl, rfl, rfl, rfl, rfl⟩ : fs5 σ (siU (riU σ 52 (σ.1 49).toNatClampNeg x) 49 ((riU σ 52 (σ.1 49).toNatClampNeg x).1 49 + 1))) q1, q2⟩
theorem hoS_5 {S : List Int32} {σ : rS} {x y : Int32} (w : wS5 σ S) (hl : S.length ≤ 1000000) : fs5 σ (g5_hold x y σ) ∧ wS5 (g5_hold x y σ) (x :: S) := by
  unfold g5_hold
  dsimp only [pb5]
  have e0 : (σ.1 48).toNatClampNeg = S.length := by rw [w.1, cl_5 (by omega)]
  refine ⟨⟨rfl, rfl, rfl, rfl, rfl, rfl, rfl, rfl⟩, ?_, ?_, ?_⟩
  · show σ.1 48 + 1 = Int32.ofNat (S.length + 1)
    rw [w.1, on_15 (by omega)]
  · show (riU (riU σ 50 (σ.1 48).toNatClampNeg x) 51 (σ.1 48).toNatClampNeg y).2.2.1 50 S.length = x
    rw [ri34, if_neg (by decide), ri34, if_pos rfl, e0, if_pos rfl]
  · refine stk_e5 (fun i hi => ?_) w.2
    show (riU (riU σ 50 (σ.1 48).toNatClampNeg x) 51 (σ.1 48).toNatClampNeg y).2.2.1 50 i = σ.2.2.1 50 i
    rw [ri34, if_neg (by decide), ri34, if_pos rfl, e0, if_neg (by omega)]
/-- the class lays down -/
theorem em_m5 {r : Int32} : ∀ (m : Nat) (C : List Int32) (e : E5), wC5 e C → C.length ≤ 1000000 → f5_Pa_emitWaiting_0 m r e = .inr (0, 0) ∨ ∃ e', f5_Pa_emitWaiting_0 m r e = .inl (e', ()) ∧ fe5 e e' ∧ wC5 e' (drC5 r C)
  | 0, _, _, _, _ => Or.inl rfl
  | m + 1, [], e, w, _ => by
    refine Or.inr ⟨e, ?_, fe_r5, w⟩
    have e0 : e.1 paWaits = Int32.ofNat 0 := w.1
    rw [f5_Pa_emitWaiting_0, if_pos (by rw [e0]; decide)]
  | m + 1, c :: C, e, w, hl => by
    rw [List.length_cons] at hl
    have e0 : e.1 paWaits = Int32.ofNat (C.length + 1) := w.1
    have l0 := ofn_i (n := C.length + 1) (by omega)
    have l1 := ofn_i (n := C.length) (by omega)
    have e1 : e.1 paWaits - 1 = Int32.ofNat C.length := by
      apply Int32.toInt_inj.mp
      rw [e0, sub_i (by rw [t1i]; omega) (by rw [t1i]; omega), l0, l1, t1i]
      omega
    have e3 : e.2.1 paWaiting (e.1 paWaits - 1).toNatClampNeg = c := by rw [e1, cl_5 (by omega)]; exact w.2.1
    rw [f5_Pa_emitWaiting_0, if_neg (by rw [e0, lei, l0, t0i]; omega), e3]
    dsimp only [pb5]
    unfold drC5
    by_cases z : f5_Pa_rankOf c < r
    · rw [if_pos z, if_pos z]
      exact Or.inr ⟨e, rfl, fe_r5, w⟩
    · rw [if_neg z, if_neg z, e1]
      have key : ∀ e2 : E5, fe5 e e2 → wC5 e2 C → f5_Pa_emitWaiting_0 m r e2 = .inr (0, 0) ∨ ∃ e', f5_Pa_emitWaiting_0 m r e2 = .inl (e', ()) ∧ fe5 e e' ∧ wC5 e' (drC5 r C) := fun e2 hf hw => by
        rcases em_m5 m C e2 hw (by omega) with q | ⟨e', q1, q2, q3⟩
        · exact Or.inl q
        · exact Or.inr ⟨e', q1, fe_t5 hf q2, q3⟩
      refine key _ ⟨rfl, rfl, rfl, rfl, rfl⟩ ⟨rfl, stk_e5 (fun i hi => ?_) w.2.2⟩
      show (if 1015 = 1015 ∧ ¬ i < (Int32.ofNat C.length).toNatClampNeg then (0 : Int32) else e.2.1 1015 i) = e.2.1 1015 i
      rw [cl_5 (by omega), if_neg (fun q => q.2 hi)]
theorem emC_5 {r : Int32} {C : List Int32} {e : E5} (w : wC5 e C) (hl : C.length ≤ 1000000) : f5_Pa_emitWaiting r e = .inr (0, 0) ∨ ∃ e', f5_Pa_emitWaiting r e = .inl (e', ()) ∧ fe5 e e' ∧ wC5 e' (drC5 r C) := em_m5 fu5 C e w hl
theorem hC_5 {C : List Int32} {e : E5} {x : Int32} (w : wC5 e C) (hl : C.length ≤ 1000000) : ∃ e', f5_Pa_hold x e = .inl (e', ()) ∧ fe5 e e' ∧ wC5 e' (x :: C) := by
  have e0 : (e.1 paWaits).toNatClampNeg = C.length := by rw [w.1, cl_5 (by omega)]
  refine ⟨_, rfl, ⟨rfl, rfl, rfl, rfl, rfl⟩, ?_, ?_, ?_⟩
  · show e.1 paWaits + 1 = Int32.ofNat (C.length + 1)
    rw [w.1, on_15 (by omega)]
  · show (if 1015 = 1015 ∧ C.length = (e.1 paWaits).toNatClampNeg then x else _) = x
    rw [e0, if_pos ⟨rfl, rfl⟩]
  · refine stk_e5 (fun i hi => ?_) w.2
    show (if 1015 = 1015 ∧ i = (e.1 paWaits).toNatClampNeg then x else e.2.1 1015 i) = e.2.1 1015 i
    rw [e0, if_neg (fun q => by omega)]
