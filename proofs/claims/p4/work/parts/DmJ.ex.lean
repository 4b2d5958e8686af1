set_option maxHeartbeats 1600000
/-! behind an operand; the whole expression -/
theorem dR_65 : ∀ {C S : List Int32}, a25 C S → drR5 6 S = S
  | [], [], _ => rfl
  | c :: C, s :: S, h => by
    have k6 : (6 : Int32).toInt = 6 := rfl
    have k0 : (0 : Int32).toInt = 0 := rfl
    unfold drR5
    rw [if_pos]
    rcases h.1 with ⟨_, b, _⟩ | ⟨_, b, _⟩ | ⟨_, b, _⟩
    · rw [b]; decide
    · rw [b]; decide
    · rw [lti, k6]; omega
  | [], _ :: _, h => h.elim
  | _ :: _, [], h => h.elim
/-- what stays behind settling all: a bracket or nothing -/
theorem dC_15 : ∀ {C : List Int32} {c : Int32} {C' : List Int32}, drC5 1 C = c :: C' → (f5_Pa_rankOf c).toInt < 1
  | [], _, _, h => by cases h
  | x :: C, c, C', h => by
    unfold drC5 at h
    by_cases z : f5_Pa_rankOf x < 1
    · rw [if_pos z] at h
      have e : x = c := (List.cons.inj h).1
      rw [e, lti, t1i] at z
      exact z
    · rw [if_neg z] at h
      exact dC_15 h
theorem wC_t5 {e : E5} {c : Int32} {C : List Int32} (w : wC5 e (c :: C)) (hl : C.length ≤ 1000000) : ¬ e.1 paWaits ≤ 0 ∧ e.1 paWaits - 1 = Int32.ofNat C.length ∧ e.2.1 paWaiting (e.1 paWaits - 1).toNatClampNeg = c := by
  have e0 : e.1 paWaits = Int32.ofNat (C.length + 1) := w.1
  have l0 := ofn_i (n := C.length + 1) (by omega)
  have l1 := ofn_i (n := C.length) (by omega)
  have e1 : e.1 paWaits - 1 = Int32.ofNat C.length := by
    apply Int32.toInt_inj.mp
    rw [e0, sub_i (by rw [t1i]; omega) (by rw [t1i]; omega), l0, l1, t1i]
    omega
  exact ⟨by rw [e0, lei, l0, t0i]; omega, e1, by rw [e1, cl_5 (by omega)]; exact w.2.1⟩
theorem wC_05 {e : E5} (w : wC5 e []) : e.1 paWaits ≤ 0 := by
  have e0 : e.1 paWaits = Int32.ofNat 0 := w.1
  rw [e0]; decide
theorem wC_s5 {e : E5} {c : Int32} {C : List Int32} (w : wC5 e (c :: C)) (hl : C.length ≤ 1000000) : ∃ e', sw5 (e.1 paWaits - 1) e = .inl (e', ()) ∧ fe5 e e' ∧ wC5 e' C := by
  obtain ⟨_, e1, _⟩ := wC_t5 w hl
  rw [e1]
  refine ⟨_, rfl, ⟨rfl, rfl, rfl, rfl, rfl⟩, rfl, stk_e5 (fun i hi => ?_) w.2.2⟩
  show (if 1015 = 1015 ∧ ¬ i < (Int32.ofNat C.length).toNatClampNeg then 0 else e.2.1 1015 i) = _
  rw [cl_5 (by omega), if_neg (fun q => q.2 hi)]
theorem go_465 {σ : rS} : (g5_go σ).1 46 = σ.1 46 := by
  unfold g5_go g5_readNext g5_flaw g5_flaw_23
  dsimp only [pb5]
  repeat' split
  all_goals rfl
theorem fl_465 {σ : rS} {x y : Int32} : (g5_flaw x y σ).1 46 = σ.1 46 := by
  unfold g5_flaw g5_flaw_23
  dsimp only [pb5]
  repeat' split
  all_goals rfl
theorem cl_465 {σ : rS} {c : Int32} : (g5_close c σ).1 46 = σ.1 46 := by
  unfold g5_close g5_close_18 g5_sign
  dsimp only [pb5]
  repeat' split
  all_goals first
    | (rw [fl_465]; rfl)
    | (rw [go_465]; rfl)
section
variable {T : T5} {X : X5} {Bk N : Nat} {Z : Int32} {V : V5} {W : W5} {a0 l a : Nat} {e : E5} {σ : rS}
theorem be_5 (H : TR5 T X Bk N Z) (L : LR5 T X Bk N Z V W a l e σ) : g5_behind σ = g5_behind_29 (if X.1 (Bk + a) = 3 then rk5 (X.2.2.1 (Bk + a)) else 0) σ := by
  unfold g5_behind
  dsimp only [pb5]
  rw [(lr_so5 H L).1, (lr_so5 H L).2.1, rk_5]
  by_cases c : X.1 (Bk + a) = 3
  · rw [if_pos c, if_pos c]
  · rw [if_neg c, if_neg c]
/-- an operator -/
theorem sr_bhB {U C S : List Int32} (H : TR5 T X Bk N Z) (E : es15 T X Bk N Z V W a0 l a U C S e σ) (hb : f5_Pa_binary (e.1 paKind) ≠ -1) : sr5 (fun e' _ σ' => (g5_behind σ).2 = 0 ∧ ∃ C' S', es05 T X Bk N Z V W a0 l (a + 1) C' S' e' σ') (f5_Pa_operator (f5_Pa_binary (e.1 paKind)) e) (g5_behind σ).1 ∨ (f5_Pa_operator (f5_Pa_binary (e.1 paKind)) e = .inr (2, T.2.2.1 a) ∧ (g5_behind σ).2 = 2 ∧ dcm5 T X Bk N a (g5_behind σ).1) := by
  obtain ⟨L, wc, hU, ws, ac, wf, nu, hl, h0, sc⟩ := E
  have h1 := H.1
  have ha := L.2.2.1.1
  have hbk := bk_l5 (S := S)
  have hls := a2_l5 ac
  have kT := lr_K5 L
  have hlen : (U ++ C).length = U.length + C.length := List.length_append
  have kd := lr_kd5 H L
  have hbp : X.1 (Bk + a) = 3 ∧ 0 < (rk5 (X.2.2.1 (Bk + a))).toInt ∧ (rk5 (X.2.2.1 (Bk + a))).toInt ≤ 5 ∧ f5_Pa_rankOf (f5_Pa_binary (e.1 paKind)) = rk5 (X.2.2.1 (Bk + a)) ∧ ¬ un5 (X.2.2.1 (Bk + a)) ∧ X.2.2.1 (Bk + a) ≠ 40 ∧ X.2.2.1 (Bk + a) ≠ 91 := by
    rcases bi_5 kd with ⟨q, w⟩ | ⟨_, w⟩
    · rcases w with w | w
      · exact absurd w.1 hb
      · exact ⟨q, w.2⟩
    · exact absurd w hb
  obtain ⟨b1, b2, b3, b4, b5, b6, b7⟩ := hbp
  have g1 := be_5 H L
  rw [if_pos b1] at g1
  generalize hr : rk5 (X.2.2.1 (Bk + a)) = r at *
  -- the rank that is settled
  have k142 : e.1 paKind ≠ 142 := fun q => hb (by rw [q]; decide)
  have step : ∀ s1 : Int32, 1 ≤ s1.toInt → s1.toInt ≤ 5 → (f5_Pa_operator (f5_Pa_binary (e.1 paKind)) e = f5_Pa_operator_16 (f5_Pa_binary (e.1 paKind)) r s1 e) → g5_behind σ = g5_behind_50 r s1 σ → (r = 3 → s1 = 4) → sr5 (fun e' _ σ' => (g5_behind σ).2 = 0 ∧ ∃ C' S', es05 T X Bk N Z V W a0 l (a + 1) C' S' e' σ') (f5_Pa_operator (f5_Pa_binary (e.1 paKind)) e) (g5_behind σ).1 ∨ (f5_Pa_operator (f5_Pa_binary (e.1 paKind)) e = .inr (2, T.2.2.1 a) ∧ (g5_behind σ).2 = 2 ∧ dcm5 T X Bk N a (g5_behind σ).1) := fun s1 q1 q2 q3 q4 q5 => by
    rw [q3, q4]
    unfold f5_Pa_operator_16 g5_behind_50
    dsimp only [pb5]
    obtain ⟨f1, f2⟩ := se_5 (r := s1) q1 ws (by omega) L.2.2.2.1.1 L.2.2.2.1.2.1 L.2.2.2.1.2.2
    obtain ⟨d1, d2, d3, d4⟩ := dr_5 q1 q2 ac wf nu
    have dl := a2_l5 d1
    have dl2 := dC_l5 (r := s1) (C := C)
    rcases emC_5 (r := s1) wc (by omega) with z | ⟨e1, z1, z2, z3⟩
    · rw [z]; exact Or.inl (Or.inl rfl)
    · rw [dr_U5 q2 hU] at z3
      rw [z1]
      generalize g5_settle s1 σ = σ1 at f1 f2 ⊢
      have L1 := lr_fe5 L z2 f1
      have hold : sr5 (fun e' _ σ' => (g5_behind_73 σ1).2 = 0 ∧ ∃ C' S', es05 T X Bk N Z V W a0 l (a + 1) C' S' e' σ') (f5_Pa_operator_58 (f5_Pa_binary (e.1 paKind)) e1) (g5_behind_73 σ1).1 := by
        unfold f5_Pa_operator_58 g5_behind_73
        dsimp only [pb5]
        obtain ⟨e2, p1, p2, p3⟩ := hC_5 (x := f5_Pa_binary (e.1 paKind)) z3 (by omega)
        rw [(lr_so5 H L1).2.1]
        obtain ⟨r1, r2⟩ := hoS_5 (x := X.2.2.1 (Bk + a)) (y := 0) f2 (by omega)
        rw [p1, rdl_5]
        have k2 : e2.1 paKind = e.1 paKind := p2.2.2.2.1.trans z2.2.2.2.1
        refine sr_b5 (sr_take H (lr_fe5 L1 p2 r1) (by rw [k2]; exact k142)) (fun e' _ n Q => ?_) kq_rf (fun p e' _ d => dq_i5 d)
        refine sr_i5 n ⟨rfl, f5_Pa_binary (e.1 paKind) :: drC5 s1 C, X.2.2.1 (Bk + a) :: drR5 s1 S, ?_⟩
        refine ⟨by rw [bk_n5 b6 b7, d4]; exact Q.1, wC_f5 p3 Q.2.1, wS_f5 r2 Q.2.2, ⟨Or.inr (Or.inr ⟨by rw [hr]; exact b2, by rw [hr]; exact b3, by rw [hr]; exact b4, b5, b6, b7⟩), d1⟩, ⟨fun _ => d3, d2⟩, by rw [List.length_cons]; omega, ?_⟩
        rw [bk_n5 b6 b7, d4]
        refine sc_n5 H sc ha (by omega) ?_ ?_
        · rw [kT]; exact ⟨fun q => hb (by rw [q]; decide), fun q => hb (by rw [q]; decide), fun q => hb (by rw [q]; decide), fun q => hb (by rw [q]; decide)⟩
        · rw [kT]; exact fun q => hb (by rw [q]; decide)
      rw [if_neg (show ¬ r ≤ 0 by rw [lei, t0i]; omega)]
      show sr5 _ (if r = 3 then _ else _) _ ∨ ((if r = 3 then _ else _) = _ ∧ _)
      by_cases c3 : r = 3
      · rw [if_pos c3, if_pos c3]
        cases hS : drR5 s1 S with
        | nil =>
          rw [hS] at f2 d1 dl
          have hC0 : drC5 s1 C = [] := List.eq_nil_of_length_eq_zero dl
          rw [hC0] at z3
          rw [if_pos (wC_05 z3), tp_05 f2, rk_5, if_neg (by decide)]
          exact Or.inl hold
        | cons s S' =>
          rw [hS] at f2 d1 dl d3
          cases hC : drC5 s1 C with
          | nil => rw [hC] at dl; exact absurd dl (by rw [List.length_cons]; exact (Nat.succ_ne_zero _).symm)
          | cons c C' =>
            rw [hC] at z3 d1 dl
            rw [List.length_cons, List.length_cons] at dl
            have cl2 : C'.length + 1 ≤ C.length := by rw [hC, List.length_cons] at dl2; exact dl2
            obtain ⟨w1, w2, w3⟩ := wC_t5 z3 (by omega)
            obtain ⟨t1, t2, t3⟩ := tp_5 f2 (by omega)
            rw [if_neg w1, w3, t1, rk_5]
            have same : f5_Pa_rankOf c = 3 ↔ rk5 s = 3 := by
              rcases d1.1 with ⟨x1, x2, _⟩ | ⟨x1, x2, _⟩ | ⟨_, _, x1, _⟩
              · rw [x1, x2]; decide
              · rw [x1, x2]
              · rw [x1]
            by_cases y : rk5 s = 3
            · rw [if_pos (same.mpr y), if_pos y]
              have hrv : rv5 2 (e1.1 paAt) e1 = (2, T.2.2.1 a) := lr_rva5 H L1
              rw [hrv]
              -- the reference goes on to a bracket or the end
              unfold g5_behind_93
              dsimp only [pb5]
              obtain ⟨j1, j2⟩ := se_5 (r := 1) (by decide) f2 (by rw [List.length_cons]; omega) L1.2.2.2.1.1 L1.2.2.2.1.2.1 L1.2.2.2.1.2.2
              obtain ⟨y1, y2, y3, y4⟩ := dr_5 (r := 1) (by decide) (by decide) d1 (by rw [hS] at d2; exact d2) d3
              generalize g5_settle 1 σ1 = σ2 at j1 j2 ⊢
              have L2 := lr_fe5 L1 fe_r5 j1
              rw [lr_go5 L2, if_neg ne105]
              have i41 := lr_at5 (c := 41) H L2 (by decide) (by decide)
              have i93 := lr_at5 (c := 93) H L2 (by decide) (by decide)
              have kk : e1.1 paKind = e.1 paKind := z2.2.2.2.1
              have n41 : ¬ e1.1 paKind = 41 := by rw [kk]; exact fun q => hb (by rw [q]; decide)
              have n93 : ¬ e1.1 paKind = 93 := by rw [kk]; exact fun q => hb (by rw [q]; decide)
              have dl3 := a2_l5 y1
              cases hS2 : drR5 1 (s :: S') with
              | nil =>
                rw [hS2] at j2
                have e48 : σ2.1 48 = 0 := j2.1
                rw [if_pos e48]
                refine Or.inr ⟨rfl, rfl, ha, L2.1.2.1, L2.2.2.2.1.1, L2.2.2.1.2.2.1, L2.2.2.1.2.2.2.2, ?_⟩
                rw [kT, b4, c3]
              | cons s2 S2 =>
                rw [hS2] at j2
                have hlen2 : S2.length ≤ 1000000 := by
                  rw [hS2] at dl3
                  have := dC_l5 (r := 1) (C := c :: C')
                  rw [List.length_cons] at dl3 this
                  omega
                obtain ⟨t4, t5, t6⟩ := tp_5 j2 hlen2
                have e48 : ¬ σ2.1 48 = 0 := fun q => by
                  have z0 := j2.1
                  rw [q, List.length_cons] at z0
                  have y0 := congrArg Int32.toInt z0
                  rw [ofn_i (by omega), t0i] at y0
                  omega
                rw [if_neg e48, t4]
                refine Or.inl ?_
                have clz : ∀ c9 : Int32, g5_isAt c9 σ2 = 0 → (g5_close c9 σ2).1 11 = 2 ∧ (g5_close c9 σ2).1 12 = T.2.2.1 a := fun c9 hc9 => by
                  have L3 : LR5 T X Bk N Z V W a (l + bk5 S) e1 (siU σ2 13 (σ2.1 13 - 0)) := lr_fe5 L2 fe_r5 ⟨rfl, rfl, rfl, rfl, rfl, rfl, rfl, by show σ2.1 13 - 0 = σ2.1 13; exact Int32.sub_zero _⟩
                  have e9 : g5_close c9 σ2 = g5_flaw 2 ((siU σ2 13 (σ2.1 13 - 0)).1 10) (siU σ2 13 (σ2.1 13 - 0)) := by
                    unfold g5_close g5_close_18 g5_sign
                    dsimp only [pb5]
                    rw [hc9, if_pos rfl]
                    have e8 : g5_isAt c9 (siU σ2 13 (σ2.1 13 - 0)) = g5_isAt c9 σ2 := rfl
                    rw [e8, hc9, if_pos rfl]
                  rw [e9]
                  exact lr_fl5 H L3
                by_cases q40 : s2 = 40
                · rw [if_pos q40]
                  exact sr_q5 (by decide) (clz 41 (by rw [i41, if_neg n41])).1 (clz 41 (by rw [i41, if_neg n41])).2 (kq_turn (kq_si (by decide) (by decide) kq_rf))
                · rw [if_neg q40]
                  have f3 := clz 93 (by rw [i93, if_neg n93])
                  have hg : g5_goesOn (siU (g5_close 93 σ2) 48 ((g5_close 93 σ2).1 48 - 1)) = 0 := by
                    unfold g5_goesOn g5_isRight
                    dsimp only [pb5]
                    rw [if_neg (show ¬ (siU (g5_close 93 σ2) 48 ((g5_close 93 σ2).1 48 - 1)).1 11 = 0 by
                      show ¬ (g5_close 93 σ2).1 11 = 0
                      rw [f3.1]; decide), if_pos rfl]
                  rw [hg, if_pos rfl]
                  exact sr_q5 (by decide) f3.1 f3.2 (kq_behind_245 (kq_si (by decide) (by decide) kq_rf))
            · rw [if_neg (fun q => y (same.mp q)), if_neg y]
              exact Or.inl hold
      · rw [if_neg c3, if_neg c3]
        exact Or.inl hold
  have fo : f5_Pa_operator (f5_Pa_binary (e.1 paKind)) e = if r = 3 then f5_Pa_operator_16 (f5_Pa_binary (e.1 paKind)) r 4 e else f5_Pa_operator_16 (f5_Pa_binary (e.1 paKind)) r r e := by
    unfold f5_Pa_operator
    dsimp only [pb5]
    rw [b4]
  unfold g5_behind_29 at g1
  by_cases c3 : r = 3
  · rw [if_pos c3] at fo g1
    exact step 4 (by decide) (by decide) fo g1 (fun _ => rfl)
  · rw [if_neg c3] at fo g1
    rw [if_neg (show ¬ r ≤ 0 by rw [lei, t0i]; omega)] at g1
    exact step r (by omega) b3 fo g1 (fun q => absurd q c3)
/-- no operator: a bracket closed, or the end -/
theorem sr_bhE {U C S : List Int32} (H : TR5 T X Bk N Z) (E : es15 T X Bk N Z V W a0 l a U C S e σ) (hb : f5_Pa_binary (e.1 paKind) = -1) : f5_Pa_emitWaiting 1 e = .inr (0, 0) ∨ ∃ e4, f5_Pa_emitWaiting 1 e = .inl (e4, ()) ∧ ((e4.1 paWaits ≤ 0 ∧ (g5_behind σ).2 = 2 ∧ LR5 T X Bk N Z V W a l e4 (g5_behind σ).1 ∧ a0 < a ∧ ∀ n, sc5 X Bk a0 a 0 n n) ∨ (¬ e4.1 paWaits ≤ 0 ∧ sr5 (fun e' _ σ' => (g5_behind σ).2 = 1 ∧ ∃ U' C' S', es15 T X Bk N Z V W a0 l (a + 1) U' C' S' e' σ') (f5_Pa_closeInner e4) (g5_behind σ).1)) := by
  obtain ⟨L, wc, hU, ws, ac, wf, nu, hl, h0, sc⟩ := E
  have h1 := H.1
  have ha := L.2.2.1.1
  have hbk := bk_l5 (S := S)
  have hls := a2_l5 ac
  have kT := lr_K5 L
  have hlen : (U ++ C).length = U.length + C.length := List.length_append
  have kd := lr_kd5 H L
  have hz : (if X.1 (Bk + a) = 3 then rk5 (X.2.2.1 (Bk + a)) else 0) = 0 := by
    rcases bi_5 kd with ⟨q, w⟩ | ⟨q, _⟩
    · rcases w with w | w
      · rw [if_pos q]; exact w.2
      · exact absurd hb w.1
    · rw [if_neg q]
  have g1 := be_5 H L
  rw [hz] at g1
  unfold g5_behind_29 at g1
  rw [if_neg (by decide), if_pos (by decide)] at g1
  unfold g5_behind_50 at g1
  dsimp only [pb5] at g1
  rw [if_pos (by decide)] at g1
  obtain ⟨f1, f2⟩ := se_5 (r := 6) (by decide) ws (by omega) L.2.2.2.1.1 L.2.2.2.1.2.1 L.2.2.2.1.2.2
  rw [dR_65 ac] at f2
  generalize g5_settle 6 σ = σ1 at f1 f2 g1
  have L1 := lr_fe5 L fe_r5 f1
  obtain ⟨j1, j2⟩ := se_5 (r := 1) (by decide) f2 (by omega) L1.2.2.2.1.1 L1.2.2.2.1.2.1 L1.2.2.2.1.2.2
  unfold g5_behind_93 at g1
  dsimp only [pb5] at g1
  generalize g5_settle 1 σ1 = σ2 at j1 j2 g1
  obtain ⟨d1, d2, d3, d4⟩ := dr_5 (r := 1) (by decide) (by decide) ac wf nu
  have dl := a2_l5 d1
  have dl2 := dC_l5 (r := 1) (C := C)
  rcases emC_5 (r := 1) wc (by omega) with z | ⟨e4, z1, z2, z3⟩
  · exact Or.inl z
  · rw [dr_U5 (by decide) hU] at z3
    refine Or.inr ⟨e4, z1, ?_⟩
    have L2 := lr_fe5 L1 z2 j1
    rw [lr_go5 L2, if_neg ne105] at g1
    have fin5 : ∀ (c : Int32) (C' : List Int32) (s : Int32) (S' : List Int32), drC5 1 C = c :: C' → drR5 1 S = s :: S' → (¬ e4.1 paWaits ≤ 0 ∧ sr5 (fun e' _ σ' => (g5_behind σ).2 = 1 ∧ ∃ U' C' S', es15 T X Bk N Z V W a0 l (a + 1) U' C' S' e' σ') (f5_Pa_closeInner e4) (g5_behind σ).1) := fun c C' s S' hC hS => by
      have rc := dC_15 hC
      rw [hC] at z3 d1 dl dl2
      rw [hS] at j2 d1 dl d2 d3 d4
      rw [List.length_cons, List.length_cons] at dl
      rw [List.length_cons] at dl2
      obtain ⟨w1, w2, w3⟩ := wC_t5 z3 (by omega)
      obtain ⟨t1, t2, t3⟩ := tp_5 j2 (by omega)
      refine ⟨w1, ?_⟩
      have e48 : ¬ σ2.1 48 = 0 := fun q => by
        have z0 := j2.1
        rw [q, List.length_cons] at z0
        have y0 := congrArg Int32.toInt z0
        rw [ofn_i (by omega), t0i] at y0
        omega
      rw [if_neg e48, t1] at g1
      have br : (c = 100 ∧ s = 40) ∨ (c ≠ 100 ∧ s = 91) := by
        have k6 : (6 : Int32).toInt = 6 := rfl
        rcases d1.1 with ⟨x1, _⟩ | ⟨_, _, x⟩ | ⟨x1, _, x2, _⟩
        · rw [x1, k6] at rc; omega
        · exact x
        · rw [x2] at rc; omega
      have bk' : bk5 S = bk5 S' + 1 := by
        rw [← d4]
        rcases br with ⟨_, x⟩ | ⟨_, x⟩ <;> rw [x]
        · exact bk_45
        · exact bk_95
      -- what is left when the bracket is closed
      have last : ∀ (c9 : Int32) (σ3 : rS), 0 < c9.toInt → c9.toInt < 128 → (c9 = 41 ∨ c9 = 93) → (g5_behind σ = (σ3, 1)) → kq5 (g5_close c9 σ2) σ3 → (∀ e' : E5, LR5 T X Bk N Z V W (a + 1) (l + bk5 S') e' (g5_close c9 σ2) → wS5 (g5_close c9 σ2) (s :: S') → fs5 (g5_close c9 σ2) σ3 ∧ wS5 σ3 (drU5 S')) → sr5 (fun e' _ σ' => (g5_behind σ).2 = 1 ∧ ∃ U' C' S', es15 T X Bk N Z V W a0 l (a + 1) U' C' S' e' σ') (f5_Pa_closeInner_26 c c9 e4) (g5_behind σ).1 := fun c9 σ3 c0 c1 c2 hg hq hs3 => by
        rw [hg]
        unfold f5_Pa_closeInner_26
        have L4 : LR5 T X Bk N Z V W a (l + bk5 S' + 1) e4 σ2 := by
          have y : l + bk5 S' + 1 = l + bk5 S := by omega
          rw [y]; exact L2
        have dd : ∀ p (e' : E5), dk5 p e' → dq5 p (rdB5 (sw5 (e'.1 paWaits - 1) e') (fun e5 _ => if c = 100 then .inl (e5, ()) else rdB5 (f5_Co_emit 4 (c - 101) e5) (fun e7 _ => .inl (e7, ())))) := fun p e' d => dq_b5 (dq_i5 d) (fun e5 _ d5 => dq_f5 (dq_i5 d5) (dq_b5 (dq_i5 d5) (fun e7 _ d7 => dq_i5 d7)))
        refine sr_b5 (sr_close H L4 c0 c1) (fun e' _ n Q => ?_) hq (fun p e' _ d => dd p e' d)
        obtain ⟨e5, p1, p2, p3⟩ := wC_s5 (wC_f5 z3 Q.2.1) (by omega)
        obtain ⟨q1, q2⟩ := hs3 e' Q.1 (wS_f5 j2 Q.2.2)
        obtain ⟨U', C2, u1, u2, u3, u4, u5, u6⟩ := dU_5 d1.2 d2.2
        have hk9 : T.2.1 a = c9 := by
          have z := (lr_at5 (c := c9) H L4 c0 c1)
          by_cases y : e4.1 paKind = c9
          · rw [kT, ← z2.2.2.2.1]; exact y
          · exfalso
            have L3 : LR5 T X Bk N Z V W a (l + bk5 S' + 1) e4 (siU σ2 13 (σ2.1 13 - 0)) := lr_fe5 L4 fe_r5 ⟨rfl, rfl, rfl, rfl, rfl, rfl, rfl, by show σ2.1 13 - 0 = σ2.1 13; exact Int32.sub_zero _⟩
            have e9 : g5_close c9 σ2 = g5_flaw 2 ((siU σ2 13 (σ2.1 13 - 0)).1 10) (siU σ2 13 (σ2.1 13 - 0)) := by
              unfold g5_close g5_close_18 g5_sign
              dsimp only [pb5]
              rw [z, if_neg y, if_pos rfl]
              have e8 : g5_isAt c9 (siU σ2 13 (σ2.1 13 - 0)) = g5_isAt c9 σ2 := rfl
              rw [e8, z, if_neg y, if_pos rfl]
            have w := (lr_fl5 (f := 2) H L3).1
            rw [← e9, Q.1.2.2.2.1.1] at w
            exact absurd w (by decide)
        have es : ∀ e6 : E5, fe5 e' e6 → wC5 e6 C' → es15 T X Bk N Z V W a0 l (a + 1) U' C2 (drU5 S') e6 σ3 := fun e6 v1 v2 => by
          refine ⟨by rw [u6]; exact lr_fe5 Q.1 v1 q1, by rw [← u1]; exact v2, u2, q2, u3, u4, u5, by rw [← u1]; omega, by omega, ?_⟩
          rw [u6]
          exact sc_c5 H (by rw [← bk']; exact sc) ha (by omega) (by rw [hk9]; exact c2)
        rw [p1]
        show sr5 _ (if c = 100 then _ else _) _
        by_cases y : c = 100
        · rw [if_pos y]
          have k5 : e5.1 paKind = e'.1 paKind := p2.2.2.2.1
          exact sr_i5 (by rw [k5]; exact n) ⟨rfl, U', C2, drU5 S', es e5 p2 p3⟩
        · rw [if_neg y]
          obtain ⟨e7, v1, v2, v3⟩ := wC_e5 (o := 4) (x := c - 101) p3
          rw [v1]
          have k5 : e7.1 paKind = e'.1 paKind := v2.2.2.2.1.trans p2.2.2.2.1
          exact sr_i5 (by rw [k5]; exact n) ⟨rfl, U', C2, drU5 S', es e7 (fe_t5 p2 v2) v3⟩
      unfold f5_Pa_closeInner
      dsimp only [pb5]
      rw [w3]
      rcases br with ⟨b1, b2⟩ | ⟨b1, b2⟩
      · rw [if_pos b1]
        rw [if_pos b2] at g1
        refine last 41 _ (by decide) (by decide) (Or.inl rfl) g1 (kq_turn (kq_si (by decide) (by decide) kq_rf)) (fun e' L5 w5 => ?_)
        obtain ⟨_, t8, t9⟩ := tp_5 w5 (by omega)
        obtain ⟨q1, q2⟩ := tu_5 (σ := siU (g5_close 41 σ2) 48 ((g5_close 41 σ2).1 48 - 1)) (S := S') ⟨t9, w5.2.2⟩ (by omega)
        exact ⟨fs_t5 (⟨rfl, rfl, rfl, rfl, rfl, rfl, rfl, rfl⟩ : fs5 (g5_close 41 σ2) (siU (g5_close 41 σ2) 48 ((g5_close 41 σ2).1 48 - 1))) q1, q2⟩
      · rw [if_neg b1]
        rw [if_neg (by rw [b2]; decide)] at g1
        by_cases y : g5_goesOn (siU (g5_close 93 σ2) 48 ((g5_close 93 σ2).1 48 - 1)) = 0
        · have y2 := y
          rw [if_pos y] at g1
          unfold g5_behind_245 at g1
          dsimp only [pb5] at g1
          rw [y, if_pos rfl] at g1
          refine last 93 _ (by decide) (by decide) (Or.inr rfl) g1 (kq_si (by decide) (by decide) kq_rf) (fun e' L5 w5 => ?_)
          exfalso
          have L6 : LR5 T X Bk N Z V W (a + 1) (l + bk5 S') e' (siU (g5_close 93 σ2) 48 ((g5_close 93 σ2).1 48 - 1)) := lr_fe5 L5 fe_r5 ⟨rfl, rfl, rfl, rfl, rfl, rfl, rfl, rfl⟩
          rw [lr_go5 L6] at y2
          exact absurd y2 (by decide)
        · rw [if_neg y] at g1
          have m46 : (g5_close 93 σ2).1 46 = σ2.1 46 := cl_465
          have m0 : (siU (g5_close 93 σ2) 48 ((g5_close 93 σ2).1 48 - 1)).1 46 = 0 := by
            show (g5_close 93 σ2).1 46 = 0
            rw [m46]; exact L2.2.2.2.1.2.1
          rw [m0, if_neg (by decide)] at g1
          unfold g5_behind_245 at g1
          dsimp only [pb5] at g1
          rw [if_neg y] at g1
          refine last 93 _ (by decide) (by decide) (Or.inr rfl) g1 (kq_turn (kq_si (by decide) (by decide) kq_rf)) (fun e' L5 w5 => ?_)
          obtain ⟨_, t8, t9⟩ := tp_5 w5 (by omega)
          obtain ⟨q1, q2⟩ := tu_5 (σ := siU (g5_close 93 σ2) 48 ((g5_close 93 σ2).1 48 - 1)) (S := S') ⟨t9, w5.2.2⟩ (by omega)
          exact ⟨fs_t5 (⟨rfl, rfl, rfl, rfl, rfl, rfl, rfl, rfl⟩ : fs5 (g5_close 93 σ2) (siU (g5_close 93 σ2) 48 ((g5_close 93 σ2).1 48 - 1))) q1, q2⟩
    cases hS : drR5 1 S with
    | nil =>
      rw [hS] at j2 d1 dl d4
      have hC0 : drC5 1 C = [] := List.eq_nil_of_length_eq_zero dl
      rw [hC0] at z3
      have e48 : σ2.1 48 = 0 := j2.1
      rw [if_pos e48] at g1
      have b0 : bk5 S = 0 := d4.symm
      refine Or.inl ⟨wC_05 z3, by rw [g1], ?_, h0, by rw [← b0]; exact sc⟩
      rw [g1]
      exact lr_l5 L2 (by omega)
    | cons s S' =>
      cases hC : drC5 1 C with
      | nil => rw [hC, hS] at dl; exact absurd dl (by rw [List.length_cons]; exact (Nat.succ_ne_zero _).symm)
      | cons c C' => exact Or.inr (fin5 c C' s S' hC hS)
end
