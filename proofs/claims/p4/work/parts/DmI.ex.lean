set_option maxHeartbeats 1600000
/-! expressions, side by side -/
/-- the reference stands at a second comparison, which the class has refused -/
def dcm5 (T : T5) (X : X5) (Bk N a : Nat) (σ : rS) : Prop := a < N ∧ sx5 σ = X ∧ σ.1 11 = 0 ∧ σ.1 10 = Int32.ofNat (Bk + a) ∧ T.2.1 a ≠ 143 ∧ f5_Pa_rankOf (f5_Pa_binary (T.2.1 a)) = 3
def xr5 (T : T5) (X : X5) (Bk N : Nat) (Z : Int32) (V : V5) (W : W5) (a0 l : Nat) (r : R5 Unit) (σ : rS) : Prop := sr5 (fun e' _ σ' => ∃ a', LR5 T X Bk N Z V W a' l e' σ' ∧ a0 < a' ∧ ∀ n, sc5 X Bk a0 a' 0 n n) r σ ∨ (∃ a', r = .inr (2, T.2.2.1 a') ∧ dcm5 T X Bk N a' σ)
def es05 (T : T5) (X : X5) (Bk N : Nat) (Z : Int32) (V : V5) (W : W5) (a0 l a : Nat) (C S : List Int32) (e : E5) (σ : rS) : Prop := LR5 T X Bk N Z V W a (l + bk5 S) e σ ∧ wC5 e C ∧ wS5 σ S ∧ a25 C S ∧ wf5 S ∧ C.length ≤ a ∧ ∀ n, sc5 X Bk a0 a (bk5 S) n n
def es15 (T : T5) (X : X5) (Bk N : Nat) (Z : Int32) (V : V5) (W : W5) (a0 l a : Nat) (U C S : List Int32) (e : E5) (σ : rS) : Prop := LR5 T X Bk N Z V W a (l + bk5 S) e σ ∧ wC5 e (U ++ C) ∧ un6 U ∧ wS5 σ S ∧ a25 C S ∧ wf5 S ∧ nu5 S ∧ (U ++ C).length ≤ a ∧ a0 < a ∧ ∀ n, sc5 X Bk a0 a (bk5 S) n n
theorem wC_f5 {e e' : E5} {C : List Int32} (w : wC5 e C) (h : tkF5 e e') : wC5 e' C := ⟨(h.2 1016 (by decide) (by decide) (by decide)).trans w.1, by rw [h.1]; exact w.2⟩
theorem wS_f5 {σ σ' : rS} {S : List Int32} (w : wS5 σ S) (h : tkS5 σ σ') : wS5 σ' S := ⟨(h.2 48 (by decide) (by decide)).trans w.1, by rw [h.1]; exact w.2⟩
theorem wC_e5 {e : E5} {C : List Int32} {o x : Int32} (w : wC5 e C) : ∃ e', f5_Co_emit o x e = .inl (e', ()) ∧ fe5 e e' ∧ wC5 e' C := by
  refine ⟨_, rfl, ⟨rfl, rfl, rfl, rfl, rfl⟩, w.1, stk_e5 (fun i hi => rfl) w.2⟩
theorem bk_45 {S : List Int32} : bk5 (40 :: S) = bk5 S + 1 := by
  show (if (40 : Int32) = 40 ∨ (40 : Int32) = 91 then 1 else 0) + bk5 S = _
  rw [if_pos (Or.inl rfl)]; omega
theorem bk_95 {S : List Int32} : bk5 (91 :: S) = bk5 S + 1 := by
  show (if (91 : Int32) = 40 ∨ (91 : Int32) = 91 then 1 else 0) + bk5 S = _
  rw [if_pos (Or.inr rfl)]; omega
theorem bk_n5 {s : Int32} {S : List Int32} (h1 : s ≠ 40) (h2 : s ≠ 91) : bk5 (s :: S) = bk5 S := by
  show (if s = 40 ∨ s = 91 then 1 else 0) + bk5 S = _
  rw [if_neg (fun q => by rcases q with q | q; exact h1 q; exact h2 q)]; omega
theorem bk_l5 : ∀ {S : List Int32}, bk5 S ≤ S.length
  | [] => Nat.le_refl 0
  | s :: S => by
    show (if s = 40 ∨ s = 91 then 1 else 0) + bk5 S ≤ S.length + 1
    have := bk_l5 (S := S)
    by_cases h : s = 40 ∨ s = 91
    · rw [if_pos h]; omega
    · rw [if_neg h]; omega
section
variable {T : T5} {X : X5} {Bk N : Nat} {Z : Int32} {V : V5} {W : W5} {a0 l a : Nat} {e : E5} {σ : rS}
theorem lr_go5 (L : LR5 T X Bk N Z V W a l e σ) : g5_goesOn σ = 1 := by
  unfold g5_goesOn
  dsimp only [pb5]
  rw [lr_ir5 L, if_neg ne105, if_pos L.2.2.2.1.2.2]
theorem lr_K5 (L : LR5 T X Bk N Z V W a l e σ) : T.2.1 a = e.1 paKind := L.2.2.1.2.2.2.1.symm
theorem sc_n5 {d : Nat} (H : TR5 T X Bk N Z) (h : ∀ n, sc5 X Bk a0 a d n n) (ha : a < N) (hd : d ≤ 65537) (q : T.2.1 a ≠ 40 ∧ T.2.1 a ≠ 91 ∧ T.2.1 a ≠ 41 ∧ T.2.1 a ≠ 93) (q2 : T.2.1 a ≠ 44) : ∀ n, sc5 X Bk a0 (a + 1) d n n := fun n => sc_s5 H (h n) ha hd (Or.inr (Or.inr ⟨q, rfl, Or.inl ⟨q2, rfl⟩⟩)) (fun w => by rcases w with w | w; exact absurd w q.2.2.1; exact absurd w q.2.2.2)
theorem sc_o5 {d : Nat} (H : TR5 T X Bk N Z) (h : ∀ n, sc5 X Bk a0 a d n n) (ha : a < N) (hd : d ≤ 65537) (q : T.2.1 a = 40 ∨ T.2.1 a = 91) : ∀ n, sc5 X Bk a0 (a + 1) (d + 1) n n := fun n => sc_s5 H (h n) ha hd (Or.inl ⟨q, rfl, rfl⟩) (fun w => by rcases w with w | w <;> rcases q with q | q <;> rw [w] at q <;> exact absurd q (by decide))
theorem sc_c5 {d : Nat} (H : TR5 T X Bk N Z) (h : ∀ n, sc5 X Bk a0 a (d + 1) n n) (ha : a < N) (hd : d + 1 ≤ 65537) (q : T.2.1 a = 41 ∨ T.2.1 a = 93) : ∀ n, sc5 X Bk a0 (a + 1) d n n := fun n => sc_s5 H (h n) ha hd (Or.inr (Or.inl ⟨q, rfl, rfl⟩)) (fun w => by rcases q with q | q <;> rw [q] <;> decide)
/-- an operand that is no name -/
theorem sr_opd {C S : List Int32} (H : TR5 T X Bk N Z) (E : es05 T X Bk N Z V W a0 l a C S e σ) (hk : e.1 paKind ≠ 140) : sr5 (fun e' r σ' => (r = 1 ∧ (g5_operand σ).2 = 0 ∧ ∃ C' S', es05 T X Bk N Z V W a0 l (a + 1) C' S' e' σ') ∨ (r = 0 ∧ (g5_operand σ).2 = 1 ∧ ∃ U C' S', es15 T X Bk N Z V W a0 l (a + 1) U C' S' e' σ')) (f5_Pa_operand e) (g5_operand σ).1 := by
  obtain ⟨L, wc, ws, ac, wf, hl, sc⟩ := E
  have h1 := H.1
  have ha := L.2.2.1.1
  have hb := bk_l5 (S := S)
  have hls := a2_l5 ac
  have kd := kd_o5 (lr_kd5 H L)
  have kT := lr_K5 L
  have sc0 := (sc 0).1
  have i33 := lr_at5 (c := 33) H L (by decide) (by decide)
  have i45 := lr_at5 (c := 45) H L (by decide) (by decide)
  have i40 := lr_at5 (c := 40) H L (by decide) (by decide)
  by_cases c33 : e.1 paKind = 33 ∨ e.1 paKind = 45
  · -- a sign
    have hc : ∃ o s, f5_Pa_operand e = f5_Pa_operand_80 0 o e ∧ g5_operand σ = g5_operand_37 s σ ∧ wr5 o s ∧ un5 s := by
      unfold f5_Pa_operand f5_Pa_operand_15 f5_Pa_operand_64 g5_operand g5_operand_18
      dsimp only [pb5]
      rw [i33, i45]
      rcases c33 with c | c
      · rw [if_neg (by rw [c]; decide), if_pos rfl, if_pos c, if_pos c, if_pos c, if_neg (by decide), if_neg (by decide)]
        exact ⟨6, 1000, rfl, rfl, Or.inl ⟨by decide, by decide, Or.inl rfl⟩, Or.inl rfl⟩
      · have c' : ¬ e.1 paKind = 33 := by rw [c]; decide
        rw [if_neg (by rw [c]; decide), if_pos rfl, if_neg c', if_pos c, if_neg c', if_neg c', if_pos rfl, if_pos c, if_neg (by decide), if_pos rfl]
        exact ⟨5, 1001, rfl, rfl, Or.inl ⟨by decide, by decide, Or.inr rfl⟩, Or.inr rfl⟩
    obtain ⟨o, s, q1, q2, q3, q4⟩ := hc
    rw [q1, q2]
    unfold f5_Pa_operand_80 g5_operand_37 f5_Pa_operand_102
    dsimp only [pb5]
    obtain ⟨e1, p1, p2, p3⟩ := hC_5 (x := o) wc (by omega)
    obtain ⟨r1, r2⟩ := hoS_5 (x := s) (y := 0) ws (by omega)
    rw [p1, rdl_5]
    have hs40 : s ≠ 40 ∧ s ≠ 91 := by rcases q4 with z | z <;> rw [z] <;> decide
    have hrk : ¬ 0 < (rk5 s).toInt := by rcases q4 with z | z <;> rw [z] <;> decide
    have k1 : e1.1 paKind = e.1 paKind := p2.2.2.2.1
    refine sr_b5 (sr_take H (lr_fe5 L p2 r1) (by rw [k1]; rcases c33 with c | c <;> rw [c] <;> decide)) (fun e' _ n Q => ?_) kq_rf (fun p e' _ d => by rw [if_pos rfl]; exact dq_i5 d)
    rw [if_pos rfl]
    refine sr_i5 n (Or.inl ⟨rfl, rfl, o :: C, s :: S, ?_⟩)
    refine ⟨by rw [bk_n5 hs40.1 hs40.2]; exact Q.1, wC_f5 p3 Q.2.1, wS_f5 r2 Q.2.2, ⟨q3, ac⟩, ⟨fun w => absurd w hrk, wf⟩, by rw [List.length_cons]; omega, ?_⟩
    rw [bk_n5 hs40.1 hs40.2]
    refine sc_n5 H sc ha (by omega) ?_ ?_
    · rw [kT]; rcases c33 with c | c <;> rw [c] <;> decide
    · rw [kT]; rcases c33 with c | c <;> rw [c] <;> decide
  · have n33 : ¬ e.1 paKind = 33 := fun q => c33 (Or.inl q)
    have n45 : ¬ e.1 paKind = 45 := fun q => c33 (Or.inr q)
    have g1 : g5_operand σ = (if (if e.1 paKind = 40 then (1 : Int32) else 0) = 0 then (if X.1 (Bk + a) = 2 then pb5 (σ.2.2.1 7 (σ.1 10).toNatClampNeg) (fun v1_11 => pb5 (g5_go σ) (fun σ12 => pb5 (g5_push v1_11 σ12) (fun σ14 => (σ14, (1 : Int32))))) else (if X.1 (Bk + a) = 1 then pm5 (g5_named σ) (fun σ7 r8 => (σ7, r8)) else pb5 (g5_flaw 2 (σ.1 10) σ) (fun σ9 => (σ9, (0 : Int32))))) else pb5 (g5_open 40 σ) (fun σ16 => pb5 (g5_hold 40 0 σ16) (fun σ18 => (σ18, (0 : Int32))))) := by
      unfold g5_operand
      dsimp only [pb5]
      rw [i33, if_neg n33, if_pos rfl, i45, if_neg n45, if_pos rfl, i40, (lr_so5 H L).1]
    by_cases c141 : e.1 paKind = 141
    · have c40 : ¬ e.1 paKind = 40 := by rw [c141]; decide
      rw [if_neg c40, if_pos rfl, if_pos (kd.2.2.1.mpr c141)] at g1
      rw [g1]
      unfold f5_Pa_operand f5_Pa_operand_15 f5_Pa_operand_102
      dsimp only [pb5]
      rw [if_pos c141, if_neg (by decide)]
      obtain ⟨e1, p1, p2, p3⟩ := wC_e5 (o := 1) (x := f5_Ta_numberAt (tq5 e) (e.1 paAt)) wc
      rw [p1, rdl_5]
      have k1 : e1.1 paKind = e.1 paKind := p2.2.2.2.1
      refine sr_b5 (sr_take H (lr_fe5 L p2 fs_r5) (by rw [k1, c141]; decide)) (fun e' _ n Q => ?_) (kq_push kq_rf) (fun p e' _ d => by rw [if_neg (by decide)]; exact dq_i5 d)
      rw [if_neg (by decide)]
      obtain ⟨t1, t2⟩ := ps_5 (x := σ.2.2.1 7 (σ.1 10).toNatClampNeg) (wS_f5 ws Q.2.2) (by omega)
      obtain ⟨U, C', d1, d2, d3, d4, d5, d6⟩ := dU_5 ac wf
      refine sr_i5 n (Or.inr ⟨rfl, rfl, U, C', drU5 S, ?_⟩)
      refine ⟨by rw [d6]; exact lr_fe5 Q.1 fe_r5 t1, by rw [← d1]; exact wC_f5 p3 Q.2.1, d2, t2, d3, d4, d5, by rw [← d1]; omega, by omega, ?_⟩
      rw [d6]
      exact sc_n5 H sc ha (by omega) (by rw [kT, c141]; decide) (by rw [kT, c141]; decide)
    · have f1 : f5_Pa_operand e = rdB5 (f5_Pa_openSign 40 e) (fun e1 _ => rdB5 (f5_Pa_hold 100 e1) (fun e4 _ => f5_Pa_operand_102 0 e4)) := by
        unfold f5_Pa_operand f5_Pa_operand_15
        rw [if_neg c141, if_pos rfl, if_neg n33, if_neg n45]
      rw [f1]
      by_cases c40 : e.1 paKind = 40
      · rw [if_pos c40, if_neg (by decide)] at g1
        rw [g1]
        dsimp only [pb5]
        refine sr_b5 (sr_open H L (by decide) (by decide)) (fun e' _ n Q => ?_) (kq_hold kq_rf) (fun p e' _ d => by
          show dq5 p (rdB5 (f5_Pa_hold 100 e') _)
          exact dq_i5 d)
        obtain ⟨e1, p1, p2, p3⟩ := hC_5 (x := 100) (wC_f5 wc Q.2.1) (by omega)
        obtain ⟨r1, r2⟩ := hoS_5 (x := 40) (y := 0) (wS_f5 ws Q.2.2) (by omega)
        rw [p1, rdl_5]
        unfold f5_Pa_operand_102
        rw [if_pos rfl]
        have k1 : e1.1 paKind = e'.1 paKind := p2.2.2.2.1
        refine sr_i5 (by rw [k1]; exact n) (Or.inl ⟨rfl, rfl, 100 :: C, 40 :: S, ?_⟩)
        refine ⟨by rw [bk_45]; exact lr_fe5 Q.1 p2 r1, p3, r2, ⟨Or.inr (Or.inl ⟨by decide, by decide, Or.inl ⟨rfl, rfl⟩⟩), ac⟩, ⟨fun w => absurd w (by decide), wf⟩, by rw [List.length_cons]; omega, ?_⟩
        rw [bk_45]
        exact sc_o5 H sc ha (by omega) (Or.inl (by rw [kT]; exact c40))
      · rw [if_neg c40, if_pos rfl, if_neg (fun q => c141 (kd.2.2.1.mp q)), if_neg (fun q => hk (kd.2.1.mp q))] at g1
        rw [g1]
        dsimp only [pb5]
        have fx : f5_Pa_openSign 40 e = .inr (2, T.2.2.1 a) := by
          unfold f5_Pa_openSign
          rw [if_neg c40, lr_rva5 H L]
        rw [fx]
        exact sr_r5 (by decide) (lr_fl5 H L).1 (lr_fl5 H L).2
/-- the rest of a name -/
def nmd5 (t : Int32) (σ : rS) : rS × Int32 := if g5_isRight σ = 0 then g5_named_34 t σ else if g5_isAt 40 σ = 0 then g5_named_34 t σ else g5_named_34 t (g5_flaw 2 (σ.1 10) σ)
theorem nmd_5 : g5_named σ = nmd5 (σ.1 10) (g5_go σ) := rfl
theorem kq_nmd {s : rS} {t : Int32} (h : kq5 s σ) : kq5 s (nmd5 t σ).1 := kq_ifp (kq_named_34 h) (kq_ifp (kq_named_34 h) (kq_named_34 (kq_flaw h)))
theorem sr_opn {C S : List Int32} {t : Nat} {tok : Int32} (H : TR5 T X Bk N Z) (G : nG5 T Bk N V W) (O : nO5 T Bk N V W) (E : es05 T X Bk N Z V W a0 l a C S e σ) (ht : t < N) (kt : T.2.1 t = 140) (htok : tok = Int32.ofNat (Bk + t)) (h0 : a0 < a) : sr5 (fun e' r σ' => (r = 1 ∧ (nmd5 tok σ).2 = 0 ∧ ∃ C' S', es05 T X Bk N Z V W a0 l (a + 1) C' S' e' σ') ∨ (r = 0 ∧ (nmd5 tok σ).2 = 1 ∧ ∃ U C' S', es15 T X Bk N Z V W a0 l a U C' S' e' σ')) (f5_Pa_operandName (Int32.ofNat t) e) (nmd5 tok σ).1 := by
  obtain ⟨L, wc, ws, ac, wf, hl, sc⟩ := E
  have h1 := H.1
  have ha := L.2.2.1.1
  have hb := bk_l5 (S := S)
  have hls := a2_l5 ac
  have kT := lr_K5 L
  have i91 := lr_at5 (c := 91) H L (by decide) (by decide)
  have i40 := lr_at5 (c := 40) H L (by decide) (by decide)
  unfold f5_Pa_operandName
  by_cases c40 : e.1 paKind = 40
  · have g : nmd5 tok σ = g5_named_34 tok (g5_flaw 2 (σ.1 10) σ) := by
      unfold nmd5
      rw [lr_ir5 L, if_neg ne105, i40, if_pos c40, if_neg (by decide)]
    rw [if_neg (by rw [c40]; decide), if_pos c40, g, lr_rva5 H L]
    exact sr_q5 (by decide) (lr_fl5 H L).1 (lr_fl5 H L).2 (kq_named_34 kq_rf)
  · by_cases c91 : e.1 paKind = 91
    · have g : nmd5 tok σ = g5_named_79 tok 1 (g5_look tok (g5_arrayOf tok σ) σ) := by
        unfold nmd5
        rw [lr_ir5 L, if_neg ne105, i40, if_neg c40, if_pos rfl]
        unfold g5_named_34
        dsimp only [pb5]
        rw [lr_ir5 L, if_neg ne105, i91, if_pos c91, if_pos L.2.2.2.1.2.1, if_neg (by decide)]
      rw [if_pos c91, g]
      refine sr_b5 (sr_findArray H L G ht kt htok) (fun e' r n Q => ?_) (kq_named_79 kq_rf) (fun p e' _ d => dq_x5 (dx_open d (by decide)))
      obtain ⟨Q1, rfl, k, k3, rfl⟩ := Q
      have g2 : g5_named_79 tok 1 (g5_look tok (g5_arrayOf tok σ) σ) = (g5_hold 91 ((g5_open 91 (g5_look tok (g5_arrayOf tok σ) σ)).2.2.1 39 tok.toNatClampNeg) (g5_open 91 (g5_look tok (g5_arrayOf tok σ) σ)), 0) := by
        unfold g5_named_79
        dsimp only [pb5]
        rw [lr_ir5 Q1, if_neg ne105, if_neg (by decide)]
      rw [g2]
      have ws' : wS5 (g5_look tok (g5_arrayOf tok σ) σ) S := by
        have : (g5_look tok (g5_arrayOf tok σ) σ).1 48 = σ.1 48 ∧ (g5_look tok (g5_arrayOf tok σ) σ).2.2.1 50 = σ.2.2.1 50 := by
          unfold g5_look g5_look_28
          dsimp only [pb5]
          by_cases z : g5_arrayOf tok σ = -1
          · rw [if_pos z, if_pos L.2.2.2.1.1]; exact ⟨rfl, rfl⟩
          · rw [if_neg z]; exact ⟨rfl, rfl⟩
        exact ⟨this.1.trans ws.1, by rw [this.2]; exact ws.2⟩
      refine sr_b5 (sr_open H Q1 (by decide) (by decide)) (fun e2 _ n2 Q2 => ?_) (kq_hold kq_rf) (fun p e' _ d => by
        show dq5 p (rdB5 (f5_Pa_hold _ e') _)
        exact dq_i5 d)
      have lk : (101 + Int32.ofNat k).toInt = 101 + k := by
        have l1 := ofn_i (n := k) (by omega)
        have l2 : (101 : Int32).toInt = 101 := rfl
        rw [add_i (by omega) (by omega), l1, l2]
      have hr : f5_Pa_rankOf (101 + Int32.ofNat k) = 0 ∧ 101 + Int32.ofNat k ≠ 100 := by
        have l100 : (100 : Int32).toInt = 100 := rfl
        refine ⟨?_, fun q => by rw [q, l100] at lk; omega⟩
        unfold f5_Pa_rankOf
        rw [if_neg (by rw [lti, lk, l100]; omega)]
      obtain ⟨e1, p1, p2, p3⟩ := hC_5 (x := 101 + Int32.ofNat k) (wC_f5 wc Q2.2.1) (by omega)
      obtain ⟨r1, r2⟩ := hoS_5 (x := 91) (y := (g5_open 91 (g5_look tok (g5_arrayOf tok σ) σ)).2.2.1 39 tok.toNatClampNeg) (wS_f5 ws' Q2.2.2) (by omega)
      rw [p1]
      have k1 : e1.1 paKind = e2.1 paKind := p2.2.2.2.1
      refine sr_i5 (by rw [k1]; exact n2) (Or.inl ⟨rfl, rfl, (101 + Int32.ofNat k) :: C, 91 :: S, ?_⟩)
      refine ⟨by rw [bk_95]; exact lr_fe5 Q2.1 p2 r1, p3, r2, ⟨Or.inr (Or.inl ⟨hr.1, by decide, Or.inr ⟨hr.2, rfl⟩⟩), ac⟩, ⟨fun w => absurd w (by decide), wf⟩, by rw [List.length_cons]; omega, ?_⟩
      rw [bk_95]
      exact sc_o5 H sc ha (by omega) (Or.inr (by rw [kT]; exact c91))
    · have g : nmd5 tok σ = g5_named_79 tok 0 (g5_look tok (g5_variableOf tok σ) σ) := by
        unfold nmd5
        rw [lr_ir5 L, if_neg ne105, i40, if_neg c40, if_pos rfl]
        unfold g5_named_34
        dsimp only [pb5]
        rw [lr_ir5 L, if_neg ne105, i91, if_neg c91, if_pos L.2.2.2.1.2.1, if_pos rfl]
      rw [if_neg c91, if_neg c40, g]
      unfold f5_Pa_operandName_49
      have dm : ∀ p (e' : E5) (x y z : Int32), dk5 p e' → dq5 p (f5_Pa_operandName_68 x y z e') := fun p e' x y z d => by
        unfold f5_Pa_operandName_68
        dsimp only [pb5]
        refine dq_f5 ?_ ?_
        · show dq5 p (rdB5 (f5_Co_emit _ _ e') _)
          exact dq_i5 d
        · show dq5 p (rdB5 (f5_Co_emit _ _ e') _)
          exact dq_i5 d
      refine sr_b5 (sr_findVariable H L G O ht kt htok) (fun e' r n Q => ?_) (kq_named_79 kq_rf) (fun p e' r d => dq_f5 (dm p e' _ _ _ d) (dm p e' _ _ _ d))
      obtain ⟨Q1, rfl, _⟩ := Q
      have g2 : g5_named_79 tok 0 (g5_look tok (g5_variableOf tok σ) σ) = (g5_push 0 (g5_look tok (g5_variableOf tok σ) σ), 1) := by
        unfold g5_named_79
        dsimp only [pb5]
        rw [lr_ir5 Q1, if_neg ne105, if_pos rfl, if_pos Q1.2.2.2.1.2.1]
      rw [g2]
      have ws' : wS5 (g5_look tok (g5_variableOf tok σ) σ) S := by
        have : (g5_look tok (g5_variableOf tok σ) σ).1 48 = σ.1 48 ∧ (g5_look tok (g5_variableOf tok σ) σ).2.2.1 50 = σ.2.2.1 50 := by
          unfold g5_look g5_look_28
          dsimp only [pb5]
          by_cases z : g5_variableOf tok σ = -1
          · rw [if_pos z, if_pos L.2.2.2.1.1]; exact ⟨rfl, rfl⟩
          · rw [if_neg z]; exact ⟨rfl, rfl⟩
        exact ⟨this.1.trans ws.1, by rw [this.2]; exact ws.2⟩
      obtain ⟨t1, t2⟩ := ps_5 (x := 0) ws' (by omega)
      obtain ⟨U, C', d1, d2, d3, d4, d5, d6⟩ := dU_5 ac wf
      have fin : ∀ o x : Int32, sr5 (fun e' r σ' => (r = 1 ∧ ((g5_push 0 (g5_look tok (g5_variableOf tok σ) σ), (1 : Int32)) : rS × Int32).2 = 0 ∧ ∃ C' S', es05 T X Bk N Z V W a0 l (a + 1) C' S' e' σ') ∨ (r = 0 ∧ ((g5_push 0 (g5_look tok (g5_variableOf tok σ) σ), (1 : Int32)) : rS × Int32).2 = 1 ∧ ∃ U C' S', es15 T X Bk N Z V W a0 l a U C' S' e' σ')) (rdB5 (f5_Co_emit o x e') (fun e4 _ => .inl (e4, (0 : Int32)))) (g5_push 0 (g5_look tok (g5_variableOf tok σ) σ)) := fun o x => by
        obtain ⟨e1, p1, p2, p3⟩ := wC_e5 (o := o) (x := x) wc
        rw [p1]
        have k1 : e1.1 paKind = e'.1 paKind := p2.2.2.2.1
        refine sr_i5 (by rw [k1]; exact n) (Or.inr ⟨rfl, rfl, U, C', drU5 S, ?_⟩)
        exact ⟨by rw [d6]; exact lr_fe5 Q1 p2 t1, by rw [← d1]; exact p3, d2, t2, d3, d4, d5, by rw [← d1]; exact hl, h0, by rw [d6]; exact sc⟩
      unfold f5_Pa_operandName_68
      by_cases z : r < 0
      · rw [if_pos z, if_pos z]; exact fin _ _
      · rw [if_neg z, if_neg z]; exact fin _ _
end
