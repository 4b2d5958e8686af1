set_option maxHeartbeats 1600000
/-! names told and looked up, side by side -/
abbrev vow5 (V : V5) : Int32 := V.2.2.2.2.2.2.2.1
abbrev von5 (V : V5) : Nat → Int32 := V.2.2.2.2.2.2.2.2.1
abbrev vln5 (V : V5) : Nat → Nat := V.2.2.2.2.2.2.2.2.2.2.2.2.2.2.2
abbrev w27_5 (W : W5) : Nat → Int32 := W.2.2.2.2.2.2.2.1
abbrev w28_5 (W : W5) : Nat → Int32 := W.2.2.2.2.2.2.2.2.1
abbrev wfn5 (W : W5) : Int32 := W.2.2.2.2.2.2.2.2.2.1
def nG5 (T : T5) (Bk N : Nat) (V : V5) (W : W5) : Prop := (∃ v, pN5 T Bk N 10 V.1 V.2.1 W.1 W.2.1 v) ∧ (∃ v, pN5 T Bk N 3 V.2.2.1 V.2.2.2.1 W.2.2.1 W.2.2.2.1 v) ∧ (∃ v, pN5 T Bk N 10 V.2.2.2.2.1 V.2.2.2.2.2.1 W.2.2.2.2.1 W.2.2.2.2.2.1 v ∧ ∀ k, k < v → V.2.2.2.2.2.2.1 k = W.2.2.2.2.2.2.1 k) ∧ (vln5 V 1006 = 10 ∧ vln5 V 1007 = 3 ∧ vln5 V 1008 = 10 ∧ vln5 V 1009 = 8 ∧ vln5 V 1011 = 41)
def nO5 (T : T5) (Bk N : Nat) (V : V5) (W : W5) : Prop := ∃ f w, f < 10 ∧ wfn5 W = Int32.ofNat f ∧ V.2.2.2.2.1 = Int32.ofNat f ∧ pN5 T Bk N 8 (vow5 V) (von5 V) (w27_5 W f) (fun k => w28_5 W (8 * f + k)) w
section
variable {T : T5} {X : X5} {Bk N : Nat} {Z : Int32} {V : V5} {W : W5} {a l : Nat} {e : E5} {σ : rS}
theorem nt_5 {mn mo s0 y : Int32} (H : TR5 T X Bk N Z) (L : LR5 T X Bk N Z V W a l e σ) (hk : e.1 paKind = 140) (hy : y = 0 ∨ y = 1) (hs : s0 = y) : sr5 (fun e' r σ' => LR5 T X Bk N Z V W (a + 1) l e' σ' ∧ r = Int32.ofNat a ∧ T.2.1 a = 140 ∧ (g5_fresh_78 mn mo (σ.1 10) y σ).2 = Int32.ofNat (Bk + a) ∧ mn < mo) (f5_Pa_newName_113 mn mo s0 e) (g5_fresh_78 mn mo (σ.1 10) y σ).1 := by
  have h1 := H.1
  have ha := L.2.2.1.1
  unfold f5_Pa_newName_113 g5_fresh_78
  dsimp only [pb5]
  rw [lr_ir5 L, if_neg ne105, hs]
  rcases hy with rfl | rfl
  · rw [if_pos rfl, if_pos rfl]
    unfold f5_Pa_newName_128 g5_fresh_98
    dsimp only [pb5]
    rw [lr_ir5 L, if_neg ne105]
    by_cases c : mn < mo
    · rw [if_pos c, if_pos c]
      unfold f5_Pa_newName_143
      refine sr_b5 (sr_take H L (by rw [hk]; decide)) (fun e' _ n Q => ?_) kq_rf (fun p e' _ d => dq_i5 d)
      refine sr_i5 n ⟨Q.1, ?_, by rw [← L.2.2.1.2.2.2.1]; exact hk, L.2.2.1.2.2.1, c⟩
      rw [Q.1.2.2.1.2.1, ← on_15 (by omega)]
      exact Int32.add_sub_cancel _ _
    · rw [if_neg c, if_neg c, lr_rva5 H L]
      exact sr_q5 (by decide) (lr_fl5 H L).1 (lr_fl5 H L).2 (kq_go kq_rf)
  · rw [if_neg (by decide), if_neg (by decide), lr_rva5 H L]
    exact sr_q5 (by decide) (lr_fl5 H L).1 (lr_fl5 H L).2 (kq_fresh_98 kq_rf)
theorem sr_new {inF mn mo : Int32} (H : TR5 T X Bk N Z) (L : LR5 T X Bk N Z V W a l e σ) (G : nG5 T Bk N V W) (O : (inF = 0 ∧ vow5 V = 0) ∨ (inF = 1 ∧ nO5 T Bk N V W)) : sr5 (fun e' r σ' => LR5 T X Bk N Z V W (a + 1) l e' σ' ∧ r = Int32.ofNat a ∧ T.2.1 a = 140 ∧ (g5_fresh inF mn mo σ).2 = Int32.ofNat (Bk + a) ∧ mn < mo) (f5_Pa_newName mn mo e) (g5_fresh inF mn mo σ).1 := by
  have h1 := H.1
  have ha := L.2.2.1.1
  have kd := kd_o5 (lr_kd5 H L)
  unfold f5_Pa_newName g5_fresh
  dsimp only [pm5]
  by_cases hk : e.1 paKind = 140
  · have hd : g5_due 1 σ = (σ, σ.1 10) := by
      unfold g5_due
      rw [(lr_so5 H L).1, if_pos (kd.2.1.mpr hk)]
    have hx : f5_Pa_expect 140 e = .inl (e, ()) := by
      unfold f5_Pa_expect
      rw [if_pos hk]
    rw [hd, hx]
    rw [rdl_5]
    have ku : T.2.1 a = 140 := by rw [← L.2.2.1.2.2.2.1]; exact hk
    have hy := L.2.2.1.2.2.1
    have hat := L.2.2.1.2.1
    have hsx := L.1.2.1
    have htq := L.1.1
    obtain ⟨hV, hW⟩ := L.2.1
    obtain ⟨⟨v1, p1⟩, ⟨v2, p2⟩, ⟨v3, p3, _⟩, g1, g2, g3, g4, _⟩ := G
    have q1 := fun k hk => pN_s5 H hsx p1 (k := k) hk hy ha ku
    have q2 := fun k hk => pN_s5 H hsx p2 (k := k) hk hy ha ku
    have q3 := fun k hk => pN_s5 H hsx p3 (k := k) hk hy ha ku
    have c1 := fnd_n5 (fN_5 H p1 (l1 := vln5 V 1006) (by rw [g1]; exact p1.1) (by rw [g1]; decide) ha ku) (by have := p1.1; omega)
    have c2 := fnd_n5 (fN_5 H p2 (l1 := vln5 V 1007) (by rw [g2]; exact p2.1) (by rw [g2]; decide) ha ku) (by have := p2.1; omega)
    have c3 := fnd_n5 (fN_5 H p3 (l1 := vln5 V 1008) (by rw [g3]; exact p3.1) (by rw [g3]; decide) ha ku) (by have := p3.1; omega)
    subst hV
    subst hW
    obtain ⟨y1, b1, d1, t1⟩ := tl0_5 (σ := σ) (tok := σ.1 10) (P := fun k => dn5 T (e.2.1 1006 k).toInt.toNat a) (by have := p1.1; omega) p1.2.2.1 q1 fu5 0 0 (Or.inl rfl) (by omega) (by have := p1.1; unfold fu5; omega)
    obtain ⟨y2, b2, d2, t2⟩ := tl4_5 (σ := σ) (tok := σ.1 10) (P := fun k => dn5 T (e.2.1 1007 k).toInt.toNat a) (by have := p2.1; omega) p2.2.2.1 q2 fu5 0 y1 b1 (by omega) (by have := p2.1; unfold fu5; omega)
    obtain ⟨y3, b3, d3, t3⟩ := tl8_5 (σ := σ) (tok := σ.1 10) (P := fun k => dn5 T (e.2.1 1008 k).toInt.toNat a) (by have := p3.1; omega) p3.2.2.1 q3 fu5 0 y2 b2 (by omega) (by have := p3.1; unfold fu5; omega)
    have tt : g5_isTold (σ.1 10) σ = y3 := by
      unfold g5_isTold
      exact t1.trans (t2.trans t3)
    dsimp only [pb5]
    rw [tt, htq, hat]
    -- the own names
    have own : ∃ y4 : Int32, (y4 = 0 ∨ y4 = 1) ∧ g5_fresh_18 fu5 inF mn mo (σ.1 10) y3 0 σ = g5_fresh_78 mn mo (σ.1 10) y4 σ ∧ (y4 = 0 ↔ (y3 = 0 ∧ f5_Ta_findName T (e.2.1 paOwnNames) (e.2.2 paOwnNames) (e.1 paOwns) (Int32.ofNat a) = -1)) := by
      rcases O with ⟨o1, o2⟩ | ⟨o1, f, w, o2, o3, o4, o5⟩
      · have o2' : e.1 paOwns = Int32.ofNat 0 := o2
        have pz : pN5 T Bk N 0 (e.1 paOwns) (e.2.1 paOwnNames) 0 (fun _ => 0) 0 := ⟨Nat.le_refl 0, o2', rfl, fun k hk => absurd hk (by omega)⟩
        have c4 := fnd_n5 (fN_5 H pz (l1 := e.2.2 paOwnNames) (by omega) (by show e.2.2 1009 ≤ 1000; have z : e.2.2 1009 = 8 := g4; rw [z]; decide) ha ku) (by omega)
        refine ⟨y3, b3, ?_, ⟨fun q => ⟨q, c4.mpr (fun k hk => absurd hk (by omega))⟩, fun q => q.1⟩⟩
        rw [show fu5 = 4294967295 + 1 from rfl, g5_fresh_18, if_pos o1]
      · have q4 := fun k hk => pN_s5 H hsx o5 (k := k) hk hy ha ku
        have c4 := fnd_n5 (fN_5 H o5 (l1 := e.2.2 paOwnNames) (by have z : e.2.2 1009 = 8 := g4; show w ≤ e.2.2 1009; rw [z]; exact o5.1) (by show e.2.2 1009 ≤ 1000; have z : e.2.2 1009 = 8 := g4; rw [z]; decide) ha ku) (by have := o5.1; omega)
        obtain ⟨y4, b4, d4, t4⟩ := fr8_5 (σ := σ) (inF := inF) (mn := mn) (mo := mo) (tok := σ.1 10) (P := fun k => dn5 T (e.2.1 1009 k).toInt.toNat a) (by rw [o1]; decide) (by have := o5.1; omega) o3 (by omega) o5.2.2.1 q4 fu5 0 y3 b3 (by omega) (by have := o5.1; unfold fu5; omega)
        exact ⟨y4, b4, t4, d4.trans ⟨fun q => ⟨q.1, c4.mpr (fun k hk => q.2 k (by omega) hk)⟩, fun q => ⟨q.1, fun j _ hj => c4.mp q.2 j hj⟩⟩⟩
    obtain ⟨y4, b4, t4, d4⟩ := own
    rw [t4]
    have hall : y3 = 0 ↔ (f5_Ta_findName T (e.2.1 paVarNames) (e.2.2 paVarNames) (e.1 coVars) (Int32.ofNat a) = -1 ∧ f5_Ta_findName T (e.2.1 paArrayNames) (e.2.2 paArrayNames) (e.1 coArrays) (Int32.ofNat a) = -1 ∧ f5_Ta_findName T (e.2.1 paFunctionNames) (e.2.2 paFunctionNames) (e.1 coFunctions) (Int32.ofNat a) = -1) := by
      constructor
      · intro q
        obtain ⟨z2, z3⟩ := d3.mp q
        obtain ⟨z1, z4⟩ := d2.mp z2
        obtain ⟨_, z5⟩ := d1.mp z1
        exact ⟨c1.mpr (fun k hk => z5 k (by omega) hk), c2.mpr (fun k hk => z4 k (by omega) hk), c3.mpr (fun k hk => z3 k (by omega) hk)⟩
      · rintro ⟨z1, z2, z3⟩
        exact d3.mpr ⟨d2.mpr ⟨d1.mpr ⟨rfl, fun j _ hj => c1.mp z1 j hj⟩, fun j _ hj => c2.mp z2 j hj⟩, fun j _ hj => c3.mp z3 j hj⟩
    have one : ¬ y4 = 0 → y4 = 1 := fun q => b4.resolve_left q
    by_cases f1 : f5_Ta_findName T (e.2.1 paVarNames) (e.2.2 paVarNames) (e.1 coVars) (Int32.ofNat a) = -1
    · rw [if_pos f1]
      by_cases f2 : f5_Ta_findName T (e.2.1 paArrayNames) (e.2.2 paArrayNames) (e.1 coArrays) (Int32.ofNat a) = -1
      · rw [if_pos f2]
        by_cases f3 : f5_Ta_findName T (e.2.1 paFunctionNames) (e.2.2 paFunctionNames) (e.1 coFunctions) (Int32.ofNat a) = -1
        · rw [if_pos f3]
          by_cases f4 : f5_Ta_findName T (e.2.1 paOwnNames) (e.2.2 paOwnNames) (e.1 paOwns) (Int32.ofNat a) = -1
          · rw [if_pos f4]
            exact nt_5 H L hk b4 (d4.mpr ⟨hall.mpr ⟨f1, f2, f3⟩, f4⟩).symm
          · rw [if_neg f4]
            exact nt_5 H L hk b4 (one (fun q => f4 (d4.mp q).2)).symm
        · rw [if_neg f3]
          exact nt_5 H L hk b4 (one (fun q => f3 (hall.mp (d4.mp q).1).2.2)).symm
      · rw [if_neg f2]
        exact nt_5 H L hk b4 (one (fun q => f2 (hall.mp (d4.mp q).1).2.1)).symm
    · rw [if_neg f1]
      exact nt_5 H L hk b4 (one (fun q => f1 (hall.mp (d4.mp q).1).1)).symm
  · have hx : f5_Pa_expect 140 e = .inr (2, T.2.2.1 a) := by
      unfold f5_Pa_expect
      rw [if_neg hk, lr_rva5 H L]
    have hd : (g5_due 1 σ).1 = g5_flaw 2 (σ.1 10) σ := by
      unfold g5_due
      rw [(lr_so5 H L).1, if_neg (fun q => hk (kd.2.1.mp q))]
      rfl
    rw [hx, hd]
    exact sr_q5 (by decide) (lr_fl5 H L).1 (lr_fl5 H L).2 (kq_fresh_18 _ _ _ _ _ _ _ _ kq_rf)
theorem fr_t5 {inF mn mo : Int32} : (g5_due 1 σ).2 = σ.1 10 := by
  unfold g5_due
  by_cases c : σ.2.2.1 5 (σ.1 10).toNatClampNeg = 1
  · rw [if_pos c]
  · rw [if_neg c]
    show (g5_flaw 2 (σ.1 10) σ).1 10 = σ.1 10
    unfold g5_flaw g5_flaw_23
    dsimp only [pb5]
    by_cases c1 : σ.1 11 = 0
    · rw [if_pos c1]
      by_cases c2 : σ.2.2.1 5 (σ.1 10).toNatClampNeg = 4
      · rw [if_pos c2]; rfl
      · rw [if_neg c2]; rfl
    · rw [if_neg c1]
/-- a reference noted -/
theorem lr_395 {i : Nat} {x : Int32} (L : LR5 T X Bk N Z V W a l e σ) : LR5 T X Bk N Z V W a l e (riU σ 39 i x) := L
theorem sr_look {t : Nat} {tok rf : Int32} {r : R5 Int32} {P : Int32 → Prop} (H : TR5 T X Bk N Z) (L : LR5 T X Bk N Z V W a l e σ) (ht : t < N) (htok : tok = Int32.ofNat (Bk + t)) (hr : (rf = -1 ∧ r = .inr (rv5 11 (Int32.ofNat t) e)) ∨ (rf ≠ -1 ∧ ∃ x, r = .inl (e, x) ∧ P x)) : sr5 (fun e' x σ' => LR5 T X Bk N Z V W a l e' σ' ∧ e' = e ∧ P x) r (g5_look tok rf σ) := by
  have h1 := H.1
  have e6 : σ.2.2.1 6 tok.toNatClampNeg = T.2.2.1 t := by
    rw [htok, cl_5 (by omega), H.2.1 t ht, ← L.1.2.1]
    rfl
  unfold g5_look g5_look_28
  dsimp only [pb5]
  rcases hr with ⟨h, hr⟩ | ⟨h, x, hr, hx⟩
  · rw [hr, if_pos h, if_pos L.2.2.2.1.1, lr_rv5 H L ht]
    refine sr_r5 (by decide) rfl ?_
    show (siU σ 11 11).2.2.1 6 tok.toNatClampNeg = _
    exact e6
  · rw [hr, if_neg h]
    exact sr_i5 (lr_k5 L) ⟨lr_395 L, rfl, hx⟩
theorem sr_findArray {t : Nat} {tok : Int32} (H : TR5 T X Bk N Z) (L : LR5 T X Bk N Z V W a l e σ) (G : nG5 T Bk N V W) (ht : t < N) (kt : T.2.1 t = 140) (htok : tok = Int32.ofNat (Bk + t)) : sr5 (fun e' x σ' => LR5 T X Bk N Z V W a l e' σ' ∧ e' = e ∧ ∃ k : Nat, k ≤ 3 ∧ x = Int32.ofNat k) (f5_Pa_findArray (Int32.ofNat t) e) (g5_look tok (g5_arrayOf tok σ) σ) := by
  obtain ⟨hV, hW⟩ := L.2.1
  have hsx := L.1.2.1
  have htq := L.1.1
  refine sr_look H L ht htok ?_
  obtain ⟨_, ⟨v2, p2⟩, _, g1, g2, g3, g4, _⟩ := G
  have q2 := fun k hk => pN_s5 H hsx p2 (k := k) hk htok ht kt
  have F2 := fN_5 H p2 (l1 := vln5 V 1007) (by rw [g2]; exact p2.1) (by rw [g2]; decide) ht kt
  have c2 := fnd_n5 F2 (by have := p2.1; omega)
  subst hV
  subst hW
  have z := ar2_5 (σ := σ) (tok := tok) (P := fun k => dn5 T (e.2.1 1007 k).toInt.toNat t) (by have := p2.1; omega) p2.2.2.1 q2 fu5 0 (by omega) (by have := p2.1; unfold fu5; omega) (fun j q => absurd q (by omega))
  unfold f5_Pa_findArray
  dsimp only [pb5]
  rw [htq]
  have hv := p2.1
  rcases z with ⟨j, j1, j2, _, j3⟩ | ⟨j1, j2⟩
  · have n : ¬ f5_Ta_findName T (e.2.1 paArrayNames) (e.2.2 paArrayNames) (e.1 coArrays) (Int32.ofNat t) = -1 := fun q => (c2.mp q) j j1 j2
    have hk3 : ∃ k : Nat, k ≤ 3 ∧ f5_Ta_findName T (e.2.1 paArrayNames) (e.2.2 paArrayNames) (e.1 coArrays) (Int32.ofNat t) = Int32.ofNat k := by
      rcases F2 with ⟨q, _⟩ | ⟨k, k1, _, _, k2⟩
      · exact absurd q n
      · exact ⟨k, by omega, k2⟩
    refine Or.inr ⟨?_, _, by rw [if_neg n], hk3⟩
    unfold g5_arrayOf
    rw [show (0 : Int32) = Int32.ofNat 0 from rfl, j3]
    intro q
    have y := congrArg Int32.toInt q
    have lj := ofn_i (n := j) (by omega)
    have l2 : (200 : Int32).toInt = 200 := rfl
    have l3 : (-1 : Int32).toInt = -1 := rfl
    rw [add_i (by omega) (by omega)] at y
    omega
  · have n : f5_Ta_findName T (e.2.1 paArrayNames) (e.2.2 paArrayNames) (e.1 coArrays) (Int32.ofNat t) = -1 := c2.mpr j1
    exact Or.inl ⟨j2, by rw [if_pos n]⟩
theorem sr_findVariable {t : Nat} {tok : Int32} (H : TR5 T X Bk N Z) (L : LR5 T X Bk N Z V W a l e σ) (G : nG5 T Bk N V W) (O : nO5 T Bk N V W) (ht : t < N) (kt : T.2.1 t = 140) (htok : tok = Int32.ofNat (Bk + t)) : sr5 (fun e' _ σ' => LR5 T X Bk N Z V W a l e' σ' ∧ e' = e ∧ True) (f5_Pa_findVariable (Int32.ofNat t) e) (g5_look tok (g5_variableOf tok σ) σ) := by
  obtain ⟨hV, hW⟩ := L.2.1
  have hsx := L.1.2.1
  have htq := L.1.1
  refine sr_look H L ht htok ?_
  obtain ⟨⟨v1, p1⟩, _, _, g1, g2, g3, g4, _⟩ := G
  obtain ⟨f, w, o2, o3, o4, o5⟩ := O
  have q1 := fun k hk => pN_s5 H hsx p1 (k := k) hk htok ht kt
  have q4 := fun k hk => pN_s5 H hsx o5 (k := k) hk htok ht kt
  have c1 := fnd_n5 (fN_5 H p1 (l1 := vln5 V 1006) (by rw [g1]; exact p1.1) (by rw [g1]; decide) ht kt) (by have := p1.1; omega)
  have c4 := fnd_n5 (fN_5 H o5 (l1 := vln5 V 1009) (by rw [g4]; exact o5.1) (by rw [g4]; decide) ht kt) (by have := o5.1; omega)
  subst hV
  subst hW
  have z4 := va2_5 (σ := σ) (tok := tok) (P := fun k => dn5 T (e.2.1 1009 k).toInt.toNat t) (by have := o5.1; omega) o3 (by omega) o5.2.2.1 q4 fu5 0 (by omega) (by have := o5.1; unfold fu5; omega) (fun j q => absurd q (by omega))
  have z1 := va5_5 (σ := σ) (tok := tok) (P := fun k => dn5 T (e.2.1 1006 k).toInt.toNat t) (by have := p1.1; omega) p1.2.2.1 q1 fu5 0 (by omega) (by have := p1.1; unfold fu5; omega) (fun j q => absurd q (by omega))
  unfold f5_Pa_findVariable
  dsimp only [pb5]
  rw [htq]
  have hv1 := p1.1
  have hv4 := o5.1
  have l3 : (-1 : Int32).toInt = -1 := rfl
  rcases z4 with ⟨j, j1, j2, _, j3⟩ | ⟨j1, j2⟩
  · have n : ¬ f5_Ta_findName T (e.2.1 paOwnNames) (e.2.2 paOwnNames) (e.1 paOwns) (Int32.ofNat t) = -1 := fun q => (c4.mp q) j j1 j2
    refine Or.inr ⟨?_, _, by rw [if_neg n], trivial⟩
    unfold g5_variableOf
    rw [show (0 : Int32) = Int32.ofNat 0 from rfl, j3]
    intro q
    have y := congrArg Int32.toInt q
    have lj := ofn_i (n := j) (by omega)
    have l2 : (100 : Int32).toInt = 100 := rfl
    rw [add_i (by omega) (by omega)] at y
    omega
  · have n : f5_Ta_findName T (e.2.1 paOwnNames) (e.2.2 paOwnNames) (e.1 paOwns) (Int32.ofNat t) = -1 := c4.mpr j1
    rcases z1 with ⟨i, i1, i2, _, i3⟩ | ⟨i1, i2⟩
    · have n1 : ¬ f5_Ta_findName T (e.2.1 paVarNames) (e.2.2 paVarNames) (e.1 coVars) (Int32.ofNat t) = -1 := fun q => (c1.mp q) i i1 i2
      refine Or.inr ⟨?_, _, by rw [if_pos n, if_neg n1], trivial⟩
      have z : g5_variableOf tok σ = Int32.ofNat i := by unfold g5_variableOf; exact j2.trans i3
      rw [z]
      intro q
      have y := congrArg Int32.toInt q
      have li := ofn_i (n := i) (by omega)
      omega
    · have n1 : f5_Ta_findName T (e.2.1 paVarNames) (e.2.2 paVarNames) (e.1 coVars) (Int32.ofNat t) = -1 := c1.mpr i1
      exact Or.inl ⟨j2.trans i2, by rw [if_pos n, if_pos n1]⟩
end
