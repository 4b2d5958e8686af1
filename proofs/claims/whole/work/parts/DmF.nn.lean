section
set_option maxHeartbeats 1600000
/-! names told and looked up, side by side -/
abbrev vow5 (V : V5) : Int32 := V.2.2.2.2.2.2.2.1
abbrev von5 (V : V5) : Nat → Int32 := V.2.2.2.2.2.2.2.2.1
abbrev vln5 (V : V5) : Nat → Nat := V.2.2.2.2.2.2.2.2.2.2.2.2.2.2.2
abbrev w27_5 (W : W5) : Nat → Int32 := W.2.2.2.2.2.2.2.1
abbrev w28_5 (W : W5) : Nat → Int32 := W.2.2.2.2.2.2.2.2.1
abbrev wfn5 (W : W5) : Int32 := W.2.2.2.2.2.2.2.2.2.1
def nG5 (T : T5) (Bk N : Nat) (V : V5) (W : W5) : Prop := (∃ v, pN5 T Bk N 10 V.1 V.2.1 W.1 W.2.1 v) ∧ (∃ v, pN5 T Bk N 3 V.2.2.1 V.2.2.2.1 W.2.2.1 W.2.2.2.1 v) ∧ (∃ v, pN5 T Bk N 10 V.2.2.2.2.1 V.2.2.2.2.2.1 W.2.2.2.2.1 W.2.2.2.2.2.1 v ∧ ∀ k, k < v → V.2.2.2.2.2.2.1 k = W.2.2.2.2.2.2.1 k) ∧ (vln5 V 1006 = 10 ∧ vln5 V 1007 = 3 ∧ vln5 V 1008 = 10 ∧ vln5 V 1009 = 8 ∧ vln5 V 1011 = 41)
def nO5 (T : T5) (Bk N : Nat) (V : V5) (W : W5) : Prop := ∃ f w, f < 10 ∧ wfn5 W = Int32.ofNat f ∧ V.2.2.2.2.1 = Int32.ofNat f ∧ pN5 T Bk N 8 (vow5 V) (von5 V) (w27_5 W f) (fun k => w28_5 W (8 * f + k)) w
section
variable {T : T5} {X : X5} {Bk N : Nat} {Z : Int32} {V : V5} {W : W5} {a l : Nat} {e : E5} {σ : rS}
theorem nt_5 {mn mo s0 y : Int32} (H : TR5 T X Bk N Z) (L : LR5 T X Bk N Z V W a l e σ) (hk : e.1 paKind = 140) (hy : y = 0 ∨ y = 1) (hs : s0 = y) : sr5 (fun e' r σ' => LR5 T X Bk N Z V W (a + 1) l e' σ' ∧ r = Int32.ofNat a ∧ T.2.1 a = 140 ∧ (g5_fresh_78 mn mo (σ.1 10) y σ).2 = Int32.ofNat (Bk + a) ∧ mn < mo) (f5_Pa_newName_113 mn mo s0 e) (g5_fresh_78 mn mo (σ.1 10) y σ).1 := by
  have h1 := H.1
  have ha := L.2.2.1.1
  unfold f5_Pa_newName_113 g5_fresh_78
  dsimp only [pb5]
  rw [lr_ir5 L, if_neg ne105, hs]
  rcases hy with rfl | rfl
  · rw [if_pos rfl, if_pos rfl]
    unfold f5_Pa_newName_128 g5_fresh_98
    dsimp only [pb5]
    rw [lr_ir5 L, if_neg ne105]
    by_cases c : mn < mo
    · rw [if_pos c, if_pos c]
      unfold f5_Pa_newName_143
      refine sr_b5 (sr_take H L (by rw [hk]; decide)) (fun e' _ n Q => ?_) kq_rf (fun p e' _ d => dq_i5 d)
      refine sr_i5 n ⟨Q.1, ?_, by rw [← L.2.2.1.2.2.2.1]; exact hk, L.2.2.1.2.2.1, c⟩
      rw [Q.1.2.2.1.2.1, ← on_15 (by omega)]
      exact Int32.add_sub_cancel _ _
    · rw [if_neg c, if_neg c, lr_rva5 H L]
      exact sr_q5 (by decide) (lr_fl5 H L).1 (lr_fl5 H L).2 (kq_go kq_rf)
  · rw [if_neg (by decide), if_neg (by decide), lr_rva5 H L]
    exact sr_q5 (by decide) (lr_fl5 H L).1 (lr_fl5 H L).2 (kq_fresh_98 kq_rf)
theorem sr_new {inF mn mo : Int32} (H : TR5 T X Bk N Z) (L : LR5 T X Bk N Z V W a l e σ) (G : nG5 T Bk N V W) (O : (inF = 0 ∧ vow5 V = 0) ∨ (inF = 1 ∧ nO5 T Bk N V W)) : sr5 (fun e' r σ' => LR5 T X Bk N Z V W (a + 1) l e' σ' ∧ r = Int32.ofNat a ∧ T.2.1 a = 140 ∧ (g5_fresh inF mn mo σ).2 = Int32.ofNat (Bk + a) ∧ mn < mo) (f5_Pa_newName mn mo e) (g5_fresh inF mn mo σ).1 := by
  have h1 := H.1
  have ha := L.2.2.1.1
  have kd := kd_o5 (lr_kd5 H L)
  unfold f5_Pa_newName g5_fresh
  dsimp only [pm5]
  by_cases hk : e.1 paKind = 140
  · have hd : g5_due 1 σ = (σ, σ.1 10) := by
      unfold g5_due
      rw [(lr_so5 H L).1, if_pos (kd.2.1.mpr hk)]
    have hx : f5_Pa_expect 140 e = .inl (e, ()) := by
      unfold f5_Pa_expect
      rw [if_pos hk]
    rw [hd, hx]
    rw [rdl_5]
    have ku : T.2.1 a = 140 := by rw [← L.2.2.1.2.2.2.1]; exact hk
    have hy := L.2.2.1.2.2.1
    have hat := L.2.2.1.2.1
    have hsx := L.1.2.1
    have htq := L.1.1
    obtain ⟨hV, hW⟩ := L.2.1
    obtain ⟨⟨v1, p1⟩, ⟨v2, p2⟩, ⟨v3, p3, _⟩, g1, g2, g3, g4, _⟩ := G
    have q1 := fun k hk => pN_s5 H hsx p1 (k := k) hk hy ha ku
    have q2 := fun k hk => pN_s5 H hsx p2 (k := k) hk hy ha ku
    have q3 := fun k hk => pN_s5 H hsx p3 (k := k) hk hy ha ku
    have c1 := fnd_n5 (fN_5 H p1 (l1 := vln5 V 1006) (by rw [g1]; exact p1.1) (by rw [g1]; decide) ha ku) (by have := p1.1; omega)
    have c2 := fnd_n5 (fN_5 H p2 (l1 := vln5 V 1007) (by rw [g2]; exact p2.1) (by rw [g2]; decide) ha ku) (by have := p2.1; omega)
    have c3 := fnd_n5 (fN_5 H p3 (l1 := vln5 V 1008) (by rw [g3]; exact p3.1) (by rw [g3]; decide) ha ku) (by have := p3.1; omega)
    subst hV
    subst hW
    obtain ⟨y1, b1, d1, t1⟩ := tl0_5 (σ := σ) (tok := σ.1 10) (P := fun k => dn5 T (e.2.1 1006 k).toInt.toNat a) (by have := p1.1; omega) p1.2.2.1 q1 fu5 0 0 (Or.inl rfl) (by omega) (by have := p1.1; unfold fu5; omega)
    obtain ⟨y2, b2, d2, t2⟩ := tl4_5 (σ := σ) (tok := σ.1 10) (P := fun k => dn5 T (e.2.1 1007 k).toInt.toNat a) (by have := p2.1; omega) p2.2.2.1 q2 fu5 0 y1 b1 (by omega) (by have := p2.1; unfold fu5; omega)
    obtain ⟨y3, b3, d3, t3⟩ := tl8_5 (σ := σ) (tok := σ.1 10) (P := fun k => dn5 T (e.2.1 1008 k).toInt.toNat a) (by have := p3.1; omega) p3.2.2.1 q3 fu5 0 y2 b2 (by omega) (by have := p3.1; unfold fu5; omega)
    have tt : g5_isTold (σ.1 10) σ = y3 := by
      unfold g5_isTold
      exact t1.trans (t2.trans t3)
    dsimp only [pb5]
    rw [tt, htq, hat]
    -- the own names
    have own : ∃ y4 : Int32, (y4 = 0 ∨ y4 = 1) ∧ g5_fresh_18 fu5 inF mn mo (σ.1 10) y3 0 σ = g5_fresh_78 mn mo (σ.1 10) y4 σ ∧ (y4 = 0 ↔ (y3 = 0 ∧ f5_Ta_findName T (e.2.1 paOwnNames) (e.2.2 paOwnNames) (e.1 paOwns) (Int32.ofNat a) = -1)) := by
      rcases O with ⟨o1, o2⟩ | ⟨o1, f, w, o2, o3, o4, o5⟩
      · have o2' : e.1 paOwns = Int32.ofNat 0 := o2
        have pz : pN5 T Bk N 0 (e.1 paOwns) (e.2.1 paOwnNames) 0 (fun _ => 0) 0 := ⟨Nat.le_refl 0, o2', rfl, fun k hk => absurd hk (by omega)⟩
        have c4 := fnd_n5 (fN_5 H pz (l1 := e.2.2 paOwnNames) (by omega) (by show e.2.2 1009 ≤ 1000; have z : e.2.2 1009 = 8 := g4; rw [z]; decide) ha ku) (by omega)
        refine ⟨y3, b3, ?_, ⟨fun q => ⟨q, c4.mpr (fun k hk => absurd hk (by omega))⟩, fun q => q.1⟩⟩
        rw [show fu5 = 4294967295 + 1 from rfl, g5_fresh_18, if_pos o1]
      · have q4 := fun k hk => pN_s5 H hsx o5 (k := k) hk hy ha ku
        have c4 := fnd_n5 (fN_5 H o5 (l1 := e.2.2 paOwnNames) (by have z : e.2.2 1009 = 8 := g4; show w ≤ e.2.2 1009; rw [z]; exact o5.1) (by show e.2.2 1009 ≤ 1000; have z : e.2.2 1009 = 8 := g4; rw [z]; decide) ha ku) (by have := o5.1; omega)
        obtain ⟨y4, b4, d4, t4⟩ := fr8_5 (σ := σ) (inF := inF) (mn := mn) (mo := mo) (tok := σ.1 10) (P := fun k => dn5 T (e.2.1 1009 k).toInt.toNat a) (by rw [o1]; decide) (by have := o5.1; omega) o3 (by omega) o5.2.2.1 q4 fu5 0 y3 b3 (by omega) (by have := o5.1; unfold fu5; omega)
        exact ⟨y4, b4, t4, d4.trans ⟨fun q => ⟨q.1, c4.mpr (fun k hk => q.2 k (by omega) hk)⟩, fun q => ⟨q.1, fun j _ hj => c4.mp q.2 j hj⟩⟩⟩
    obtain ⟨y4, b4, t4, d4⟩ := own
    rw [t4]
    have hall : y3 = 0 ↔ (f5_Ta_findName T (e.2.1 paVarNames) (e.2.2 paVarNames) (e.1 coVars) (Int32.ofNat a) = -1 ∧ f5_Ta_findName T (e.2.1 paArrayNames) (e.2.2 paArrayNames) (e.1 coArrays) (Int32.ofNat a) = -1 ∧ f5_Ta_findName T (e.2.1 paFunctionNames) (e.2.2 paFunctionNames) (e.1 coFunctions) (Int32.ofNat a) = -1) := by
      constructor
      · intro q
        obtain ⟨z2, z3⟩ := d3.mp q
        obtain ⟨z1, z4⟩ := d2.mp z2
        obtain ⟨_, z5⟩ := d1.mp z1
        exact ⟨c1.mpr (fun k hk => z5 k (by omega) hk), c2.mpr (fun k hk => z4 k (by omega) hk), c3.mpr (fun k hk => z3 k (by omega) hk)⟩
      · rintro ⟨z1, z2, z3⟩
        exact d3.mpr ⟨d2.mpr ⟨d1.mpr ⟨rfl, fun j _ hj => c1.mp z1 j hj⟩, fun j _ hj => c2.mp z2 j hj⟩, fun j _ hj => c3.mp z3 j hj⟩
    have one : ¬ y4 = 0 → y4 = 1 := fun q => b4.resolve_left q
    by_cases f1 : f5_Ta_findName T (e.2.1 paVarNames) (e.2.2 paVarNames) (e.1 coVars) (Int32.ofNat a) = -1
    · rw [if_pos f1]
      by_cases f2 : f5_Ta_findName T (e.2.1 paArrayNames) (e.2.2 paArrayNames) (e.1 coArrays) (Int32.ofNat a) = -1
      · rw [if_pos f2]
        by_cases f3 : f5_Ta_findName T (e.2.1 paFunctionNames) (e.2.2 paFunctionNames) (e.1 coFunctions) (Int32.ofNat a) = -1
        · rw [if_pos f3]
          by_cases f4 : f5_Ta_findName T (e.2.1 paOwnNames) (e.2.2 paOwnNames) (e.1 paOwns) (Int32.ofNat a) = -1
          · rw [if_pos f4]
            exact nt_5 H L hk b4 (d4.mpr ⟨hall.mpr ⟨f1, f2, f3⟩, f4⟩).symm
          · rw [if_neg f4]
            exact nt_5 H L hk b4 (one (fun q => f4 (d4.mp q).2)).symm
        · rw [if_neg f3]
          exact nt_5 H L hk b4 (one (fun q => f3 (hall.mp (d4.mp q).1).2.2)).symm
      · rw [if_neg f2]
        exact nt_5 H L hk b4 (one (fun q => f2 (hall.mp (d4.mp q).1).2.1)).symm
    · rw [if_neg f1]
      exact nt_5 H L hk b4 (one (fun q => f1 (hall.mp (d4.mp q).1).1)).symm
  · have hx : f5_Pa_expect 140 e = .inr (2, T.2.2.1 a) := by
      unfold f5_Pa_expect
      rw [if_neg hk, lr_rva5 H L]
    have hd : (g5_due 1 σ).1 = g5_flaw 2 (σ.1 10) σ := by
      unfold g5_due
      rw [(lr_so5 H L).1, if_neg (fun q => hk (kd.2.1.mp q))]
      rfl
    rw [hx, hd]
    exact sr_q5 (by decide) (lr_fl5 H L).1 (lr_fl5 H L).2 (kq_fresh_18 _ _ _ _ _ _ _ _ kq_rf)
theorem fr_t5 {inF mn mo : Int32} : (g5_due 1 σ).2 = σ.1 10 := by
  unfold g5_due
  by_cases c : σ.2.2.1 5 (σ.1 10).toNatClampNeg = 1
  · rw [if_pos c]
  · rw [if_neg c]
    show (g5_flaw 2 (σ.1 10) σ).1 10 = σ.1 10
    unfold g5_flaw g5_flaw_23
    dsimp only [pb5]
    by_cases c1 : σ.1 11 = 0
    · rw [if_pos c1]
      by_cases c2 : σ.2.2.1 5 (σ.1 10).toNatClampNeg = 4
      · rw [if_pos c2]; rfl
      · rw [if_neg c2]; rfl
    · rw [if_neg c1]
/-- a reference noted -/
theorem lr_395 {i : Nat} {x : Int32} (L : LR5 T X Bk N Z V W a l e σ) : LR5 T X Bk N Z V W a l e (riU σ 39 i x) := L
theorem sr_look {t : Nat} {tok rf : Int32} {r : R5 Int32} {P : Int32 → Prop} (H : TR5 T X Bk N Z) (L : LR5 T X Bk N Z V W a l e σ) (ht : t < N) (htok : tok = Int32.ofNat (Bk + t)) (hr : (rf = -1 ∧ r = .inr (rv5 11 (Int32.ofNat t) e)) ∨ (rf ≠ -1 ∧ ∃ x, r = .inl (e, x) ∧ P x)) : sr5 (fun e' x σ' => LR5 T X Bk N Z V W a l e' σ' ∧ e' = e ∧ P x) r (g5_look tok rf σ) := by
  have h1 := H.1
  have e6 : σ.2.2.1 6 tok.toNatClampNeg = T.2.2.1 t := by
    rw [htok, cl_5 (by omega), H.2.1 t ht, ← L.1.2.1]
    rfl
  unfold g5_look g5_look_28
  dsimp only [pb5]
  rcases hr with ⟨h, hr⟩ | ⟨h, x, hr, hx⟩
  · rw [hr, if_pos h, if_pos L.2.2.2.1.1, lr_rv5 H L ht]
    refine sr_r5 (by decide) rfl ?_
    show (siU σ 11 11).2.2.1 6 tok.toNatClampNeg = _
    exact e6
  · rw [hr, if_neg h]
    exact sr_i5 (lr_k5 L) ⟨lr_395 L, rfl, hx⟩
theorem sr_findArray {t : Nat} {tok : Int32} (H : TR5 T X Bk N Z) (L : LR5 T X Bk N Z V W a l e σ) (G : nG5 T Bk N V W) (ht : t < N) (kt : T.2.1 t = 140) (htok : tok = Int32.ofNat (Bk + t)) : sr5 (fun e' x σ' => LR5 T X Bk N Z V W a l e' σ' ∧ e' = e ∧ ∃ k : Nat, k ≤ 3 ∧ x = Int32.ofNat k) (f5_Pa_findArray (Int32.ofNat t) e) (g5_look tok (g5_arrayOf tok σ) σ) := by
  obtain ⟨hV, hW⟩ := L.2.1
  have hsx := L.1.2.1
  have htq := L.1.1
  refine sr_look H L ht htok ?_
  obtain ⟨_, ⟨v2, p2⟩, _, g1, g2, g3, g4, _⟩ := G
  have q2 := fun k hk => pN_s5 H hsx p2 (k := k) hk htok ht kt
  have F2 := fN_5 H p2 (l1 := vln5 V 1007) (by rw [g2]; exact p2.1) (by rw [g2]; decide) ht kt
  have c2 := fnd_n5 F2 (by have := p2.1; omega)
  subst hV
  subst hW
  have z := ar2_5 (σ := σ) (tok := tok) (P := fun k => dn5 T (e.2.1 1007 k).toInt.toNat t) (by have := p2.1; omega) p2.2.2.1 q2 fu5 0 (by omega) (by have := p2.1; unfold fu5; omega) (fun j q => absurd q (by omega))
  unfold f5_Pa_findArray
  dsimp only [pb5]
  rw [htq]
  have hv := p2.1
  rcases z with ⟨j, j1, j2, _, j3⟩ | ⟨j1, j2⟩
  · have n : ¬ f5_Ta_findName T (e.2.1 paArrayNames) (e.2.2 paArrayNames) (e.1 coArrays) (Int32.ofNat t) = -1 := fun q => (c2.mp q) j j1 j2
    have hk3 : ∃ k : Nat, k ≤ 3 ∧ f5_Ta_findName T (e.2.1 paArrayNames) (e.2.2 paArrayNames) (e.1 coArrays) (Int32.ofNat t) = Int32.ofNat k := by
      rcases F2 with ⟨q, _⟩ | ⟨k, k1, _, _, k2⟩
      · exact absurd q n
      · exact ⟨k, by omega, k2⟩
    refine Or.inr ⟨?_, _, by rw [if_neg n], hk3⟩
    unfold g5_arrayOf
    rw [show (0 : Int32) = Int32.ofNat 0 from rfl, j3]
    intro q
    have y := congrArg Int32.toInt q
    have lj := ofn_i (n := j) (by omega)
    have l2 : (200 : Int32).toInt = 200 := rfl
    have l3 : (-1 : Int32).toInt = -1 := rfl
    rw [add_i (by omega) (by omega)] at y
    omega
  · have n : f5_Ta_findName T (e.2.1 paArrayNames) (e.2.2 paArrayNames) (e.1 coArrays) (Int32.ofNat t) = -1 := c2.mpr j1
    exact Or.inl ⟨j2, by rw [if_pos n]⟩
theorem sr_findVariable {t : Nat} {tok : Int32} (H : TR5 T X Bk N Z) (L : LR5 T X Bk N Z V W a l e σ) (G : nG5 T Bk N V W) (O : nO5 T Bk N V W) (ht : t < N) (kt : T.2.1 t = 140) (htok : tok = Int32.ofNat (Bk + t)) : sr5 (fun e' _ σ' => LR5 T X Bk N Z V W a l e' σ' ∧ e' = e ∧ True) (f5_Pa_findVariable (Int32.ofNat t) e) (g5_look tok (g5_variableOf tok σ) σ) := by
  obtain ⟨hV, hW⟩ := L.2.1
  have hsx := L.1.2.1
  have htq := L.1.1
  refine sr_look H L ht htok ?_
  obtain ⟨⟨v1, p1⟩, _, _, g1, g2, g3, g4, _⟩ := G
  obtain ⟨f, w, o2, o3, o4, o5⟩ := O
  have q1 := fun k hk => pN_s5 H hsx p1 (k := k) hk htok ht kt
  have q4 := fun k hk => pN_s5 H hsx o5 (k := k) hk htok ht kt
  have c1 := fnd_n5 (fN_5 H p1 (l1 := vln5 V 1006) (by rw [g1]; exact p1.1) (by rw [g1]; decide) ht kt) (by have := p1.1; omega)
  have c4 := fnd_n5 (fN_5 H o5 (l1 := vln5 V 1009) (by rw [g4]; exact o5.1) (by rw [g4]; decide) ht kt) (by have := o5.1; omega)
  subst hV
  subst hW
  have z4 := va2_5 (σ := σ) (tok := tok) (P := fun k => dn5 T (e.2.1 1009 k).toInt.toNat t) (by have := o5.1; omega) o3 (by omega) o5.2.2.1 q4 fu5 0 (by omega) (by have := o5.1; unfold fu5; omega) (fun j q => absurd q (by omega))
  have z1 := va5_5 (σ := σ) (tok := tok) (P := fun k => dn5 T (e.2.1 1006 k).toInt.toNat t) (by have := p1.1; omega) p1.2.2.1 q1 fu5 0 (by omega) (by have := p1.1; unfold fu5; omega) (fun j q => absurd q (by omega))
  unfold f5_Pa_findVariable
  dsimp only [pb5]
  rw [htq]
  have hv1 := p1.1
  have hv4 := o5.1
  have l3 : (-1 : Int32).toInt = -1 := rfl
  rcases z4 with ⟨j, j1, j2, _, j3⟩ | ⟨j1, j2⟩
  · have n : ¬ f5_Ta_findName T (e.2.1 paOwnNames) (e.2.2 paOwnNames) (e.1 paOwns) (Int32.ofNat t) = -1 := fun q => (c4.mp q) j j1 j2
    refine Or.inr ⟨?_, _, by rw [if_neg n], trivial⟩
    unfold g5_variableOf
    rw [show (0 : Int32) = Int32.ofNat 0 from rfl, j3]
    intro q
    have y := congrArg Int32.toInt q
    have lj := ofn_i (n := j) (by omega)
    have l2 : (100 : Int32).toInt = 100 := rfl
    rw [add_i (by omega) (by omega)] at y
    omega
  · have n : f5_Ta_findName T (e.2.1 paOwnNames) (e.2.2 paOwnNames) (e.1 paOwns) (Int32.ofNat t) = -1 := c4.mpr j1
    rcases z1 with ⟨i, i1, i2, _, i3⟩ | ⟨i1, i2⟩
    · have n1 : ¬ f5_Ta_findName T (e.2.1 paVarNames) (e.2.2 paVarNames) (e.1 coVars) (Int32.ofNat t) = -1 := fun q => (c1.mp q) i i1 i2
      refine Or.inr ⟨?_, _, by rw [if_pos n, if_neg n1], trivial⟩
      have z : g5_variableOf tok σ = Int32.ofNat i := by unfold g5_variableOf; exact j2.trans i3
      rw [z]
      intro q
      have y := congrArg Int32.toInt q
      have li := ofn_i (n := i) (by omega)
      omega
    · have n1 : f5_Ta_findName T (e.2.1 paVarNames) (e.2.2 paVarNames) (e.1 coVars) (Int32.ofNat t) = -1 := c1.mpr i1
      exact Or.inl ⟨j2.trans i2, by rw [if_pos n, if_pos n1]⟩
end

end
section
set_option maxHeartbeats 1600000
/-! operators that wait, on both sides, as lists (the latest first) -/
def z05 : rS := (fun _ => 0, fun _ => 0, fun _ _ => 0, fun _ _ => 0)
def rk5 (s : Int32) : Int32 := g5_rank s z05
theorem rk_5 {s : Int32} {σ : rS} : g5_rank s σ = rk5 s := rfl
def stk5 (row : Nat → Int32) : List Int32 → Prop
  | [] => True
  | x :: r => row r.length = x ∧ stk5 row r
theorem stk_e5 {row row' : Nat → Int32} : ∀ {L : List Int32}, (∀ i, i < L.length → row' i = row i) → stk5 row L → stk5 row' L
  | [], _, _ => trivial
  | x :: r, h, s => ⟨by rw [h r.length (by rw [List.length_cons]; omega)]; exact s.1, stk_e5 (fun i hi => h i (by rw [List.length_cons]; omega)) s.2⟩
def wC5 (e : E5) (C : List Int32) : Prop := e.1 paWaits = Int32.ofNat C.length ∧ stk5 (e.2.1 paWaiting) C
def wS5 (σ : rS) (S : List Int32) : Prop := σ.1 48 = Int32.ofNat S.length ∧ stk5 (σ.2.2.1 50) S
/-- a sign with no operands yet, a bracket, an operator -/
def un5 (s : Int32) : Prop := s = 1000 ∨ s = 1001
def wr5 (c s : Int32) : Prop := (f5_Pa_rankOf c = 6 ∧ rk5 s = 0 ∧ un5 s) ∨ (f5_Pa_rankOf c = 0 ∧ rk5 s = 0 ∧ ((c = 100 ∧ s = 40) ∨ (c ≠ 100 ∧ s = 91))) ∨ (0 < (rk5 s).toInt ∧ (rk5 s).toInt ≤ 5 ∧ f5_Pa_rankOf c = rk5 s ∧ ¬ un5 s ∧ s ≠ 40 ∧ s ≠ 91)
def a25 : List Int32 → List Int32 → Prop
  | [], [] => True
  | c :: C, s :: S => wr5 c s ∧ a25 C S
  | _, _ => False
def nu5 : List Int32 → Prop
  | [] => True
  | s :: _ => ¬ un5 s
/-- below an operator that waits there is no sign without its operand -/
def wf5 : List Int32 → Prop
  | [] => True
  | s :: r => (0 < (rk5 s).toInt → nu5 r) ∧ wf5 r
def bk5 : List Int32 → Nat
  | [] => 0
  | s :: r => (if s = 40 ∨ s = 91 then 1 else 0) + bk5 r
def un6 : List Int32 → Prop
  | [] => True
  | c :: r => f5_Pa_rankOf c = 6 ∧ un6 r
def drC5 (r : Int32) : List Int32 → List Int32
  | [] => []
  | c :: C => if f5_Pa_rankOf c < r then c :: C else drC5 r C
def drR5 (r : Int32) : List Int32 → List Int32
  | [] => []
  | s :: S => if rk5 s < r then s :: S else if rk5 s ≤ 0 then s :: S else drR5 r S
def drU5 : List Int32 → List Int32
  | [] => []
  | s :: S => if s = 1000 ∨ s = 1001 then drU5 S else s :: S
theorem a2_l5 : ∀ {C S : List Int32}, a25 C S → C.length = S.length
  | [], [], _ => rfl
  | _ :: _, _ :: _, h => by rw [List.length_cons, List.length_cons, a2_l5 h.2]
  | [], _ :: _, h => h.elim
  | _ :: _, [], h => h.elim
theorem dC_l5 {r : Int32} : ∀ {C : List Int32}, (drC5 r C).length ≤ C.length
  | [] => Nat.le_refl _
  | c :: C => by
    unfold drC5
    by_cases h : f5_Pa_rankOf c < r
    · rw [if_pos h]; exact Nat.le_refl _
    · rw [if_neg h, List.length_cons]; have := dC_l5 (r := r) (C := C); omega
/-- operators settled: both lists alike -/
theorem dr_5 {r : Int32} (h1 : 1 ≤ r.toInt) (h5 : r.toInt ≤ 5) : ∀ {C S : List Int32}, a25 C S → wf5 S → nu5 S → a25 (drC5 r C) (drR5 r S) ∧ wf5 (drR5 r S) ∧ nu5 (drR5 r S) ∧ bk5 (drR5 r S) = bk5 S
  | [], [], _, _, _ => ⟨trivial, trivial, trivial, rfl⟩
  | c :: C, s :: S, h, w, n => by
    have k6 : (6 : Int32).toInt = 6 := rfl
    have k0 : (0 : Int32).toInt = 0 := rfl
    unfold drC5 drR5
    rcases h.1 with ⟨a, b, d⟩ | ⟨a, b, d⟩ | ⟨a, b, d, f, g, i⟩
    · exact absurd d n
    · rw [a, b, if_pos (by rw [lti, k0]; omega), if_pos (by rw [lti, k0]; omega)]
      exact ⟨h, w, n, rfl⟩
    · rw [d]
      by_cases z : rk5 s < r
      · rw [if_pos z, if_pos z]
        exact ⟨h, w, n, rfl⟩
      · rw [if_neg z, if_neg z, if_neg (by rw [lei, k0]; omega)]
        obtain ⟨q1, q2, q3, q4⟩ := dr_5 h1 h5 h.2 w.2 (w.1 a)
        refine ⟨q1, q2, q3, ?_⟩
        rw [q4]
        show _ = (if s = 40 ∨ s = 91 then 1 else 0) + bk5 S
        rw [if_neg (fun q => by rcases q with q | q; exact g q; exact i q)]
        omega
  | [], _ :: _, h, _, _ => h.elim
  | _ :: _, [], h, _, _ => h.elim
theorem dr_U5 {r : Int32} (h5 : r.toInt ≤ 5) : ∀ {U C : List Int32}, un6 U → drC5 r (U ++ C) = drC5 r C
  | [], _, _ => rfl
  | c :: U, C, h => by
    have k6 : (6 : Int32).toInt = 6 := rfl
    show (if f5_Pa_rankOf c < r then _ else drC5 r (U ++ C)) = _
    rw [h.1, if_neg (by rw [lti, k6]; omega)]
    exact dr_U5 h5 h.2
/-- signs turned: what the class still holds in front -/
theorem dU_5 : ∀ {C S : List Int32}, a25 C S → wf5 S → ∃ U C', C = U ++ C' ∧ un6 U ∧ a25 C' (drU5 S) ∧ wf5 (drU5 S) ∧ nu5 (drU5 S) ∧ bk5 (drU5 S) = bk5 S
  | [], [], _, _ => ⟨[], [], rfl, trivial, trivial, trivial, trivial, rfl⟩
  | c :: C, s :: S, h, w => by
    unfold drU5
    by_cases z : s = 1000 ∨ s = 1001
    · rw [if_pos z]
      obtain ⟨U, C', q1, q2, q3, q4, q5, q6⟩ := dU_5 h.2 w.2
      have hc : f5_Pa_rankOf c = 6 := by
        rcases h.1 with ⟨a, _⟩ | ⟨_, _, d⟩ | ⟨_, _, _, f, _⟩
        · exact a
        · rcases d with ⟨_, d⟩ | ⟨_, d⟩ <;> rw [d] at z <;> exact absurd z (by decide)
        · exact absurd z f
      refine ⟨c :: U, C', by rw [q1]; rfl, ⟨hc, q2⟩, q3, q4, q5, ?_⟩
      rw [q6]
      show _ = (if s = 40 ∨ s = 91 then 1 else 0) + bk5 S
      rw [if_neg (fun q => by rcases z with z | z <;> rw [z] at q <;> exact absurd q (by decide))]
      omega
    · rw [if_neg z]
      exact ⟨[], c :: C, rfl, trivial, h, w, z, rfl⟩
  | [], _ :: _, h, _ => h.elim
  | _ :: _, [], h, _ => h.elim
/-- frames: what isn't looked at by the states' likeness -/
def fe5 (e e' : E5) : Prop := tq5 e' = tq5 e ∧ gE5 e' = gE5 e ∧ e'.1 paAt = e.1 paAt ∧ e'.1 paKind = e.1 paKind ∧ e'.1 paOpen = e.1 paOpen
def fs5 (σ σ' : rS) : Prop := sx5 σ' = sx5 σ ∧ gS5 σ' = gS5 σ ∧ σ'.1 2 = σ.1 2 ∧ σ'.1 10 = σ.1 10 ∧ σ'.1 11 = σ.1 11 ∧ σ'.1 46 = σ.1 46 ∧ σ'.1 47 = σ.1 47 ∧ σ'.1 13 = σ.1 13
theorem fe_r5 {e : E5} : fe5 e e := ⟨rfl, rfl, rfl, rfl, rfl⟩
theorem fs_r5 {σ : rS} : fs5 σ σ := ⟨rfl, rfl, rfl, rfl, rfl, rfl, rfl, rfl⟩
theorem fe_t5 {e f g : E5} (h : fe5 e f) (k : fe5 f g) : fe5 e g := ⟨k.1.trans h.1, k.2.1.trans h.2.1, k.2.2.1.trans h.2.2.1, k.2.2.2.1.trans h.2.2.2.1, k.2.2.2.2.trans h.2.2.2.2⟩
theorem fs_t5 {e f g : rS} (h : fs5 e f) (k : fs5 f g) : fs5 e g := ⟨k.1.trans h.1, k.2.1.trans h.2.1, k.2.2.1.trans h.2.2.1, k.2.2.2.1.trans h.2.2.2.1, k.2.2.2.2.1.trans h.2.2.2.2.1, k.2.2.2.2.2.1.trans h.2.2.2.2.2.1, k.2.2.2.2.2.2.1.trans h.2.2.2.2.2.2.1, k.2.2.2.2.2.2.2.trans h.2.2.2.2.2.2.2⟩
theorem lr_fe5 {T : T5} {X : X5} {Bk N a l : Nat} {Z : Int32} {V : V5} {W : W5} {e e' : E5} {σ σ' : rS} (L : LR5 T X Bk N Z V W a l e σ) (h : fe5 e e') (k : fs5 σ σ') : LR5 T X Bk N Z V W a l e' σ' := by
  obtain ⟨h1, h2, h3, h4, h5⟩ := h
  obtain ⟨k1, k2, k3, k4, k5, k6, k7, k8⟩ := k
  refine ⟨⟨h1.trans L.1.1, k1.trans L.1.2.1, k3.trans L.1.2.2⟩, ⟨h2.trans L.2.1.1, k2.trans L.2.1.2⟩, ⟨L.2.2.1.1, h3.trans L.2.2.1.2.1, k4.trans L.2.2.1.2.2.1, h4.trans L.2.2.1.2.2.2.1, L.2.2.1.2.2.2.2⟩, ⟨k5.trans L.2.2.2.1.1, k6.trans L.2.2.2.1.2.1, k7.trans L.2.2.2.1.2.2⟩, ⟨?_, ?_⟩⟩
  · rw [k8, h5]; exact L.2.2.2.2.1
  · rw [h5]; exact L.2.2.2.2.2
theorem lr_l5 {T : T5} {X : X5} {Bk N a l m : Nat} {Z : Int32} {V : V5} {W : W5} {e : E5} {σ : rS} (L : LR5 T X Bk N Z V W a l e σ) (h : m ≤ l) : LR5 T X Bk N Z V W a m e σ := ⟨L.1, L.2.1, L.2.2.1, L.2.2.2.1, L.2.2.2.2.1, by have := L.2.2.2.2.2; omega⟩
theorem tp_5 {σ : rS} {s : Int32} {S : List Int32} (h : wS5 σ (s :: S)) (hl : S.length ≤ 1000000) : g5_top σ = s ∧ (σ.1 48 - 1).toNatClampNeg = S.length ∧ σ.1 48 - 1 = Int32.ofNat S.length := by
  have e0 : σ.1 48 = Int32.ofNat (S.length + 1) := h.1
  have l0 := ofn_i (n := S.length + 1) (by omega)
  have l1 := ofn_i (n := S.length) (by omega)
  have e1 : σ.1 48 - 1 = Int32.ofNat S.length := by
    apply Int32.toInt_inj.mp
    rw [e0, sub_i (by rw [t1i]; omega) (by rw [t1i]; omega), l0, l1, t1i]
    omega
  have e2 : (σ.1 48 - 1).toNatClampNeg = S.length := by rw [e1, cl_5 (by omega)]
  refine ⟨?_, e2, e1⟩
  unfold g5_top
  rw [if_neg (by rw [e0, lei, l0, t0i]; omega), e2]
  exact h.2.1
theorem tp_05 {σ : rS} (h : wS5 σ []) : g5_top σ = 0 := by
  unfold g5_top
  have e0 : σ.1 48 = Int32.ofNat 0 := h.1
  rw [if_pos (by rw [e0]; decide)]
/-- the reference settles -/
theorem se_m5 {r : Int32} (h1 : 1 ≤ r.toInt) : ∀ (m : Nat) (S : List Int32) (σ : rS), wS5 σ S → S.length ≤ 1000000 → S.length < m → σ.1 11 = 0 → σ.1 46 = 0 → σ.1 47 = 0 → fs5 σ (g5_settle_0 m r σ) ∧ wS5 (g5_settle_0 m r σ) (drR5 r S)
  | 0, _, _, _, _, h, _, _, _ => absurd h (by omega)
  | m + 1, [], σ, w, _, _, f0, f1, f2 => by
    have go : g5_goesOn σ = 1 := by
      unfold g5_goesOn g5_isRight
      dsimp only [pb5]
      rw [if_pos f0, if_neg (by decide), if_pos f2]
    have k : rk5 0 = 0 := by decide
    rw [g5_settle_0]
    dsimp only [pb5]
    rw [go, if_neg (by decide), tp_05 w, rk_5, k, if_pos (by rw [lti, t0i]; omega)]
    exact ⟨fs_r5, w⟩
  | m + 1, s :: S, σ, w, hl, hm, f0, f1, f2 => by
    have go : g5_goesOn σ = 1 := by
      unfold g5_goesOn g5_isRight
      dsimp only [pb5]
      rw [if_pos f0, if_neg (by decide), if_pos f2]
    rw [List.length_cons] at hl hm
    obtain ⟨t1, t2, t3⟩ := tp_5 w (by omega)
    rw [g5_settle_0]
    dsimp only [pb5]
    rw [go, if_neg (by decide), t1, rk_5]
    unfold drR5
    by_cases z : rk5 s < r
    · rw [if_pos z, if_pos z]
      exact ⟨fs_r5, w⟩
    · rw [if_neg z, if_neg z]
      by_cases y : rk5 s ≤ 0
      · rw [if_pos y, if_pos y]
        exact ⟨fs_r5, w⟩
      · rw [if_neg y, if_neg y]
        have ap : g5_apply σ = siU (siU σ 48 (σ.1 48 - 1)) 49 (σ.1 49 - 1) := by
          unfold g5_apply
          dsimp only [pb5]
          exact if_pos f1
        rw [ap]
        obtain ⟨q1, q2⟩ := se_m5 h1 m S (siU (siU σ 48 (σ.1 48 - 1)) 49 (σ.1 49 - 1)) ⟨t3, w.2.2⟩ (by omega) (by omega) f0 f1 f2
        exact ⟨fs_t5 (⟨rfl, rfl, rfl, rfl, rfl, rfl, rfl, rfl⟩ : fs5 σ (siU (siU σ 48 (σ.1 48 - 1)) 49 (σ.1 49 - 1))) q1, q2⟩
theorem se_5 {r : Int32} {S : List Int32} {σ : rS} (h1 : 1 ≤ r.toInt) (w : wS5 σ S) (hl : S.length ≤ 1000000) (f0 : σ.1 11 = 0) (f1 : σ.1 46 = 0) (f2 : σ.1 47 = 0) : fs5 σ (g5_settle r σ) ∧ wS5 (g5_settle r σ) (drR5 r S) := by
  unfold g5_settle
  exact se_m5 h1 fu5 S σ w hl (by unfold fu5; omega) f0 f1 f2
/-- the reference turns -/
theorem tu_m5 : ∀ (m : Nat) (S : List Int32) (σ : rS), wS5 σ S → S.length ≤ 1000000 → S.length < m → fs5 σ (g5_turn_0 m σ) ∧ wS5 (g5_turn_0 m σ) (drU5 S)
  | 0, _, _, _, _, h => absurd h (by omega)
  | m + 1, [], σ, w, _, _ => by
    rw [g5_turn_0]
    dsimp only [pb5]
    rw [tp_05 w, if_neg (by decide), if_neg (by decide)]
    exact ⟨fs_r5, w⟩
  | m + 1, s :: S, σ, w, hl, hm => by
    rw [List.length_cons] at hl hm
    obtain ⟨t1, t2, t3⟩ := tp_5 w (by omega)
    have st : ∀ (i : Nat) (x : Int32), fs5 σ (g5_turn_0 m (siU (riU σ 52 i x) 48 ((riU σ 52 i x).1 48 - 1))) ∧ wS5 (g5_turn_0 m (siU (riU σ 52 i x) 48 ((riU σ 52 i x).1 48 - 1))) (drU5 S) := fun i x => by
      obtain ⟨q1, q2⟩ := tu_m5 m S (siU (riU σ 52 i x) 48 ((riU σ 52 i x).1 48 - 1)) ⟨t3, w.2.2⟩ (by omega) (by omega)
      exact ⟨fs_t5 (⟨rfl, rfl, rfl, rfl, rfl, rfl, rfl, rfl⟩ : fs5 σ (siU (riU σ 52 i x) 48 ((riU σ 52 i x).1 48 - 1))) q1, q2⟩
    have t20 : (s = 1000 ∨ s = 1001) → ∃ (i : Nat) (x : Int32), g5_turn_20 (g5_turn_0 m) σ = g5_turn_0 m (siU (riU σ 52 i x) 48 ((riU σ 52 i x).1 48 - 1)) := fun _ => by
      unfold g5_turn_20 g5_turn_69
      dsimp only [pb5]
      rw [t1]
      by_cases c : s = 1000
      · rw [if_pos c]
        by_cases d : σ.2.2.1 52 (σ.1 49 - 1).toNatClampNeg = 0
        · rw [if_pos d]; exact ⟨_, _, rfl⟩
        · rw [if_neg d]; exact ⟨_, _, rfl⟩
      · rw [if_neg c]; exact ⟨_, _, rfl⟩
    rw [g5_turn_0]
    dsimp only [pb5]
    rw [t1]
    unfold drU5
    by_cases c : s = 1000
    · obtain ⟨i, x, q⟩ := t20 (Or.inl c)
      rw [if_pos c, if_pos (Or.inl c), q]
      exact st i x
    · by_cases d : s = 1001
      · obtain ⟨i, x, q⟩ := t20 (Or.inr d)
        rw [if_neg c, if_pos d, if_pos (Or.inr d), q]
        exact st i x
      · rw [if_neg c, if_neg d, if_neg (fun q => by rcases q with q | q; exact c q; exact d q)]
        exact ⟨fs_r5, w⟩
theorem tu_5 {S : List Int32} {σ : rS} (w : wS5 σ S) (hl : S.length ≤ 1000000) : fs5 σ (g5_turn σ) ∧ wS5 (g5_turn σ) (drU5 S) := by
  unfold g5_turn
  exact tu_m5 fu5 S σ w hl (by unfold fu5; omega)
theorem ps_5 {S : List Int32} {σ : rS} {x : Int32} (w : wS5 σ S) (hl : S.length ≤ 1000000) : fs5 σ (g5_push x σ) ∧ wS5 (g5_push x σ) (drU5 S) := by
  unfold g5_push
  dsimp only [pb5]
  obtain ⟨q1, q2⟩ := tu_5 (σ := siU (riU σ 52 (σ.1 49).toNatClampNeg x) 49 ((riU σ 52 (σ.1 49).toNatClampNeg x).1 49 + 1)) (S := S) w hl
  exact ⟨fs_t5 (⟨rfl, rfl, rfl, rfl, rfl, rfl, rfl, rfl⟩ : fs5 σ (siU (riU σ 52 (σ.1 49).toNatClampNeg x) 49 ((riU σ 52 (σ.1 49).toNatClampNeg x).1 49 + 1))) q1, q2⟩
theorem hoS_5 {S : List Int32} {σ : rS} {x y : Int32} (w : wS5 σ S) (hl : S.length ≤ 1000000) : fs5 σ (g5_hold x y σ) ∧ wS5 (g5_hold x y σ) (x :: S) := by
  unfold g5_hold
  dsimp only [pb5]
  have e0 : (σ.1 48).toNatClampNeg = S.length := by rw [w.1, cl_5 (by omega)]
  refine ⟨⟨rfl, rfl, rfl, rfl, rfl, rfl, rfl, rfl⟩, ?_, ?_, ?_⟩
  · show σ.1 48 + 1 = Int32.ofNat (S.length + 1)
    rw [w.1, on_15 (by omega)]
  · show (riU (riU σ 50 (σ.1 48).toNatClampNeg x) 51 (σ.1 48).toNatClampNeg y).2.2.1 50 S.length = x
    rw [ri34, if_neg (by decide), ri34, if_pos rfl, e0, if_pos rfl]
  · refine stk_e5 (fun i hi => ?_) w.2
    show (riU (riU σ 50 (σ.1 48).toNatClampNeg x) 51 (σ.1 48).toNatClampNeg y).2.2.1 50 i = σ.2.2.1 50 i
    rw [ri34, if_neg (by decide), ri34, if_pos rfl, e0, if_neg (by omega)]
/-- the class lays down -/
theorem em_m5 {r : Int32} : ∀ (m : Nat) (C : List Int32) (e : E5), wC5 e C → C.length ≤ 1000000 → f5_Pa_emitWaiting_0 m r e = .inr (0, 0) ∨ ∃ e', f5_Pa_emitWaiting_0 m r e = .inl (e', ()) ∧ fe5 e e' ∧ wC5 e' (drC5 r C)
  | 0, _, _, _, _ => Or.inl rfl
  | m + 1, [], e, w, _ => by
    refine Or.inr ⟨e, ?_, fe_r5, w⟩
    have e0 : e.1 paWaits = Int32.ofNat 0 := w.1
    rw [f5_Pa_emitWaiting_0, if_pos (by rw [e0]; decide)]
  | m + 1, c :: C, e, w, hl => by
    rw [List.length_cons] at hl
    have e0 : e.1 paWaits = Int32.ofNat (C.length + 1) := w.1
    have l0 := ofn_i (n := C.length + 1) (by omega)
    have l1 := ofn_i (n := C.length) (by omega)
    have e1 : e.1 paWaits - 1 = Int32.ofNat C.length := by
      apply Int32.toInt_inj.mp
      rw [e0, sub_i (by rw [t1i]; omega) (by rw [t1i]; omega), l0, l1, t1i]
      omega
    have e3 : e.2.1 paWaiting (e.1 paWaits - 1).toNatClampNeg = c := by rw [e1, cl_5 (by omega)]; exact w.2.1
    rw [f5_Pa_emitWaiting_0, if_neg (by rw [e0, lei, l0, t0i]; omega), e3]
    dsimp only [pb5]
    unfold drC5
    by_cases z : f5_Pa_rankOf c < r
    · rw [if_pos z, if_pos z]
      exact Or.inr ⟨e, rfl, fe_r5, w⟩
    · rw [if_neg z, if_neg z, e1]
      have key : ∀ e2 : E5, fe5 e e2 → wC5 e2 C → f5_Pa_emitWaiting_0 m r e2 = .inr (0, 0) ∨ ∃ e', f5_Pa_emitWaiting_0 m r e2 = .inl (e', ()) ∧ fe5 e e' ∧ wC5 e' (drC5 r C) := fun e2 hf hw => by
        rcases em_m5 m C e2 hw (by omega) with q | ⟨e', q1, q2, q3⟩
        · exact Or.inl q
        · exact Or.inr ⟨e', q1, fe_t5 hf q2, q3⟩
      refine key _ ⟨rfl, rfl, rfl, rfl, rfl⟩ ⟨rfl, stk_e5 (fun i hi => ?_) w.2.2⟩
      show (if 1015 = 1015 ∧ ¬ i < (Int32.ofNat C.length).toNatClampNeg then (0 : Int32) else e.2.1 1015 i) = e.2.1 1015 i
      rw [cl_5 (by omega), if_neg (fun q => q.2 hi)]
theorem emC_5 {r : Int32} {C : List Int32} {e : E5} (w : wC5 e C) (hl : C.length ≤ 1000000) : f5_Pa_emitWaiting r e = .inr (0, 0) ∨ ∃ e', f5_Pa_emitWaiting r e = .inl (e', ()) ∧ fe5 e e' ∧ wC5 e' (drC5 r C) := em_m5 fu5 C e w hl
theorem hC_5 {C : List Int32} {e : E5} {x : Int32} (w : wC5 e C) (hl : C.length ≤ 1000000) : ∃ e', f5_Pa_hold x e = .inl (e', ()) ∧ fe5 e e' ∧ wC5 e' (x :: C) := by
  have e0 : (e.1 paWaits).toNatClampNeg = C.length := by rw [w.1, cl_5 (by omega)]
  refine ⟨_, rfl, ⟨rfl, rfl, rfl, rfl, rfl⟩, ?_, ?_, ?_⟩
  · show e.1 paWaits + 1 = Int32.ofNat (C.length + 1)
    rw [w.1, on_15 (by omega)]
  · show (if 1015 = 1015 ∧ C.length = (e.1 paWaits).toNatClampNeg then x else _) = x
    rw [e0, if_pos ⟨rfl, rfl⟩]
  · refine stk_e5 (fun i hi => ?_) w.2
    show (if 1015 = 1015 ∧ i = (e.1 paWaits).toNatClampNeg then x else e.2.1 1015 i) = e.2.1 1015 i
    rw [e0, if_neg (fun q => by omega)]

end
section
set_option maxHeartbeats 1600000
/-! kinds of operators; the count of arguments along the tokens -/
def bp5 (K nu : Int32) : Prop := (f5_Pa_binary K = -1 ∧ rk5 nu = 0) ∨ (f5_Pa_binary K ≠ -1 ∧ 0 < (rk5 nu).toInt ∧ (rk5 nu).toInt ≤ 5 ∧ f5_Pa_rankOf (f5_Pa_binary K) = rk5 nu ∧ ¬ (nu = 1000 ∨ nu = 1001) ∧ nu ≠ 40 ∧ nu ≠ 91)
theorem bp_15 : ∀ n, n < 128 → ((f5_Pa_binary (Int32.ofNat n) = -1 ∧ rk5 (Int32.ofNat n) = 0) ∨ (f5_Pa_binary (Int32.ofNat n) ≠ -1 ∧ 0 < (rk5 (Int32.ofNat n)).toInt ∧ (rk5 (Int32.ofNat n)).toInt ≤ 5 ∧ f5_Pa_rankOf (f5_Pa_binary (Int32.ofNat n)) = rk5 (Int32.ofNat n) ∧ ¬ (Int32.ofNat n = 1000 ∨ Int32.ofNat n = 1001) ∧ Int32.ofNat n ≠ 40 ∧ Int32.ofNat n ≠ 91)) := by decide +kernel
theorem bp_25 : ∀ n, n < 4 → ((f5_Pa_binary (Int32.ofNat (128 + n)) = -1 ∧ rk5 (Int32.ofNat (256 + n)) = 0) ∨ (f5_Pa_binary (Int32.ofNat (128 + n)) ≠ -1 ∧ 0 < (rk5 (Int32.ofNat (256 + n))).toInt ∧ (rk5 (Int32.ofNat (256 + n))).toInt ≤ 5 ∧ f5_Pa_rankOf (f5_Pa_binary (Int32.ofNat (128 + n))) = rk5 (Int32.ofNat (256 + n)) ∧ ¬ (Int32.ofNat (256 + n) = 1000 ∨ Int32.ofNat (256 + n) = 1001) ∧ Int32.ofNat (256 + n) ≠ 40 ∧ Int32.ofNat (256 + n) ≠ 91)) := by decide +kernel
theorem bp_35 : ∀ n, n < 13 → f5_Pa_binary (Int32.ofNat (150 + n)) = -1 := by decide +kernel
theorem bi_5 {K so nu : Int32} (h : kd5 K so nu) : (so = 3 ∧ bp5 K nu) ∨ (¬ so = 3 ∧ f5_Pa_binary K = -1) := by
  rcases h with ⟨a, b⟩ | ⟨a, b⟩ | ⟨a, b⟩ | ⟨a, b⟩ | ⟨a, a2, b, d⟩ | ⟨b, d⟩
  · rw [a, b]; exact Or.inr (by decide)
  · rw [a, b]; exact Or.inr (by decide)
  · rw [a, b]; exact Or.inr (by decide)
  · rw [a, b]; exact Or.inr (by decide)
  · rw [b]
    refine Or.inr ⟨by decide, ?_⟩
    have z := bp_35 (K.toInt - 150).toNat (by omega)
    have e : Int32.ofNat (150 + (K.toInt - 150).toNat) = K := by
      rw [of_t5 (x := K) (by omega)]
      congr 1
      rw [← of_t5 (x := K) (by omega)]
      omega
    rw [e] at z
    exact z
  · refine Or.inl ⟨b, ?_⟩
    rcases d with ⟨d1, d2, d3⟩ | ⟨d1, d2, d3⟩
    · have z := bp_15 K.toInt.toNat (by omega)
      rw [← of_t5 (x := K) (by omega)] at z
      rw [d3]
      exact z
    · have z := bp_25 (K.toInt - 128).toNat (by omega)
      have e : Int32.ofNat (128 + (K.toInt - 128).toNat) = K := by
        apply Int32.toInt_inj.mp
        rw [ofn_i (by omega)]
        omega
      have e2 : Int32.ofNat (256 + (K.toInt - 128).toNat) = nu := by
        apply Int32.toInt_inj.mp
        have l : (128 : Int32).toInt = 128 := rfl
        rw [d3, ofn_i (by omega), add_i (by omega) (by omega), l]
        omega
      rw [e, e2] at z
      exact z
/-- one token more in the count -/
theorem ca_s5 {σ : rS} {m : Nat} {t d n : Int32} (h : ¬ (¬ 0 < d ∧ σ.2.2.1 5 t.toNatClampNeg = 3 ∧ σ.2.2.1 7 t.toNatClampNeg = 41)) : g5_countArguments_45 (m + 1) t d n σ = g5_countArguments_45 m (t + 1) (d + (if σ.2.2.1 5 t.toNatClampNeg = 3 ∧ (σ.2.2.1 7 t.toNatClampNeg = 40 ∨ σ.2.2.1 7 t.toNatClampNeg = 91) then 1 else if σ.2.2.1 5 t.toNatClampNeg = 3 ∧ (σ.2.2.1 7 t.toNatClampNeg = 41 ∨ σ.2.2.1 7 t.toNatClampNeg = 93) then -1 else 0)) (n + (if d + (if σ.2.2.1 5 t.toNatClampNeg = 3 ∧ (σ.2.2.1 7 t.toNatClampNeg = 40 ∨ σ.2.2.1 7 t.toNatClampNeg = 91) then 1 else if σ.2.2.1 5 t.toNatClampNeg = 3 ∧ (σ.2.2.1 7 t.toNatClampNeg = 41 ∨ σ.2.2.1 7 t.toNatClampNeg = 93) then -1 else 0) = 0 ∧ σ.2.2.1 5 t.toNatClampNeg = 3 ∧ σ.2.2.1 7 t.toNatClampNeg = 44 then 1 else 0)) σ := by
  rw [g5_countArguments_45]
  generalize hs : σ.2.2.1 5 t.toNatClampNeg = so at h ⊢
  generalize hn : σ.2.2.1 7 t.toNatClampNeg = nu at h ⊢
  have p184 : ∀ a s0 s1, g5_countArguments_184 (g5_countArguments_45 m) t a s0 s1 σ = g5_countArguments_45 m (t + 1) a (s0 + s1) σ := fun _ _ _ => rfl
  have p71 : g5_countArguments_71 (g5_countArguments_45 m) t d n σ = g5_countArguments_45 m (t + 1) (d + (if so = 3 ∧ (nu = 40 ∨ nu = 91) then 1 else if so = 3 ∧ (nu = 41 ∨ nu = 93) then -1 else 0)) (n + (if d + (if so = 3 ∧ (nu = 40 ∨ nu = 91) then 1 else if so = 3 ∧ (nu = 41 ∨ nu = 93) then -1 else 0) = 0 ∧ so = 3 ∧ nu = 44 then 1 else 0)) σ := by
    have p153 : ∀ a6 s1 : Int32, (a6 = if so = 3 then 1 else 0) → g5_countArguments_153 (g5_countArguments_45 m) t n a6 d s1 σ = g5_countArguments_45 m (t + 1) (d + s1) (n + (if d + s1 = 0 ∧ so = 3 ∧ nu = 44 then 1 else 0)) σ := fun a6 s1 ha => by
      unfold g5_countArguments_153
      dsimp only [pb5]
      rw [hn, p184, p184]
      by_cases c1 : d + s1 = 0
      · rw [if_pos c1]
        by_cases c2 : so = 3
        · rw [ha, if_pos c2, if_neg (by decide)]
          by_cases c3 : nu = 44
          · rw [if_pos c3, if_pos ⟨c1, c2, c3⟩]
          · rw [if_neg c3, if_neg (fun q => c3 q.2.2)]
        · rw [ha, if_neg c2, if_pos rfl, if_neg (fun q => c2 q.2.1)]
      · rw [if_neg c1, if_neg (fun q => c1 q.1)]
    unfold g5_countArguments_71 g5_countArguments_86 g5_countArguments_121
    rw [hs, hn]
    by_cases c2 : so = 3
    · rw [if_pos c2, if_neg ne105, if_neg ne105]
      by_cases d1 : nu = 40
      · rw [if_pos d1, p153 1 1 (if_pos c2).symm, if_pos (show so = 3 ∧ (nu = 40 ∨ nu = 91) from ⟨c2, Or.inl d1⟩)]
      · rw [if_neg d1]
        by_cases d2 : nu = 91
        · rw [if_pos d2, p153 1 1 (if_pos c2).symm, if_pos (show so = 3 ∧ (nu = 40 ∨ nu = 91) from ⟨c2, Or.inr d2⟩)]
        · rw [if_neg d2]
          have n1 : ¬ (so = 3 ∧ (nu = 40 ∨ nu = 91)) := fun q => by rcases q.2 with q | q; exact d1 q; exact d2 q
          by_cases d3 : nu = 41
          · rw [if_pos d3, p153 1 (-1) (if_pos c2).symm, if_neg n1, if_pos (show so = 3 ∧ (nu = 41 ∨ nu = 93) from ⟨c2, Or.inl d3⟩)]
          · rw [if_neg d3]
            by_cases d4 : nu = 93
            · rw [if_pos d4, p153 1 (-1) (if_pos c2).symm, if_neg n1, if_pos (show so = 3 ∧ (nu = 41 ∨ nu = 93) from ⟨c2, Or.inr d4⟩)]
            · rw [if_neg d4, p153 1 0 (if_pos c2).symm, if_neg n1, if_neg (fun (q : so = 3 ∧ (nu = 41 ∨ nu = 93)) => by rcases q.2 with q | q; exact d3 q; exact d4 q)]
    · rw [if_neg c2, if_pos rfl, if_pos rfl, p153 0 0 (if_neg c2).symm, if_neg (fun (q : so = 3 ∧ (nu = 40 ∨ nu = 91)) => c2 q.1), if_neg (fun (q : so = 3 ∧ (nu = 41 ∨ nu = 93)) => c2 q.1)]
  by_cases c : 0 < d
  · rw [if_pos c]; exact p71
  · rw [if_neg c]
    by_cases c2 : so = 3
    · rw [if_pos c2, if_neg (fun q => h ⟨c, c2, q⟩)]; exact p71
    · rw [if_neg c2]; exact p71
/-- the count goes from token a0 to token a, at depth d, with n' counted of n -/
def sc5 (X : X5) (Bk a0 a d : Nat) (n n' : Int32) : Prop := a0 ≤ a ∧ ∀ (σ : rS) (m : Nat), sx5 σ = X → g5_countArguments_45 (m + (a - a0)) (Int32.ofNat (Bk + a0)) 0 n σ = g5_countArguments_45 m (Int32.ofNat (Bk + a)) (Int32.ofNat d) n' σ
theorem sc_r5 {X : X5} {Bk a : Nat} {n : Int32} : sc5 X Bk a a 0 n n := ⟨Nat.le_refl a, fun σ m _ => by rw [Nat.sub_self]; rfl⟩
theorem sc_s5 {T : T5} {X : X5} {Bk N a0 a d d' : Nat} {Z n n' n'' : Int32} (H : TR5 T X Bk N Z) (h : sc5 X Bk a0 a d n n') (ha : a < N) (hd : d ≤ 65537) (hK : (T.2.1 a = 40 ∨ T.2.1 a = 91) ∧ d' = d + 1 ∧ n'' = n' ∨ (T.2.1 a = 41 ∨ T.2.1 a = 93) ∧ d = d' + 1 ∧ n'' = n' ∨ (T.2.1 a ≠ 40 ∧ T.2.1 a ≠ 91 ∧ T.2.1 a ≠ 41 ∧ T.2.1 a ≠ 93) ∧ d' = d ∧ (T.2.1 a ≠ 44 ∧ n'' = n' ∨ T.2.1 a = 44 ∧ d = 0 ∧ n'' = n' + 1)) (hn : T.2.1 a = 41 ∨ T.2.1 a = 93 → 44 ≠ T.2.1 a) : sc5 X Bk a0 (a + 1) d' n n'' := by
  have h1 := H.1
  have kd := H.2.2.1 a ha
  have k40 := kd_s5 (c := 40) kd (by decide) (by decide)
  have k91 := kd_s5 (c := 91) kd (by decide) (by decide)
  have k41 := kd_s5 (c := 41) kd (by decide) (by decide)
  have k93 := kd_s5 (c := 93) kd (by decide) (by decide)
  have k44 := kd_s5 (c := 44) kd (by decide) (by decide)
  refine ⟨by have := h.1; omega, fun σ m hx => ?_⟩
  have h0 := h.1
  have hm := h.2 σ (m + 1) hx
  rw [show m + (a + 1 - a0) = m + 1 + (a - a0) by omega, hm]
  have e5 : σ.2.2.1 5 (Int32.ofNat (Bk + a)).toNatClampNeg = X.1 (Bk + a) := by rw [cl_5 (by omega), ← hx]; rfl
  have e7 : σ.2.2.1 7 (Int32.ofNat (Bk + a)).toNatClampNeg = X.2.2.1 (Bk + a) := by rw [cl_5 (by omega), ← hx]; rfl
  have ld := ofn_i (n := d) (by omega)
  have hd0 : (0 : Int32) < Int32.ofNat d ↔ 0 < d := by rw [lti, t0i, ld]; omega
  have i40 : (X.1 (Bk + a) = 3 ∧ (X.2.2.1 (Bk + a) = 40 ∨ X.2.2.1 (Bk + a) = 91)) ↔ (T.2.1 a = 40 ∨ T.2.1 a = 91) := ⟨fun q => by rcases q.2 with w | w; exact Or.inl (k40.mp ⟨q.1, w⟩); exact Or.inr (k91.mp ⟨q.1, w⟩), fun q => by rcases q with w | w; exact ⟨(k40.mpr w).1, Or.inl (k40.mpr w).2⟩; exact ⟨(k91.mpr w).1, Or.inr (k91.mpr w).2⟩⟩
  have i41 : (X.1 (Bk + a) = 3 ∧ (X.2.2.1 (Bk + a) = 41 ∨ X.2.2.1 (Bk + a) = 93)) ↔ (T.2.1 a = 41 ∨ T.2.1 a = 93) := ⟨fun q => by rcases q.2 with w | w; exact Or.inl (k41.mp ⟨q.1, w⟩); exact Or.inr (k93.mp ⟨q.1, w⟩), fun q => by rcases q with w | w; exact ⟨(k41.mpr w).1, Or.inl (k41.mpr w).2⟩; exact ⟨(k93.mpr w).1, Or.inr (k93.mpr w).2⟩⟩
  have en0 : ∀ x : Int32, x + 0 = x := fun x => Int32.add_zero x
  rcases hK with ⟨q, rfl, rfl⟩ | ⟨q, rfl, rfl⟩ | ⟨⟨q1, q2, q3, q4⟩, rfl, q⟩
  · have n44 : ¬ (Int32.ofNat d + 1 = 0 ∧ X.1 (Bk + a) = 3 ∧ X.2.2.1 (Bk + a) = 44) := fun w => by
      have y := k44.mp w.2
      rcases q with q | q <;> rw [y] at q <;> exact absurd q (by decide)
    rw [ca_s5 (by rw [e5, e7]; intro w; have y := k41.mp w.2; rcases q with q | q <;> rw [y] at q <;> exact absurd q (by decide)), e5, e7, if_pos (i40.mpr q), if_neg n44, en0, on_15 (by omega), on_15 (by omega)]
    rfl
  · have n40 : ¬ (T.2.1 a = 40 ∨ T.2.1 a = 91) := fun w => by
      rcases q with q | q <;> rw [q] at w <;> exact absurd w (by decide)
    have ed : Int32.ofNat (d' + 1) + -1 = Int32.ofNat d' := by
      apply Int32.toInt_inj.mp
      have l1 := ofn_i (n := d') (by omega)
      have lm : (-1 : Int32).toInt = -1 := rfl
      rw [add_i (by omega) (by omega), l1, lm]
      omega
    have n44 : ¬ (Int32.ofNat (d' + 1) + -1 = 0 ∧ X.1 (Bk + a) = 3 ∧ X.2.2.1 (Bk + a) = 44) := fun w => hn q (k44.mp w.2).symm
    rw [ca_s5 (by rw [hd0]; intro w; exact w.1 (by omega)), e5, e7, if_neg (fun w => n40 (i40.mp w)), if_pos (i41.mpr q), if_neg n44, en0, ed, on_15 (by omega)]
    rfl
  · have n40 : ¬ (T.2.1 a = 40 ∨ T.2.1 a = 91) := fun w => by rcases w with w | w; exact q1 w; exact q2 w
    have n41 : ¬ (T.2.1 a = 41 ∨ T.2.1 a = 93) := fun w => by rcases w with w | w; exact q3 w; exact q4 w
    rw [ca_s5 (by rw [e5, e7]; intro w; exact q3 (k41.mp w.2)), e5, e7, if_neg (fun w => n40 (i40.mp w)), if_neg (fun w => n41 (i41.mp w)), en0, on_15 (by omega)]
    rcases q with ⟨q5, rfl⟩ | ⟨q5, rfl, rfl⟩
    · rw [if_neg (fun w => q5 (k44.mp w.2)), en0]
      rfl
    · rw [if_pos ⟨rfl, k44.mpr q5⟩]
      rfl

end
section
set_option maxHeartbeats 1600000
/-! expressions, side by side -/
/-- the reference stands at a second comparison, which the class has refused -/
def dcm5 (T : T5) (X : X5) (Bk N a : Nat) (σ : rS) : Prop := a < N ∧ sx5 σ = X ∧ σ.1 11 = 0 ∧ σ.1 10 = Int32.ofNat (Bk + a) ∧ T.2.1 a ≠ 143 ∧ f5_Pa_rankOf (f5_Pa_binary (T.2.1 a)) = 3
def xr5 (T : T5) (X : X5) (Bk N : Nat) (Z : Int32) (V : V5) (W : W5) (a0 l : Nat) (r : R5 Unit) (σ : rS) : Prop := sr5 (fun e' _ σ' => ∃ a', LR5 T X Bk N Z V W a' l e' σ' ∧ a0 < a' ∧ ∀ n, sc5 X Bk a0 a' 0 n n) r σ ∨ (∃ a', r = .inr (2, T.2.2.1 a') ∧ dcm5 T X Bk N a' σ)
def es05 (T : T5) (X : X5) (Bk N : Nat) (Z : Int32) (V : V5) (W : W5) (a0 l a : Nat) (C S : List Int32) (e : E5) (σ : rS) : Prop := LR5 T X Bk N Z V W a (l + bk5 S) e σ ∧ wC5 e C ∧ wS5 σ S ∧ a25 C S ∧ wf5 S ∧ C.length ≤ a ∧ ∀ n, sc5 X Bk a0 a (bk5 S) n n
def es15 (T : T5) (X : X5) (Bk N : Nat) (Z : Int32) (V : V5) (W : W5) (a0 l a : Nat) (U C S : List Int32) (e : E5) (σ : rS) : Prop := LR5 T X Bk N Z V W a (l + bk5 S) e σ ∧ wC5 e (U ++ C) ∧ un6 U ∧ wS5 σ S ∧ a25 C S ∧ wf5 S ∧ nu5 S ∧ (U ++ C).length ≤ a ∧ a0 < a ∧ ∀ n, sc5 X Bk a0 a (bk5 S) n n
theorem wC_f5 {e e' : E5} {C : List Int32} (w : wC5 e C) (h : tkF5 e e') : wC5 e' C := ⟨(h.2 1016 (by decide) (by decide) (by decide)).trans w.1, by rw [h.1]; exact w.2⟩
theorem wS_f5 {σ σ' : rS} {S : List Int32} (w : wS5 σ S) (h : tkS5 σ σ') : wS5 σ' S := ⟨(h.2 48 (by decide) (by decide)).trans w.1, by rw [h.1]; exact w.2⟩
theorem wC_e5 {e : E5} {C : List Int32} {o x : Int32} (w : wC5 e C) : ∃ e', f5_Co_emit o x e = .inl (e', ()) ∧ fe5 e e' ∧ wC5 e' C := by
  refine ⟨_, rfl, ⟨rfl, rfl, rfl, rfl, rfl⟩, w.1, stk_e5 (fun i hi => rfl) w.2⟩
theorem bk_45 {S : List Int32} : bk5 (40 :: S) = bk5 S + 1 := by
  show (if (40 : Int32) = 40 ∨ (40 : Int32) = 91 then 1 else 0) + bk5 S = _
  rw [if_pos (Or.inl rfl)]; omega
theorem bk_95 {S : List Int32} : bk5 (91 :: S) = bk5 S + 1 := by
  show (if (91 : Int32) = 40 ∨ (91 : Int32) = 91 then 1 else 0) + bk5 S = _
  rw [if_pos (Or.inr rfl)]; omega
theorem bk_n5 {s : Int32} {S : List Int32} (h1 : s ≠ 40) (h2 : s ≠ 91) : bk5 (s :: S) = bk5 S := by
  show (if s = 40 ∨ s = 91 then 1 else 0) + bk5 S = _
  rw [if_neg (fun q => by rcases q with q | q; exact h1 q; exact h2 q)]; omega
theorem bk_l5 : ∀ {S : List Int32}, bk5 S ≤ S.length
  | [] => Nat.le_refl 0
  | s :: S => by
    show (if s = 40 ∨ s = 91 then 1 else 0) + bk5 S ≤ S.length + 1
    have := bk_l5 (S := S)
    by_cases h : s = 40 ∨ s = 91
    · rw [if_pos h]; omega
    · rw [if_neg h]; omega
section
variable {T : T5} {X : X5} {Bk N : Nat} {Z : Int32} {V : V5} {W : W5} {a0 l a : Nat} {e : E5} {σ : rS}
theorem lr_go5 (L : LR5 T X Bk N Z V W a l e σ) : g5_goesOn σ = 1 := by
  unfold g5_goesOn
  dsimp only [pb5]
  rw [lr_ir5 L, if_neg ne105, if_pos L.2.2.2.1.2.2]
theorem lr_K5 (L : LR5 T X Bk N Z V W a l e σ) : T.2.1 a = e.1 paKind := L.2.2.1.2.2.2.1.symm
theorem sc_n5 {d : Nat} (H : TR5 T X Bk N Z) (h : ∀ n, sc5 X Bk a0 a d n n) (ha : a < N) (hd : d ≤ 65537) (q : T.2.1 a ≠ 40 ∧ T.2.1 a ≠ 91 ∧ T.2.1 a ≠ 41 ∧ T.2.1 a ≠ 93) (q2 : T.2.1 a ≠ 44) : ∀ n, sc5 X Bk a0 (a + 1) d n n := fun n => sc_s5 H (h n) ha hd (Or.inr (Or.inr ⟨q, rfl, Or.inl ⟨q2, rfl⟩⟩)) (fun w => by rcases w with w | w; exact absurd w q.2.2.1; exact absurd w q.2.2.2)
theorem sc_o5 {d : Nat} (H : TR5 T X Bk N Z) (h : ∀ n, sc5 X Bk a0 a d n n) (ha : a < N) (hd : d ≤ 65537) (q : T.2.1 a = 40 ∨ T.2.1 a = 91) : ∀ n, sc5 X Bk a0 (a + 1) (d + 1) n n := fun n => sc_s5 H (h n) ha hd (Or.inl ⟨q, rfl, rfl⟩) (fun w => by rcases w with w | w <;> rcases q with q | q <;> rw [w] at q <;> exact absurd q (by decide))
theorem sc_c5 {d : Nat} (H : TR5 T X Bk N Z) (h : ∀ n, sc5 X Bk a0 a (d + 1) n n) (ha : a < N) (hd : d + 1 ≤ 65537) (q : T.2.1 a = 41 ∨ T.2.1 a = 93) : ∀ n, sc5 X Bk a0 (a + 1) d n n := fun n => sc_s5 H (h n) ha hd (Or.inr (Or.inl ⟨q, rfl, rfl⟩)) (fun w => by rcases q with q | q <;> rw [q] <;> decide)
/-- an operand that is no name -/
theorem sr_opd {C S : List Int32} (H : TR5 T X Bk N Z) (E : es05 T X Bk N Z V W a0 l a C S e σ) (hk : e.1 paKind ≠ 140) : sr5 (fun e' r σ' => (r = 1 ∧ (g5_operand σ).2 = 0 ∧ ∃ C' S', es05 T X Bk N Z V W a0 l (a + 1) C' S' e' σ') ∨ (r = 0 ∧ (g5_operand σ).2 = 1 ∧ ∃ U C' S', es15 T X Bk N Z V W a0 l (a + 1) U C' S' e' σ')) (f5_Pa_operand e) (g5_operand σ).1 := by
  obtain ⟨L, wc, ws, ac, wf, hl, sc⟩ := E
  have h1 := H.1
  have ha := L.2.2.1.1
  have hb := bk_l5 (S := S)
  have hls := a2_l5 ac
  have kd := kd_o5 (lr_kd5 H L)
  have kT := lr_K5 L
  have sc0 := (sc 0).1
  have i33 := lr_at5 (c := 33) H L (by decide) (by decide)
  have i45 := lr_at5 (c := 45) H L (by decide) (by decide)
  have i40 := lr_at5 (c := 40) H L (by decide) (by decide)
  by_cases c33 : e.1 paKind = 33 ∨ e.1 paKind = 45
  · -- a sign
    have hc : ∃ o s, f5_Pa_operand e = f5_Pa_operand_80 0 o e ∧ g5_operand σ = g5_operand_37 s σ ∧ wr5 o s ∧ un5 s := by
      unfold f5_Pa_operand f5_Pa_operand_15 f5_Pa_operand_64 g5_operand g5_operand_18
      dsimp only [pb5]
      rw [i33, i45]
      rcases c33 with c | c
      · rw [if_neg (by rw [c]; decide), if_pos rfl, if_pos c, if_pos c, if_pos c, if_neg (by decide), if_neg (by decide)]
        exact ⟨6, 1000, rfl, rfl, Or.inl ⟨by decide, by decide, Or.inl rfl⟩, Or.inl rfl⟩
      · have c' : ¬ e.1 paKind = 33 := by rw [c]; decide
        rw [if_neg (by rw [c]; decide), if_pos rfl, if_neg c', if_pos c, if_neg c', if_neg c', if_pos rfl, if_pos c, if_neg (by decide), if_pos rfl]
        exact ⟨5, 1001, rfl, rfl, Or.inl ⟨by decide, by decide, Or.inr rfl⟩, Or.inr rfl⟩
    obtain ⟨o, s, q1, q2, q3, q4⟩ := hc
    rw [q1, q2]
    unfold f5_Pa_operand_80 g5_operand_37 f5_Pa_operand_102
    dsimp only [pb5]
    obtain ⟨e1, p1, p2, p3⟩ := hC_5 (x := o) wc (by omega)
    obtain ⟨r1, r2⟩ := hoS_5 (x := s) (y := 0) ws (by omega)
    rw [p1, rdl_5]
    have hs40 : s ≠ 40 ∧ s ≠ 91 := by rcases q4 with z | z <;> rw [z] <;> decide
    have hrk : ¬ 0 < (rk5 s).toInt := by rcases q4 with z | z <;> rw [z] <;> decide
    have k1 : e1.1 paKind = e.1 paKind := p2.2.2.2.1
    refine sr_b5 (sr_take H (lr_fe5 L p2 r1) (by rw [k1]; rcases c33 with c | c <;> rw [c] <;> decide)) (fun e' _ n Q => ?_) kq_rf (fun p e' _ d => by rw [if_pos rfl]; exact dq_i5 d)
    rw [if_pos rfl]
    refine sr_i5 n (Or.inl ⟨rfl, rfl, o :: C, s :: S, ?_⟩)
    refine ⟨by rw [bk_n5 hs40.1 hs40.2]; exact Q.1, wC_f5 p3 Q.2.1, wS_f5 r2 Q.2.2, ⟨q3, ac⟩, ⟨fun w => absurd w hrk, wf⟩, by rw [List.length_cons]; omega, ?_⟩
    rw [bk_n5 hs40.1 hs40.2]
    refine sc_n5 H sc ha (by omega) ?_ ?_
    · rw [kT]; rcases c33 with c | c <;> rw [c] <;> decide
    · rw [kT]; rcases c33 with c | c <;> rw [c] <;> decide
  · have n33 : ¬ e.1 paKind = 33 := fun q => c33 (Or.inl q)
    have n45 : ¬ e.1 paKind = 45 := fun q => c33 (Or.inr q)
    have g1 : g5_operand σ = (if (if e.1 paKind = 40 then (1 : Int32) else 0) = 0 then (if X.1 (Bk + a) = 2 then pb5 (σ.2.2.1 7 (σ.1 10).toNatClampNeg) (fun v1_11 => pb5 (g5_go σ) (fun σ12 => pb5 (g5_push v1_11 σ12) (fun σ14 => (σ14, (1 : Int32))))) else (if X.1 (Bk + a) = 1 then pm5 (g5_named σ) (fun σ7 r8 => (σ7, r8)) else pb5 (g5_flaw 2 (σ.1 10) σ) (fun σ9 => (σ9, (0 : Int32))))) else pb5 (g5_open 40 σ) (fun σ16 => pb5 (g5_hold 40 0 σ16) (fun σ18 => (σ18, (0 : Int32))))) := by
      unfold g5_operand
      dsimp only [pb5]
      rw [i33, if_neg n33, if_pos rfl, i45, if_neg n45, if_pos rfl, i40, (lr_so5 H L).1]
    by_cases c141 : e.1 paKind = 141
    · have c40 : ¬ e.1 paKind = 40 := by rw [c141]; decide
      rw [if_neg c40, if_pos rfl, if_pos (kd.2.2.1.mpr c141)] at g1
      rw [g1]
      unfold f5_Pa_operand f5_Pa_operand_15 f5_Pa_operand_102
      dsimp only [pb5]
      rw [if_pos c141, if_neg (by decide)]
      obtain ⟨e1, p1, p2, p3⟩ := wC_e5 (o := 1) (x := f5_Ta_numberAt (tq5 e) (e.1 paAt)) wc
      rw [p1, rdl_5]
      have k1 : e1.1 paKind = e.1 paKind := p2.2.2.2.1
      refine sr_b5 (sr_take H (lr_fe5 L p2 fs_r5) (by rw [k1, c141]; decide)) (fun e' _ n Q => ?_) (kq_push kq_rf) (fun p e' _ d => by rw [if_neg (by decide)]; exact dq_i5 d)
      rw [if_neg (by decide)]
      obtain ⟨t1, t2⟩ := ps_5 (x := σ.2.2.1 7 (σ.1 10).toNatClampNeg) (wS_f5 ws Q.2.2) (by omega)
      obtain ⟨U, C', d1, d2, d3, d4, d5, d6⟩ := dU_5 ac wf
      refine sr_i5 n (Or.inr ⟨rfl, rfl, U, C', drU5 S, ?_⟩)
      refine ⟨by rw [d6]; exact lr_fe5 Q.1 fe_r5 t1, by rw [← d1]; exact wC_f5 p3 Q.2.1, d2, t2, d3, d4, d5, by rw [← d1]; omega, by omega, ?_⟩
      rw [d6]
      exact sc_n5 H sc ha (by omega) (by rw [kT, c141]; decide) (by rw [kT, c141]; decide)
    · have f1 : f5_Pa_operand e = rdB5 (f5_Pa_openSign 40 e) (fun e1 _ => rdB5 (f5_Pa_hold 100 e1) (fun e4 _ => f5_Pa_operand_102 0 e4)) := by
        unfold f5_Pa_operand f5_Pa_operand_15
        rw [if_neg c141, if_pos rfl, if_neg n33, if_neg n45]
      rw [f1]
      by_cases c40 : e.1 paKind = 40
      · rw [if_pos c40, if_neg (by decide)] at g1
        rw [g1]
        dsimp only [pb5]
        refine sr_b5 (sr_open H L (by decide) (by decide)) (fun e' _ n Q => ?_) (kq_hold kq_rf) (fun p e' _ d => by
          show dq5 p (rdB5 (f5_Pa_hold 100 e') _)
          exact dq_i5 d)
        obtain ⟨e1, p1, p2, p3⟩ := hC_5 (x := 100) (wC_f5 wc Q.2.1) (by omega)
        obtain ⟨r1, r2⟩ := hoS_5 (x := 40) (y := 0) (wS_f5 ws Q.2.2) (by omega)
        rw [p1, rdl_5]
        unfold f5_Pa_operand_102
        rw [if_pos rfl]
        have k1 : e1.1 paKind = e'.1 paKind := p2.2.2.2.1
        refine sr_i5 (by rw [k1]; exact n) (Or.inl ⟨rfl, rfl, 100 :: C, 40 :: S, ?_⟩)
        refine ⟨by rw [bk_45]; exact lr_fe5 Q.1 p2 r1, p3, r2, ⟨Or.inr (Or.inl ⟨by decide, by decide, Or.inl ⟨rfl, rfl⟩⟩), ac⟩, ⟨fun w => absurd w (by decide), wf⟩, by rw [List.length_cons]; omega, ?_⟩
        rw [bk_45]
        exact sc_o5 H sc ha (by omega) (Or.inl (by rw [kT]; exact c40))
      · rw [if_neg c40, if_pos rfl, if_neg (fun q => c141 (kd.2.2.1.mp q)), if_neg (fun q => hk (kd.2.1.mp q))] at g1
        rw [g1]
        dsimp only [pb5]
        have fx : f5_Pa_openSign 40 e = .inr (2, T.2.2.1 a) := by
          unfold f5_Pa_openSign
          rw [if_neg c40, lr_rva5 H L]
        rw [fx]
        exact sr_r5 (by decide) (lr_fl5 H L).1 (lr_fl5 H L).2
/-- the rest of a name -/
def nmd5 (t : Int32) (σ : rS) : rS × Int32 := if g5_isRight σ = 0 then g5_named_34 t σ else if g5_isAt 40 σ = 0 then g5_named_34 t σ else g5_named_34 t (g5_flaw 2 (σ.1 10) σ)
theorem nmd_5 : g5_named σ = nmd5 (σ.1 10) (g5_go σ) := rfl
theorem kq_nmd {s : rS} {t : Int32} (h : kq5 s σ) : kq5 s (nmd5 t σ).1 := kq_ifp (kq_named_34 h) (kq_ifp (kq_named_34 h) (kq_named_34 (kq_flaw h)))
theorem sr_opn {C S : List Int32} {t : Nat} {tok : Int32} (H : TR5 T X Bk N Z) (G : nG5 T Bk N V W) (O : nO5 T Bk N V W) (E : es05 T X Bk N Z V W a0 l a C S e σ) (ht : t < N) (kt : T.2.1 t = 140) (htok : tok = Int32.ofNat (Bk + t)) (h0 : a0 < a) : sr5 (fun e' r σ' => (r = 1 ∧ (nmd5 tok σ).2 = 0 ∧ ∃ C' S', es05 T X Bk N Z V W a0 l (a + 1) C' S' e' σ') ∨ (r = 0 ∧ (nmd5 tok σ).2 = 1 ∧ ∃ U C' S', es15 T X Bk N Z V W a0 l a U C' S' e' σ')) (f5_Pa_operandName (Int32.ofNat t) e) (nmd5 tok σ).1 := by
  obtain ⟨L, wc, ws, ac, wf, hl, sc⟩ := E
  have h1 := H.1
  have ha := L.2.2.1.1
  have hb := bk_l5 (S := S)
  have hls := a2_l5 ac
  have kT := lr_K5 L
  have i91 := lr_at5 (c := 91) H L (by decide) (by decide)
  have i40 := lr_at5 (c := 40) H L (by decide) (by decide)
  unfold f5_Pa_operandName
  by_cases c40 : e.1 paKind = 40
  · have g : nmd5 tok σ = g5_named_34 tok (g5_flaw 2 (σ.1 10) σ) := by
      unfold nmd5
      rw [lr_ir5 L, if_neg ne105, i40, if_pos c40, if_neg (by decide)]
    rw [if_neg (by rw [c40]; decide), if_pos c40, g, lr_rva5 H L]
    exact sr_q5 (by decide) (lr_fl5 H L).1 (lr_fl5 H L).2 (kq_named_34 kq_rf)
  · by_cases c91 : e.1 paKind = 91
    · have g : nmd5 tok σ = g5_named_79 tok 1 (g5_look tok (g5_arrayOf tok σ) σ) := by
        unfold nmd5
        rw [lr_ir5 L, if_neg ne105, i40, if_neg c40, if_pos rfl]
        unfold g5_named_34
        dsimp only [pb5]
        rw [lr_ir5 L, if_neg ne105, i91, if_pos c91, if_pos L.2.2.2.1.2.1, if_neg (by decide)]
      rw [if_pos c91, g]
      refine sr_b5 (sr_findArray H L G ht kt htok) (fun e' r n Q => ?_) (kq_named_79 kq_rf) (fun p e' _ d => dq_x5 (dx_open d (by decide)))
      obtain ⟨Q1, rfl, k, k3, rfl⟩ := Q
      have g2 : g5_named_79 tok 1 (g5_look tok (g5_arrayOf tok σ) σ) = (g5_hold 91 ((g5_open 91 (g5_look tok (g5_arrayOf tok σ) σ)).2.2.1 39 tok.toNatClampNeg) (g5_open 91 (g5_look tok (g5_arrayOf tok σ) σ)), 0) := by
        unfold g5_named_79
        dsimp only [pb5]
        rw [lr_ir5 Q1, if_neg ne105, if_neg (by decide)]
      rw [g2]
      have ws' : wS5 (g5_look tok (g5_arrayOf tok σ) σ) S := by
        have : (g5_look tok (g5_arrayOf tok σ) σ).1 48 = σ.1 48 ∧ (g5_look tok (g5_arrayOf tok σ) σ).2.2.1 50 = σ.2.2.1 50 := by
          unfold g5_look g5_look_28
          dsimp only [pb5]
          by_cases z : g5_arrayOf tok σ = -1
          · rw [if_pos z, if_pos L.2.2.2.1.1]; exact ⟨rfl, rfl⟩
          · rw [if_neg z]; exact ⟨rfl, rfl⟩
        exact ⟨this.1.trans ws.1, by rw [this.2]; exact ws.2⟩
      refine sr_b5 (sr_open H Q1 (by decide) (by decide)) (fun e2 _ n2 Q2 => ?_) (kq_hold kq_rf) (fun p e' _ d => by
        show dq5 p (rdB5 (f5_Pa_hold _ e') _)
        exact dq_i5 d)
      have lk : (101 + Int32.ofNat k).toInt = 101 + k := by
        have l1 := ofn_i (n := k) (by omega)
        have l2 : (101 : Int32).toInt = 101 := rfl
        rw [add_i (by omega) (by omega), l1, l2]
      have hr : f5_Pa_rankOf (101 + Int32.ofNat k) = 0 ∧ 101 + Int32.ofNat k ≠ 100 := by
        have l100 : (100 : Int32).toInt = 100 := rfl
        refine ⟨?_, fun q => by rw [q, l100] at lk; omega⟩
        unfold f5_Pa_rankOf
        rw [if_neg (by rw [lti, lk, l100]; omega)]
      obtain ⟨e1, p1, p2, p3⟩ := hC_5 (x := 101 + Int32.ofNat k) (wC_f5 wc Q2.2.1) (by omega)
      obtain ⟨r1, r2⟩ := hoS_5 (x := 91) (y := (g5_open 91 (g5_look tok (g5_arrayOf tok σ) σ)).2.2.1 39 tok.toNatClampNeg) (wS_f5 ws' Q2.2.2) (by omega)
      rw [p1]
      have k1 : e1.1 paKind = e2.1 paKind := p2.2.2.2.1
      refine sr_i5 (by rw [k1]; exact n2) (Or.inl ⟨rfl, rfl, (101 + Int32.ofNat k) :: C, 91 :: S, ?_⟩)
      refine ⟨by rw [bk_95]; exact lr_fe5 Q2.1 p2 r1, p3, r2, ⟨Or.inr (Or.inl ⟨hr.1, by decide, Or.inr ⟨hr.2, rfl⟩⟩), ac⟩, ⟨fun w => absurd w (by decide), wf⟩, by rw [List.length_cons]; omega, ?_⟩
      rw [bk_95]
      exact sc_o5 H sc ha (by omega) (Or.inr (by rw [kT]; exact c91))
    · have g : nmd5 tok σ = g5_named_79 tok 0 (g5_look tok (g5_variableOf tok σ) σ) := by
        unfold nmd5
        rw [lr_ir5 L, if_neg ne105, i40, if_neg c40, if_pos rfl]
        unfold g5_named_34
        dsimp only [pb5]
        rw [lr_ir5 L, if_neg ne105, i91, if_neg c91, if_pos L.2.2.2.1.2.1, if_pos rfl]
      rw [if_neg c91, if_neg c40, g]
      unfold f5_Pa_operandName_49
      have dm : ∀ p (e' : E5) (x y z : Int32), dk5 p e' → dq5 p (f5_Pa_operandName_68 x y z e') := fun p e' x y z d => by
        unfold f5_Pa_operandName_68
        dsimp only [pb5]
        refine dq_f5 ?_ ?_
        · show dq5 p (rdB5 (f5_Co_emit _ _ e') _)
          exact dq_i5 d
        · show dq5 p (rdB5 (f5_Co_emit _ _ e') _)
          exact dq_i5 d
      refine sr_b5 (sr_findVariable H L G O ht kt htok) (fun e' r n Q => ?_) (kq_named_79 kq_rf) (fun p e' r d => dq_f5 (dm p e' _ _ _ d) (dm p e' _ _ _ d))
      obtain ⟨Q1, rfl, _⟩ := Q
      have g2 : g5_named_79 tok 0 (g5_look tok (g5_variableOf tok σ) σ) = (g5_push 0 (g5_look tok (g5_variableOf tok σ) σ), 1) := by
        unfold g5_named_79
        dsimp only [pb5]
        rw [lr_ir5 Q1, if_neg ne105, if_pos rfl, if_pos Q1.2.2.2.1.2.1]
      rw [g2]
      have ws' : wS5 (g5_look tok (g5_variableOf tok σ) σ) S := by
        have : (g5_look tok (g5_variableOf tok σ) σ).1 48 = σ.1 48 ∧ (g5_look tok (g5_variableOf tok σ) σ).2.2.1 50 = σ.2.2.1 50 := by
          unfold g5_look g5_look_28
          dsimp only [pb5]
          by_cases z : g5_variableOf tok σ = -1
          · rw [if_pos z, if_pos L.2.2.2.1.1]; exact ⟨rfl, rfl⟩
          · rw [if_neg z]; exact ⟨rfl, rfl⟩
        exact ⟨this.1.trans ws.1, by rw [this.2]; exact ws.2⟩
      obtain ⟨t1, t2⟩ := ps_5 (x := 0) ws' (by omega)
      obtain ⟨U, C', d1, d2, d3, d4, d5, d6⟩ := dU_5 ac wf
      have fin : ∀ o x : Int32, sr5 (fun e' r σ' => (r = 1 ∧ ((g5_push 0 (g5_look tok (g5_variableOf tok σ) σ), (1 : Int32)) : rS × Int32).2 = 0 ∧ ∃ C' S', es05 T X Bk N Z V W a0 l (a + 1) C' S' e' σ') ∨ (r = 0 ∧ ((g5_push 0 (g5_look tok (g5_variableOf tok σ) σ), (1 : Int32)) : rS × Int32).2 = 1 ∧ ∃ U C' S', es15 T X Bk N Z V W a0 l a U C' S' e' σ')) (rdB5 (f5_Co_emit o x e') (fun e4 _ => .inl (e4, (0 : Int32)))) (g5_push 0 (g5_look tok (g5_variableOf tok σ) σ)) := fun o x => by
        obtain ⟨e1, p1, p2, p3⟩ := wC_e5 (o := o) (x := x) wc
        rw [p1]
        have k1 : e1.1 paKind = e'.1 paKind := p2.2.2.2.1
        refine sr_i5 (by rw [k1]; exact n) (Or.inr ⟨rfl, rfl, U, C', drU5 S, ?_⟩)
        exact ⟨by rw [d6]; exact lr_fe5 Q1 p2 t1, by rw [← d1]; exact p3, d2, t2, d3, d4, d5, by rw [← d1]; exact hl, h0, by rw [d6]; exact sc⟩
      unfold f5_Pa_operandName_68
      by_cases z : r < 0
      · rw [if_pos z, if_pos z]; exact fin _ _
      · rw [if_neg z, if_neg z]; exact fin _ _
end

end
section
set_option maxHeartbeats 1600000
/-! behind an operand; the whole expression -/
theorem dR_65 : ∀ {C S : List Int32}, a25 C S → drR5 6 S = S
  | [], [], _ => rfl
  | c :: C, s :: S, h => by
    have k6 : (6 : Int32).toInt = 6 := rfl
    have k0 : (0 : Int32).toInt = 0 := rfl
    unfold drR5
    rw [if_pos]
    rcases h.1 with ⟨_, b, _⟩ | ⟨_, b, _⟩ | ⟨_, b, _⟩
    · rw [b]; decide
    · rw [b]; decide
    · rw [lti, k6]; omega
  | [], _ :: _, h => h.elim
  | _ :: _, [], h => h.elim
/-- what stays behind settling all: a bracket or nothing -/
theorem dC_15 : ∀ {C : List Int32} {c : Int32} {C' : List Int32}, drC5 1 C = c :: C' → (f5_Pa_rankOf c).toInt < 1
  | [], _, _, h => by cases h
  | x :: C, c, C', h => by
    unfold drC5 at h
    by_cases z : f5_Pa_rankOf x < 1
    · rw [if_pos z] at h
      have e : x = c := (List.cons.inj h).1
      rw [e, lti, t1i] at z
      exact z
    · rw [if_neg z] at h
      exact dC_15 h
theorem wC_t5 {e : E5} {c : Int32} {C : List Int32} (w : wC5 e (c :: C)) (hl : C.length ≤ 1000000) : ¬ e.1 paWaits ≤ 0 ∧ e.1 paWaits - 1 = Int32.ofNat C.length ∧ e.2.1 paWaiting (e.1 paWaits - 1).toNatClampNeg = c := by
  have e0 : e.1 paWaits = Int32.ofNat (C.length + 1) := w.1
  have l0 := ofn_i (n := C.length + 1) (by omega)
  have l1 := ofn_i (n := C.length) (by omega)
  have e1 : e.1 paWaits - 1 = Int32.ofNat C.length := by
    apply Int32.toInt_inj.mp
    rw [e0, sub_i (by rw [t1i]; omega) (by rw [t1i]; omega), l0, l1, t1i]
    omega
  exact ⟨by rw [e0, lei, l0, t0i]; omega, e1, by rw [e1, cl_5 (by omega)]; exact w.2.1⟩
theorem wC_05 {e : E5} (w : wC5 e []) : e.1 paWaits ≤ 0 := by
  have e0 : e.1 paWaits = Int32.ofNat 0 := w.1
  rw [e0]; decide
theorem wC_s5 {e : E5} {c : Int32} {C : List Int32} (w : wC5 e (c :: C)) (hl : C.length ≤ 1000000) : ∃ e', sw5 (e.1 paWaits - 1) e = .inl (e', ()) ∧ fe5 e e' ∧ wC5 e' C := by
  obtain ⟨_, e1, _⟩ := wC_t5 w hl
  rw [e1]
  refine ⟨_, rfl, ⟨rfl, rfl, rfl, rfl, rfl⟩, rfl, stk_e5 (fun i hi => ?_) w.2.2⟩
  show (if 1015 = 1015 ∧ ¬ i < (Int32.ofNat C.length).toNatClampNeg then 0 else e.2.1 1015 i) = _
  rw [cl_5 (by omega), if_neg (fun q => q.2 hi)]
theorem go_465 {σ : rS} : (g5_go σ).1 46 = σ.1 46 := by
  unfold g5_go g5_readNext g5_flaw g5_flaw_23
  dsimp only [pb5]
  repeat' split
  all_goals rfl
theorem fl_465 {σ : rS} {x y : Int32} : (g5_flaw x y σ).1 46 = σ.1 46 := by
  unfold g5_flaw g5_flaw_23
  dsimp only [pb5]
  repeat' split
  all_goals rfl
theorem cl_465 {σ : rS} {c : Int32} : (g5_close c σ).1 46 = σ.1 46 := by
  unfold g5_close g5_close_18 g5_sign
  dsimp only [pb5]
  repeat' split
  all_goals first
    | (rw [fl_465]; rfl)
    | (rw [go_465]; rfl)
section
variable {T : T5} {X : X5} {Bk N : Nat} {Z : Int32} {V : V5} {W : W5} {a0 l a : Nat} {e : E5} {σ : rS}
theorem be_5 (H : TR5 T X Bk N Z) (L : LR5 T X Bk N Z V W a l e σ) : g5_behind σ = g5_behind_29 (if X.1 (Bk + a) = 3 then rk5 (X.2.2.1 (Bk + a)) else 0) σ := by
  unfold g5_behind
  dsimp only [pb5]
  rw [(lr_so5 H L).1, (lr_so5 H L).2.1, rk_5]
  by_cases c : X.1 (Bk + a) = 3
  · rw [if_pos c, if_pos c]
  · rw [if_neg c, if_neg c]
/-- an operator -/
theorem sr_bhB {U C S : List Int32} (H : TR5 T X Bk N Z) (E : es15 T X Bk N Z V W a0 l a U C S e σ) (hb : f5_Pa_binary (e.1 paKind) ≠ -1) : sr5 (fun e' _ σ' => (g5_behind σ).2 = 0 ∧ ∃ C' S', es05 T X Bk N Z V W a0 l (a + 1) C' S' e' σ') (f5_Pa_operator (f5_Pa_binary (e.1 paKind)) e) (g5_behind σ).1 ∨ (f5_Pa_operator (f5_Pa_binary (e.1 paKind)) e = .inr (2, T.2.2.1 a) ∧ (g5_behind σ).2 = 2 ∧ dcm5 T X Bk N a (g5_behind σ).1) := by
  obtain ⟨L, wc, hU, ws, ac, wf, nu, hl, h0, sc⟩ := E
  have h1 := H.1
  have ha := L.2.2.1.1
  have hbk := bk_l5 (S := S)
  have hls := a2_l5 ac
  have kT := lr_K5 L
  have hlen : (U ++ C).length = U.length + C.length := List.length_append
  have kd := lr_kd5 H L
  have hbp : X.1 (Bk + a) = 3 ∧ 0 < (rk5 (X.2.2.1 (Bk + a))).toInt ∧ (rk5 (X.2.2.1 (Bk + a))).toInt ≤ 5 ∧ f5_Pa_rankOf (f5_Pa_binary (e.1 paKind)) = rk5 (X.2.2.1 (Bk + a)) ∧ ¬ un5 (X.2.2.1 (Bk + a)) ∧ X.2.2.1 (Bk + a) ≠ 40 ∧ X.2.2.1 (Bk + a) ≠ 91 := by
    rcases bi_5 kd with ⟨q, w⟩ | ⟨_, w⟩
    · rcases w with w | w
      · exact absurd w.1 hb
      · exact ⟨q, w.2⟩
    · exact absurd w hb
  obtain ⟨b1, b2, b3, b4, b5, b6, b7⟩ := hbp
  have g1 := be_5 H L
  rw [if_pos b1] at g1
  generalize hr : rk5 (X.2.2.1 (Bk + a)) = r at *
  -- the rank that is settled
  have k142 : e.1 paKind ≠ 142 := fun q => hb (by rw [q]; decide)
  have step : ∀ s1 : Int32, 1 ≤ s1.toInt → s1.toInt ≤ 5 → (f5_Pa_operator (f5_Pa_binary (e.1 paKind)) e = f5_Pa_operator_16 (f5_Pa_binary (e.1 paKind)) r s1 e) → g5_behind σ = g5_behind_50 r s1 σ → (r = 3 → s1 = 4) → sr5 (fun e' _ σ' => (g5_behind σ).2 = 0 ∧ ∃ C' S', es05 T X Bk N Z V W a0 l (a + 1) C' S' e' σ') (f5_Pa_operator (f5_Pa_binary (e.1 paKind)) e) (g5_behind σ).1 ∨ (f5_Pa_operator (f5_Pa_binary (e.1 paKind)) e = .inr (2, T.2.2.1 a) ∧ (g5_behind σ).2 = 2 ∧ dcm5 T X Bk N a (g5_behind σ).1) := fun s1 q1 q2 q3 q4 q5 => by
    rw [q3, q4]
    unfold f5_Pa_operator_16 g5_behind_50
    dsimp only [pb5]
    obtain ⟨f1, f2⟩ := se_5 (r := s1) q1 ws (by omega) L.2.2.2.1.1 L.2.2.2.1.2.1 L.2.2.2.1.2.2
    obtain ⟨d1, d2, d3, d4⟩ := dr_5 q1 q2 ac wf nu
    have dl := a2_l5 d1
    have dl2 := dC_l5 (r := s1) (C := C)
    rcases emC_5 (r := s1) wc (by omega) with z | ⟨e1, z1, z2, z3⟩
    · rw [z]; exact Or.inl (Or.inl rfl)
    · rw [dr_U5 q2 hU] at z3
      rw [z1]
      generalize g5_settle s1 σ = σ1 at f1 f2 ⊢
      have L1 := lr_fe5 L z2 f1
      have hold : sr5 (fun e' _ σ' => (g5_behind_73 σ1).2 = 0 ∧ ∃ C' S', es05 T X Bk N Z V W a0 l (a + 1) C' S' e' σ') (f5_Pa_operator_58 (f5_Pa_binary (e.1 paKind)) e1) (g5_behind_73 σ1).1 := by
        unfold f5_Pa_operator_58 g5_behind_73
        dsimp only [pb5]
        obtain ⟨e2, p1, p2, p3⟩ := hC_5 (x := f5_Pa_binary (e.1 paKind)) z3 (by omega)
        rw [(lr_so5 H L1).2.1]
        obtain ⟨r1, r2⟩ := hoS_5 (x := X.2.2.1 (Bk + a)) (y := 0) f2 (by omega)
        rw [p1, rdl_5]
        have k2 : e2.1 paKind = e.1 paKind := p2.2.2.2.1.trans z2.2.2.2.1
        refine sr_b5 (sr_take H (lr_fe5 L1 p2 r1) (by rw [k2]; exact k142)) (fun e' _ n Q => ?_) kq_rf (fun p e' _ d => dq_i5 d)
        refine sr_i5 n ⟨rfl, f5_Pa_binary (e.1 paKind) :: drC5 s1 C, X.2.2.1 (Bk + a) :: drR5 s1 S, ?_⟩
        refine ⟨by rw [bk_n5 b6 b7, d4]; exact Q.1, wC_f5 p3 Q.2.1, wS_f5 r2 Q.2.2, ⟨Or.inr (Or.inr ⟨by rw [hr]; exact b2, by rw [hr]; exact b3, by rw [hr]; exact b4, b5, b6, b7⟩), d1⟩, ⟨fun _ => d3, d2⟩, by rw [List.length_cons]; omega, ?_⟩
        rw [bk_n5 b6 b7, d4]
        refine sc_n5 H sc ha (by omega) ?_ ?_
        · rw [kT]; exact ⟨fun q => hb (by rw [q]; decide), fun q => hb (by rw [q]; decide), fun q => hb (by rw [q]; decide), fun q => hb (by rw [q]; decide)⟩
        · rw [kT]; exact fun q => hb (by rw [q]; decide)
      rw [if_neg (show ¬ r ≤ 0 by rw [lei, t0i]; omega)]
      show sr5 _ (if r = 3 then _ else _) _ ∨ ((if r = 3 then _ else _) = _ ∧ _)
      by_cases c3 : r = 3
      · rw [if_pos c3, if_pos c3]
        cases hS : drR5 s1 S with
        | nil =>
          rw [hS] at f2 d1 dl
          have hC0 : drC5 s1 C = [] := List.eq_nil_of_length_eq_zero dl
          rw [hC0] at z3
          rw [if_pos (wC_05 z3), tp_05 f2, rk_5, if_neg (by decide)]
          exact Or.inl hold
        | cons s S' =>
          rw [hS] at f2 d1 dl d3
          cases hC : drC5 s1 C with
          | nil => rw [hC] at dl; exact absurd dl (by rw [List.length_cons]; exact (Nat.succ_ne_zero _).symm)
          | cons c C' =>
            rw [hC] at z3 d1 dl
            rw [List.length_cons, List.length_cons] at dl
            have cl2 : C'.length + 1 ≤ C.length := by rw [hC, List.length_cons] at dl2; exact dl2
            obtain ⟨w1, w2, w3⟩ := wC_t5 z3 (by omega)
            obtain ⟨t1, t2, t3⟩ := tp_5 f2 (by omega)
            rw [if_neg w1, w3, t1, rk_5]
            have same : f5_Pa_rankOf c = 3 ↔ rk5 s = 3 := by
              rcases d1.1 with ⟨x1, x2, _⟩ | ⟨x1, x2, _⟩ | ⟨_, _, x1, _⟩
              · rw [x1, x2]; decide
              · rw [x1, x2]
              · rw [x1]
            by_cases y : rk5 s = 3
            · rw [if_pos (same.mpr y), if_pos y]
              have hrv : rv5 2 (e1.1 paAt) e1 = (2, T.2.2.1 a) := lr_rva5 H L1
              rw [hrv]
              -- the reference goes on to a bracket or the end
              unfold g5_behind_93
              dsimp only [pb5]
              obtain ⟨j1, j2⟩ := se_5 (r := 1) (by decide) f2 (by rw [List.length_cons]; omega) L1.2.2.2.1.1 L1.2.2.2.1.2.1 L1.2.2.2.1.2.2
              obtain ⟨y1, y2, y3, y4⟩ := dr_5 (r := 1) (by decide) (by decide) d1 (by rw [hS] at d2; exact d2) d3
              generalize g5_settle 1 σ1 = σ2 at j1 j2 ⊢
              have L2 := lr_fe5 L1 fe_r5 j1
              rw [lr_go5 L2, if_neg ne105]
              have i41 := lr_at5 (c := 41) H L2 (by decide) (by decide)
              have i93 := lr_at5 (c := 93) H L2 (by decide) (by decide)
              have kk : e1.1 paKind = e.1 paKind := z2.2.2.2.1
              have n41 : ¬ e1.1 paKind = 41 := by rw [kk]; exact fun q => hb (by rw [q]; decide)
              have n93 : ¬ e1.1 paKind = 93 := by rw [kk]; exact fun q => hb (by rw [q]; decide)
              have dl3 := a2_l5 y1
              cases hS2 : drR5 1 (s :: S') with
              | nil =>
                rw [hS2] at j2
                have e48 : σ2.1 48 = 0 := j2.1
                rw [if_pos e48]
                refine Or.inr ⟨rfl, rfl, ha, L2.1.2.1, L2.2.2.2.1.1, L2.2.2.1.2.2.1, L2.2.2.1.2.2.2.2, ?_⟩
                rw [kT, b4, c3]
              | cons s2 S2 =>
                rw [hS2] at j2
                have hlen2 : S2.length ≤ 1000000 := by
                  rw [hS2] at dl3
                  have := dC_l5 (r := 1) (C := c :: C')
                  rw [List.length_cons] at dl3 this
                  omega
                obtain ⟨t4, t5, t6⟩ := tp_5 j2 hlen2
                have e48 : ¬ σ2.1 48 = 0 := fun q => by
                  have z0 := j2.1
                  rw [q, List.length_cons] at z0
                  have y0 := congrArg Int32.toInt z0
                  rw [ofn_i (by omega), t0i] at y0
                  omega
                rw [if_neg e48, t4]
                refine Or.inl ?_
                have clz : ∀ c9 : Int32, g5_isAt c9 σ2 = 0 → (g5_close c9 σ2).1 11 = 2 ∧ (g5_close c9 σ2).1 12 = T.2.2.1 a := fun c9 hc9 => by
                  have L3 : LR5 T X Bk N Z V W a (l + bk5 S) e1 (siU σ2 13 (σ2.1 13 - 0)) := lr_fe5 L2 fe_r5 ⟨rfl, rfl, rfl, rfl, rfl, rfl, rfl, by show σ2.1 13 - 0 = σ2.1 13; exact Int32.sub_zero _⟩
                  have e9 : g5_close c9 σ2 = g5_flaw 2 ((siU σ2 13 (σ2.1 13 - 0)).1 10) (siU σ2 13 (σ2.1 13 - 0)) := by
                    unfold g5_close g5_close_18 g5_sign
                    dsimp only [pb5]
                    rw [hc9, if_pos rfl]
                    have e8 : g5_isAt c9 (siU σ2 13 (σ2.1 13 - 0)) = g5_isAt c9 σ2 := rfl
                    rw [e8, hc9, if_pos rfl]
                  rw [e9]
                  exact lr_fl5 H L3
                by_cases q40 : s2 = 40
                · rw [if_pos q40]
                  exact sr_q5 (by decide) (clz 41 (by rw [i41, if_neg n41])).1 (clz 41 (by rw [i41, if_neg n41])).2 (kq_turn (kq_si (by decide) (by decide) kq_rf))
                · rw [if_neg q40]
                  have f3 := clz 93 (by rw [i93, if_neg n93])
                  have hg : g5_goesOn (siU (g5_close 93 σ2) 48 ((g5_close 93 σ2).1 48 - 1)) = 0 := by
                    unfold g5_goesOn g5_isRight
                    dsimp only [pb5]
                    rw [if_neg (show ¬ (siU (g5_close 93 σ2) 48 ((g5_close 93 σ2).1 48 - 1)).1 11 = 0 by
                      show ¬ (g5_close 93 σ2).1 11 = 0
                      rw [f3.1]; decide), if_pos rfl]
                  rw [hg, if_pos rfl]
                  exact sr_q5 (by decide) f3.1 f3.2 (kq_behind_245 (kq_si (by decide) (by decide) kq_rf))
            · rw [if_neg (fun q => y (same.mp q)), if_neg y]
              exact Or.inl hold
      · rw [if_neg c3, if_neg c3]
        exact Or.inl hold
  have fo : f5_Pa_operator (f5_Pa_binary (e.1 paKind)) e = if r = 3 then f5_Pa_operator_16 (f5_Pa_binary (e.1 paKind)) r 4 e else f5_Pa_operator_16 (f5_Pa_binary (e.1 paKind)) r r e := by
    unfold f5_Pa_operator
    dsimp only [pb5]
    rw [b4]
  unfold g5_behind_29 at g1
  by_cases c3 : r = 3
  · rw [if_pos c3] at fo g1
    exact step 4 (by decide) (by decide) fo g1 (fun _ => rfl)
  · rw [if_neg c3] at fo g1
    rw [if_neg (show ¬ r ≤ 0 by rw [lei, t0i]; omega)] at g1
    exact step r (by omega) b3 fo g1 (fun q => absurd q c3)
/-- no operator: a bracket closed, or the end -/
theorem sr_bhE {U C S : List Int32} (H : TR5 T X Bk N Z) (E : es15 T X Bk N Z V W a0 l a U C S e σ) (hb : f5_Pa_binary (e.1 paKind) = -1) : f5_Pa_emitWaiting 1 e = .inr (0, 0) ∨ ∃ e4, f5_Pa_emitWaiting 1 e = .inl (e4, ()) ∧ ((e4.1 paWaits ≤ 0 ∧ (g5_behind σ).2 = 2 ∧ LR5 T X Bk N Z V W a l e4 (g5_behind σ).1 ∧ a0 < a ∧ ∀ n, sc5 X Bk a0 a 0 n n) ∨ (¬ e4.1 paWaits ≤ 0 ∧ sr5 (fun e' _ σ' => (g5_behind σ).2 = 1 ∧ ∃ U' C' S', es15 T X Bk N Z V W a0 l (a + 1) U' C' S' e' σ') (f5_Pa_closeInner e4) (g5_behind σ).1)) := by
  obtain ⟨L, wc, hU, ws, ac, wf, nu, hl, h0, sc⟩ := E
  have h1 := H.1
  have ha := L.2.2.1.1
  have hbk := bk_l5 (S := S)
  have hls := a2_l5 ac
  have kT := lr_K5 L
  have hlen : (U ++ C).length = U.length + C.length := List.length_append
  have kd := lr_kd5 H L
  have hz : (if X.1 (Bk + a) = 3 then rk5 (X.2.2.1 (Bk + a)) else 0) = 0 := by
    rcases bi_5 kd with ⟨q, w⟩ | ⟨q, _⟩
    · rcases w with w | w
      · rw [if_pos q]; exact w.2
      · exact absurd hb w.1
    · rw [if_neg q]
  have g1 := be_5 H L
  rw [hz] at g1
  unfold g5_behind_29 at g1
  rw [if_neg (by decide), if_pos (by decide)] at g1
  unfold g5_behind_50 at g1
  dsimp only [pb5] at g1
  rw [if_pos (by decide)] at g1
  obtain ⟨f1, f2⟩ := se_5 (r := 6) (by decide) ws (by omega) L.2.2.2.1.1 L.2.2.2.1.2.1 L.2.2.2.1.2.2
  rw [dR_65 ac] at f2
  generalize g5_settle 6 σ = σ1 at f1 f2 g1
  have L1 := lr_fe5 L fe_r5 f1
  obtain ⟨j1, j2⟩ := se_5 (r := 1) (by decide) f2 (by omega) L1.2.2.2.1.1 L1.2.2.2.1.2.1 L1.2.2.2.1.2.2
  unfold g5_behind_93 at g1
  dsimp only [pb5] at g1
  generalize g5_settle 1 σ1 = σ2 at j1 j2 g1
  obtain ⟨d1, d2, d3, d4⟩ := dr_5 (r := 1) (by decide) (by decide) ac wf nu
  have dl := a2_l5 d1
  have dl2 := dC_l5 (r := 1) (C := C)
  rcases emC_5 (r := 1) wc (by omega) with z | ⟨e4, z1, z2, z3⟩
  · exact Or.inl z
  · rw [dr_U5 (by decide) hU] at z3
    refine Or.inr ⟨e4, z1, ?_⟩
    have L2 := lr_fe5 L1 z2 j1
    rw [lr_go5 L2, if_neg ne105] at g1
    have fin5 : ∀ (c : Int32) (C' : List Int32) (s : Int32) (S' : List Int32), drC5 1 C = c :: C' → drR5 1 S = s :: S' → (¬ e4.1 paWaits ≤ 0 ∧ sr5 (fun e' _ σ' => (g5_behind σ).2 = 1 ∧ ∃ U' C' S', es15 T X Bk N Z V W a0 l (a + 1) U' C' S' e' σ') (f5_Pa_closeInner e4) (g5_behind σ).1) := fun c C' s S' hC hS => by
      have rc := dC_15 hC
      rw [hC] at z3 d1 dl dl2
      rw [hS] at j2 d1 dl d2 d3 d4
      rw [List.length_cons, List.length_cons] at dl
      rw [List.length_cons] at dl2
      obtain ⟨w1, w2, w3⟩ := wC_t5 z3 (by omega)
      obtain ⟨t1, t2, t3⟩ := tp_5 j2 (by omega)
      refine ⟨w1, ?_⟩
      have e48 : ¬ σ2.1 48 = 0 := fun q => by
        have z0 := j2.1
        rw [q, List.length_cons] at z0
        have y0 := congrArg Int32.toInt z0
        rw [ofn_i (by omega), t0i] at y0
        omega
      rw [if_neg e48, t1] at g1
      have br : (c = 100 ∧ s = 40) ∨ (c ≠ 100 ∧ s = 91) := by
        have k6 : (6 : Int32).toInt = 6 := rfl
        rcases d1.1 with ⟨x1, _⟩ | ⟨_, _, x⟩ | ⟨x1, _, x2, _⟩
        · rw [x1, k6] at rc; omega
        · exact x
        · rw [x2] at rc; omega
      have bk' : bk5 S = bk5 S' + 1 := by
        rw [← d4]
        rcases br with ⟨_, x⟩ | ⟨_, x⟩ <;> rw [x]
        · exact bk_45
        · exact bk_95
      -- what is left when the bracket is closed
      have last : ∀ (c9 : Int32) (σ3 : rS), 0 < c9.toInt → c9.toInt < 128 → (c9 = 41 ∨ c9 = 93) → (g5_behind σ = (σ3, 1)) → kq5 (g5_close c9 σ2) σ3 → (∀ e' : E5, LR5 T X Bk N Z V W (a + 1) (l + bk5 S') e' (g5_close c9 σ2) → wS5 (g5_close c9 σ2) (s :: S') → fs5 (g5_close c9 σ2) σ3 ∧ wS5 σ3 (drU5 S')) → sr5 (fun e' _ σ' => (g5_behind σ).2 = 1 ∧ ∃ U' C' S', es15 T X Bk N Z V W a0 l (a + 1) U' C' S' e' σ') (f5_Pa_closeInner_26 c c9 e4) (g5_behind σ).1 := fun c9 σ3 c0 c1 c2 hg hq hs3 => by
        rw [hg]
        unfold f5_Pa_closeInner_26
        have L4 : LR5 T X Bk N Z V W a (l + bk5 S' + 1) e4 σ2 := by
          have y : l + bk5 S' + 1 = l + bk5 S := by omega
          rw [y]; exact L2
        have dd : ∀ p (e' : E5), dk5 p e' → dq5 p (rdB5 (sw5 (e'.1 paWaits - 1) e') (fun e5 _ => if c = 100 then .inl (e5, ()) else rdB5 (f5_Co_emit 4 (c - 101) e5) (fun e7 _ => .inl (e7, ())))) := fun p e' d => dq_b5 (dq_i5 d) (fun e5 _ d5 => dq_f5 (dq_i5 d5) (dq_b5 (dq_i5 d5) (fun e7 _ d7 => dq_i5 d7)))
        refine sr_b5 (sr_close H L4 c0 c1) (fun e' _ n Q => ?_) hq (fun p e' _ d => dd p e' d)
        obtain ⟨e5, p1, p2, p3⟩ := wC_s5 (wC_f5 z3 Q.2.1) (by omega)
        obtain ⟨q1, q2⟩ := hs3 e' Q.1 (wS_f5 j2 Q.2.2)
        obtain ⟨U', C2, u1, u2, u3, u4, u5, u6⟩ := dU_5 d1.2 d2.2
        have hk9 : T.2.1 a = c9 := by
          have z := (lr_at5 (c := c9) H L4 c0 c1)
          by_cases y : e4.1 paKind = c9
          · rw [kT, ← z2.2.2.2.1]; exact y
          · exfalso
            have L3 : LR5 T X Bk N Z V W a (l + bk5 S' + 1) e4 (siU σ2 13 (σ2.1 13 - 0)) := lr_fe5 L4 fe_r5 ⟨rfl, rfl, rfl, rfl, rfl, rfl, rfl, by show σ2.1 13 - 0 = σ2.1 13; exact Int32.sub_zero _⟩
            have e9 : g5_close c9 σ2 = g5_flaw 2 ((siU σ2 13 (σ2.1 13 - 0)).1 10) (siU σ2 13 (σ2.1 13 - 0)) := by
              unfold g5_close g5_close_18 g5_sign
              dsimp only [pb5]
              rw [z, if_neg y, if_pos rfl]
              have e8 : g5_isAt c9 (siU σ2 13 (σ2.1 13 - 0)) = g5_isAt c9 σ2 := rfl
              rw [e8, z, if_neg y, if_pos rfl]
            have w := (lr_fl5 (f := 2) H L3).1
            rw [← e9, Q.1.2.2.2.1.1] at w
            exact absurd w (by decide)
        have es : ∀ e6 : E5, fe5 e' e6 → wC5 e6 C' → es15 T X Bk N Z V W a0 l (a + 1) U' C2 (drU5 S') e6 σ3 := fun e6 v1 v2 => by
          refine ⟨by rw [u6]; exact lr_fe5 Q.1 v1 q1, by rw [← u1]; exact v2, u2, q2, u3, u4, u5, by rw [← u1]; omega, by omega, ?_⟩
          rw [u6]
          exact sc_c5 H (by rw [← bk']; exact sc) ha (by omega) (by rw [hk9]; exact c2)
        rw [p1]
        show sr5 _ (if c = 100 then _ else _) _
        by_cases y : c = 100
        · rw [if_pos y]
          have k5 : e5.1 paKind = e'.1 paKind := p2.2.2.2.1
          exact sr_i5 (by rw [k5]; exact n) ⟨rfl, U', C2, drU5 S', es e5 p2 p3⟩
        · rw [if_neg y]
          obtain ⟨e7, v1, v2, v3⟩ := wC_e5 (o := 4) (x := c - 101) p3
          rw [v1]
          have k5 : e7.1 paKind = e'.1 paKind := v2.2.2.2.1.trans p2.2.2.2.1
          exact sr_i5 (by rw [k5]; exact n) ⟨rfl, U', C2, drU5 S', es e7 (fe_t5 p2 v2) v3⟩
      unfold f5_Pa_closeInner
      dsimp only [pb5]
      rw [w3]
      rcases br with ⟨b1, b2⟩ | ⟨b1, b2⟩
      · rw [if_pos b1]
        rw [if_pos b2] at g1
        refine last 41 _ (by decide) (by decide) (Or.inl rfl) g1 (kq_turn (kq_si (by decide) (by decide) kq_rf)) (fun e' L5 w5 => ?_)
        obtain ⟨_, t8, t9⟩ := tp_5 w5 (by omega)
        obtain ⟨q1, q2⟩ := tu_5 (σ := siU (g5_close 41 σ2) 48 ((g5_close 41 σ2).1 48 - 1)) (S := S') ⟨t9, w5.2.2⟩ (by omega)
        exact ⟨fs_t5 (⟨rfl, rfl, rfl, rfl, rfl, rfl, rfl, rfl⟩ : fs5 (g5_close 41 σ2) (siU (g5_close 41 σ2) 48 ((g5_close 41 σ2).1 48 - 1))) q1, q2⟩
      · rw [if_neg b1]
        rw [if_neg (by rw [b2]; decide)] at g1
        by_cases y : g5_goesOn (siU (g5_close 93 σ2) 48 ((g5_close 93 σ2).1 48 - 1)) = 0
        · have y2 := y
          rw [if_pos y] at g1
          unfold g5_behind_245 at g1
          dsimp only [pb5] at g1
          rw [y, if_pos rfl] at g1
          refine last 93 _ (by decide) (by decide) (Or.inr rfl) g1 (kq_si (by decide) (by decide) kq_rf) (fun e' L5 w5 => ?_)
          exfalso
          have L6 : LR5 T X Bk N Z V W (a + 1) (l + bk5 S') e' (siU (g5_close 93 σ2) 48 ((g5_close 93 σ2).1 48 - 1)) := lr_fe5 L5 fe_r5 ⟨rfl, rfl, rfl, rfl, rfl, rfl, rfl, rfl⟩
          rw [lr_go5 L6] at y2
          exact absurd y2 (by decide)
        · rw [if_neg y] at g1
          have m46 : (g5_close 93 σ2).1 46 = σ2.1 46 := cl_465
          have m0 : (siU (g5_close 93 σ2) 48 ((g5_close 93 σ2).1 48 - 1)).1 46 = 0 := by
            show (g5_close 93 σ2).1 46 = 0
            rw [m46]; exact L2.2.2.2.1.2.1
          rw [m0, if_neg (by decide)] at g1
          unfold g5_behind_245 at g1
          dsimp only [pb5] at g1
          rw [if_neg y] at g1
          refine last 93 _ (by decide) (by decide) (Or.inr rfl) g1 (kq_turn (kq_si (by decide) (by decide) kq_rf)) (fun e' L5 w5 => ?_)
          obtain ⟨_, t8, t9⟩ := tp_5 w5 (by omega)
          obtain ⟨q1, q2⟩ := tu_5 (σ := siU (g5_close 93 σ2) 48 ((g5_close 93 σ2).1 48 - 1)) (S := S') ⟨t9, w5.2.2⟩ (by omega)
          exact ⟨fs_t5 (⟨rfl, rfl, rfl, rfl, rfl, rfl, rfl, rfl⟩ : fs5 (g5_close 93 σ2) (siU (g5_close 93 σ2) 48 ((g5_close 93 σ2).1 48 - 1))) q1, q2⟩
    cases hS : drR5 1 S with
    | nil =>
      rw [hS] at j2 d1 dl d4
      have hC0 : drC5 1 C = [] := List.eq_nil_of_length_eq_zero dl
      rw [hC0] at z3
      have e48 : σ2.1 48 = 0 := j2.1
      rw [if_pos e48] at g1
      have b0 : bk5 S = 0 := d4.symm
      refine Or.inl ⟨wC_05 z3, by rw [g1], ?_, h0, by rw [← b0]; exact sc⟩
      rw [g1]
      exact lr_l5 L2 (by omega)
    | cons s S' =>
      cases hC : drC5 1 C with
      | nil => rw [hC, hS] at dl; exact absurd dl (by rw [List.length_cons]; exact (Nat.succ_ne_zero _).symm)
      | cons c C' => exact Or.inr (fin5 c C' s S' hC hS)
end

end
section
set_option maxHeartbeats 1600000
/-! the expression's loop -/
theorem dq_em5 {p r : Int32} : ∀ (m : Nat) (e : E5), dk5 p e → dq5 p (f5_Pa_emitWaiting_0 m r e)
  | 0, _, _ => Or.inl rfl
  | m + 1, e, d => by
    rw [f5_Pa_emitWaiting_0]
    dsimp only [pb5]
    refine dq_f5 (dq_i5 d) (dq_f5 (dq_i5 d) ?_)
    exact dq_b5 (dq_i5 (a := ()) d) (fun e5 _ d5 => dq_b5 (dq_i5 (a := ()) d5) (fun e7 _ d7 => dq_em5 m e7 d7))
theorem dq_findVariable {p x : Int32} {e : E5} (d : dk5 p e) : dq5 p (f5_Pa_findVariable x e) := by
  unfold f5_Pa_findVariable
  dsimp only [pb5]
  exact dq_f5 (dq_f5 (dq_r5 d) (dq_i5 d)) (dq_i5 d)
theorem dq_findArray {p x : Int32} {e : E5} (d : dk5 p e) : dq5 p (f5_Pa_findArray x e) := by
  unfold f5_Pa_findArray
  dsimp only [pb5]
  exact dq_f5 (dq_r5 d) (dq_i5 d)
theorem dq_operandName {p x : Int32} {e : E5} (d : dk5 p e) : dq5 p (f5_Pa_operandName x e) := by
  unfold f5_Pa_operandName f5_Pa_operandName_49
  have dm : ∀ (e' : E5) (x y z : Int32), dk5 p e' → dq5 p (f5_Pa_operandName_68 x y z e') := fun e' x y z d => by
    unfold f5_Pa_operandName_68
    dsimp only [pb5]
    refine dq_f5 ?_ ?_
    · show dq5 p (rdB5 (f5_Co_emit _ _ e') _)
      exact dq_i5 d
    · show dq5 p (rdB5 (f5_Co_emit _ _ e') _)
      exact dq_i5 d
  exact dq_n5 d (by decide) (dq_n5 d (by decide) (dq_b5 (dq_findVariable d) (fun e' r d' => dq_f5 (dm _ _ _ _ d') (dm _ _ _ _ d'))))
theorem dq_operand {p : Int32} {e : E5} (d : dk5 p e) : dq5 p (f5_Pa_operand e) := by
  unfold f5_Pa_operand f5_Pa_operand_15
  refine dq_n5 d (by decide) ?_
  rw [if_pos rfl]
  exact dq_n5 d (by decide) (dq_n5 d (by decide) (dq_x5 (dx_open d (by decide))))
theorem dq_closeInner {p : Int32} {e : E5} (d : dk5 p e) : dq5 p (f5_Pa_closeInner e) := by
  unfold f5_Pa_closeInner f5_Pa_closeInner_26
  dsimp only [pb5]
  exact dq_f5 (dq_x5 (dx_close d (by decide))) (dq_x5 (dx_close d (by decide)))
theorem dq_178 {p : Int32} {e : E5} (d : dk5 p e) : dq5 p (f5_Pa_expression_178 e) := by
  unfold f5_Pa_expression_178
  exact dq_b5 (dq_i5 (a := ()) d) (fun e5 _ d5 => dq_i5 d5)
theorem dq_36 {p : Int32} : ∀ (m : Nat) (x3 x4 x5 x6 : Int32) (e : E5), dk5 p e → dq5 p (f5_Pa_expression_36 m x3 x4 x5 x6 e)
  | 0, _, _, _, _, _, _ => Or.inl rfl
  | m + 1, x3, x4, x5, x6, e, d => by
    have h161 : ∀ (s0 : Int32) (e' : E5), dk5 p e' → dq5 p (f5_Pa_expression_161 (f5_Pa_expression_36 m) x3 x4 x6 s0 e') := fun s0 e' d' => by
      unfold f5_Pa_expression_161
      dsimp only [pb5]
      exact dq_f5 (dq_36 m _ _ _ _ _ d') (dq_b5 (dq_closeInner d') (fun e2 _ d2 => dq_36 m _ _ _ _ _ d2))
    have h109 : ∀ (s0 : Int32) (e' : E5), dk5 p e' → dq5 p (f5_Pa_expression_109 (f5_Pa_expression_36 m) x5 x6 s0 e') := fun s0 e' d' => by
      unfold f5_Pa_expression_109
      dsimp only [pb5]
      exact dq_36 m _ _ _ _ _ d'
    have h87 : dq5 p (f5_Pa_expression_87 (f5_Pa_expression_36 m) x3 x4 x5 x6 e) := by
      unfold f5_Pa_expression_87
      dsimp only [pb5]
      refine dq_f5 ?_ (dq_f5 (dq_b5 (dq_operand d) (fun e' r d' => h109 r e' d')) (dq_b5 (dq_operandName d) (fun e' r d' => h109 r e' d')))
      have hb : f5_Pa_binary (e.1 paKind) = -1 := by rw [d.1]; decide
      rw [if_pos hb]
      exact dq_b5 (dq_em5 fu5 e d) (fun e' _ d' => dq_f5 (h161 0 e' d') (h161 1 e' d'))
    rw [f5_Pa_expression_36]
    exact dq_f5 (dq_178 d) (dq_f5 (dq_178 d) (dq_f5 h87 (dq_f5 (dq_n5 d (by decide) h87) h87)))
/-- columns -/
def stc5 (s c x : Int32) (e : E5) : E5 := if s < 0 then e else if e.1 coStatements ≤ s then e else (e.1, fun g j => if g = coRows ∧ j = (s * 11 + c).toNatClampNeg then x else e.2.1 g j, e.2.2)
theorem stc_5 {s c x : Int32} {e : E5} : f5_Co_setColumn s c x e = .inl (stc5 s c x e, ()) := by
  unfold f5_Co_setColumn stc5 sa5
  by_cases h : s < 0
  · rw [if_pos h, if_pos h]
  · rw [if_neg h, if_neg h]
    by_cases k : e.1 coStatements ≤ s
    · rw [if_pos k, if_pos k]
    · rw [if_neg k, if_neg k]
theorem stc_15 {s c x : Int32} {e : E5} : (stc5 s c x e).1 = e.1 ∧ (stc5 s c x e).2.2 = e.2.2 ∧ ∀ g, g ≠ 506 → (stc5 s c x e).2.1 g = e.2.1 g := by
  unfold stc5
  by_cases h : s < 0
  · rw [if_pos h]; exact ⟨rfl, rfl, fun _ _ => rfl⟩
  · rw [if_neg h]
    by_cases k : e.1 coStatements ≤ s
    · rw [if_pos k]; exact ⟨rfl, rfl, fun _ _ => rfl⟩
    · rw [if_neg k]; exact ⟨rfl, rfl, fun g hg => funext fun j => if_neg (fun q => hg q.1)⟩
/-- the same, with other rows of statements -/
def vr5 (V : V5) (R : Nat → Int32) : V5 := (V.1, V.2.1, V.2.2.1, V.2.2.2.1, V.2.2.2.2.1, V.2.2.2.2.2.1, V.2.2.2.2.2.2.1, V.2.2.2.2.2.2.2.1, V.2.2.2.2.2.2.2.2.1, V.2.2.2.2.2.2.2.2.2.1, R, V.2.2.2.2.2.2.2.2.2.2.2)
abbrev vrs5 (V : V5) : Nat → Int32 := V.2.2.2.2.2.2.2.2.2.2.1
abbrev vst5 (V : V5) : Int32 := V.2.2.2.2.2.2.2.2.2.1
theorem vr_i5 {V : V5} : vr5 V (vrs5 V) = V := rfl
def rst5 (s c x : Int32) (V : V5) : Nat → Int32 := if s < 0 then vrs5 V else if vst5 V ≤ s then vrs5 V else fun j => if j = (s * 11 + c).toNatClampNeg then x else vrs5 V j
theorem nG_v5 {T : T5} {Bk N : Nat} {V : V5} {W : W5} {R : Nat → Int32} (h : nG5 T Bk N V W) : nG5 T Bk N (vr5 V R) W := h
theorem nO_v5 {T : T5} {Bk N : Nat} {V : V5} {W : W5} {R : Nat → Int32} (h : nO5 T Bk N V W) : nO5 T Bk N (vr5 V R) W := h
theorem gE_st5 {s c x : Int32} {e : E5} : gE5 (stc5 s c x e) = vr5 (gE5 e) (rst5 s c x (gE5 e)) := by
  unfold stc5 rst5
  by_cases h : s < 0
  · rw [if_pos h, if_pos h]; rfl
  · rw [if_neg h, if_neg h]
    by_cases k : e.1 coStatements ≤ s
    · rw [if_pos k, if_pos (show vst5 (gE5 e) ≤ s from k)]; rfl
    · rw [if_neg k, if_neg (show ¬ vst5 (gE5 e) ≤ s from k)]
      have r506 : (fun j => if 506 = coRows ∧ j = (s * 11 + c).toNatClampNeg then x else e.2.1 506 j) = fun j => if j = (s * 11 + c).toNatClampNeg then x else vrs5 (gE5 e) j := funext fun j => by
        by_cases q : j = (s * 11 + c).toNatClampNeg
        · rw [if_pos ⟨rfl, q⟩, if_pos q]
        · rw [if_neg (fun w => q w.2), if_neg q]; rfl
      have o : ∀ g, g ≠ 506 → (fun j => if g = coRows ∧ j = (s * 11 + c).toNatClampNeg then x else e.2.1 g j) = e.2.1 g := fun g hg => funext fun j => if_neg (fun q => hg q.1)
      show (e.1 509, (fun j => if 1006 = coRows ∧ j = (s * 11 + c).toNatClampNeg then x else e.2.1 1006 j), e.1 510, (fun j => if 1007 = coRows ∧ j = (s * 11 + c).toNatClampNeg then x else e.2.1 1007 j), e.1 512, (fun j => if 1008 = coRows ∧ j = (s * 11 + c).toNatClampNeg then x else e.2.1 1008 j), (fun j => if 504 = coRows ∧ j = (s * 11 + c).toNatClampNeg then x else e.2.1 504 j), e.1 1010, (fun j => if 1009 = coRows ∧ j = (s * 11 + c).toNatClampNeg then x else e.2.1 1009 j), e.1 513, (fun j => if 506 = coRows ∧ j = (s * 11 + c).toNatClampNeg then x else e.2.1 506 j), e.1 1014, (fun j => if 1011 = coRows ∧ j = (s * 11 + c).toNatClampNeg then x else e.2.1 1011 j), (fun j => if 1013 = coRows ∧ j = (s * 11 + c).toNatClampNeg then x else e.2.1 1013 j), e.1 1005, e.2.2) = _
      rw [r506, o 1006 (by decide), o 1007 (by decide), o 1008 (by decide), o 504 (by decide), o 1009 (by decide), o 1011 (by decide), o 1013 (by decide)]
      rfl
theorem lr_st5 {T : T5} {X : X5} {Bk N a l : Nat} {Z s c x : Int32} {V : V5} {W : W5} {e : E5} {σ : rS} (L : LR5 T X Bk N Z V W a l e σ) : LR5 T X Bk N Z (vr5 V (rst5 s c x V)) W a l (stc5 s c x e) σ := by
  obtain ⟨p1, p2, p3⟩ := stc_15 (s := s) (c := c) (x := x) (e := e)
  obtain ⟨⟨l1, l2, l3⟩, ⟨l4, l5⟩, l6, l7, l8⟩ := L
  refine ⟨⟨?_, l2, l3⟩, ⟨by rw [gE_st5, l4], l5⟩, by rw [p1]; exact l6, l7, by rw [p1]; exact l8⟩
  rw [← l1]
  unfold tq5
  rw [p1, p2, p3 taBytes (by decide), p3 taKinds (by decide), p3 taPlaces (by decide), p3 taLengths (by decide)]
def cont5 (mr : Nat) (q : rS × Int32) : rS × Int32 := if q.2 = 0 then g5_expression_12 mr 0 q.1 else g5_expression_12 mr 1 q.1
theorem kq_cont {s : rS} {mr : Nat} {q : rS × Int32} (h : kq5 s q.1) : kq5 s (cont5 mr q).1 := kq_ifp (kq_expression_12 _ _ _ h) (kq_expression_12 _ _ _ h)
theorem ex_25 {m : Nat} {σ : rS} : (g5_expression_12 (m + 1) 2 σ).1 = σ := by
  rw [g5_expression_12]
  dsimp only [pb5]
  by_cases c : g5_goesOn σ = 0
  · rw [if_pos c]; rfl
  · rw [if_neg c, if_pos (by decide)]; rfl
section
variable {T : T5} {X : X5} {Bk N : Nat} {Z : Int32} {V : V5} {W : W5} {a0 l a : Nat} {e : E5} {σ : rS}
theorem xr_b5 {α : Type} {Q : E5 → α → rS → Prop} {m : R5 α} {k : E5 → α → R5 Unit} {σ1 σ2 : rS} (h : sr5 Q m σ1) (hk : ∀ e a, e.1 paKind ≠ 143 → Q e a σ1 → xr5 T X Bk N Z V W a0 l (k e a) σ2) (hq : kq5 σ1 σ2) (hd : ∀ p e a, dk5 p e → dq5 p (k e a)) : xr5 T X Bk N Z V W a0 l (rdB5 m k) σ2 := by
  rcases h with h | ⟨e, a, h, n, q⟩ | h
  · rw [h]; exact Or.inl (Or.inl rfl)
  · rw [h]; exact hk e a n q
  · exact Or.inl (sr_b5 (Q := fun _ _ _ => False) (Or.inr (Or.inr h)) (fun e a n q => q.elim) hq hd)
theorem ex_m5 (H : TR5 T X Bk N Z) (G : nG5 T Bk N V W) (O : nO5 T Bk N V W) : ∀ m : Nat,
    (∀ (mr a n : Nat) (C S : List Int32) (e : E5) (σ : rS), es05 T X Bk N Z V W a0 l a C S e σ → n ≤ 2 * a → N - a + 2 ≤ mr → xr5 T X Bk N Z V W a0 l (f5_Pa_expression_36 m (-1) 1 1 (Int32.ofNat n) e) (g5_expression_12 mr 0 σ).1) ∧
    (∀ (mr a n t : Nat) (tok : Int32) (C S : List Int32) (e : E5) (σ : rS), es05 T X Bk N Z V W a0 l a C S e σ → a0 < a → n + 1 ≤ 2 * a → t < N → T.2.1 t = 140 → tok = Int32.ofNat (Bk + t) → N - a + 2 ≤ mr → xr5 T X Bk N Z V W a0 l (f5_Pa_expression_36 m (Int32.ofNat t) 1 1 (Int32.ofNat n) e) (cont5 mr (nmd5 tok σ)).1) ∧
    (∀ (mr a n : Nat) (U C S : List Int32) (e : E5) (σ : rS), es15 T X Bk N Z V W a0 l a U C S e σ → n ≤ 2 * a → N - a + 2 ≤ mr → xr5 T X Bk N Z V W a0 l (f5_Pa_expression_36 m (-1) 0 1 (Int32.ofNat n) e) (g5_expression_12 mr 1 σ).1)
  | 0 => ⟨fun _ _ _ _ _ _ _ _ _ _ => Or.inl (Or.inl rfl), fun _ _ _ _ _ _ _ _ _ _ _ _ _ _ _ _ => Or.inl (Or.inl rfl), fun _ _ _ _ _ _ _ _ _ _ _ => Or.inl (Or.inl rfl)⟩
  | m + 1 => by
    obtain ⟨i1, i2, i3⟩ := ex_m5 H G O m
    have h1 := H.1
    have tot : ∀ (a n : Nat) (e : E5) (σ : rS) (l' : Nat), LR5 T X Bk N Z V W a l' e σ → n ≤ 2 * a → ¬ (2 : Int32) * e.1 taTotal < Int32.ofNat n := fun a n e σ l' L hn => by
      have e1 : e.1 taTotal = Int32.ofNat N := by rw [← h1.1, ← L.1.1]; rfl
      have l2 : (2 : Int32).toInt = 2 := rfl
      have lN := ofn_i (n := N) (by omega)
      have ha := L.2.2.1.1
      have ln := ofn_i (n := n) (by omega)
      rw [e1, lti, mul_i (by rw [l2, lN]; omega) (by rw [l2, lN]; omega), l2, lN, ln]
      omega
    have h109 : ∀ (n : Nat) (s0 : Int32) (e' : E5), n ≤ 1000000 → f5_Pa_expression_109 (f5_Pa_expression_36 m) 1 (Int32.ofNat n) s0 e' = f5_Pa_expression_36 m (-1) s0 1 (Int32.ofNat (n + 1)) e' := fun n s0 e' hn => by
      unfold f5_Pa_expression_109
      dsimp only [pb5]
      rw [on_15 (by omega)]
    have d109 : ∀ (n : Nat) (p s0 : Int32) (e' : E5), dk5 p e' → dq5 p (f5_Pa_expression_109 (f5_Pa_expression_36 m) 1 (Int32.ofNat n) s0 e') := fun n p s0 e' d => by
      unfold f5_Pa_expression_109
      dsimp only [pb5]
      exact dq_36 m _ _ _ _ _ d
    refine ⟨fun mr a n C S e σ E hn hmr => ?_, fun mr a n t tok C S e σ E h0 hn ht kt htok hmr => ?_, fun mr a n U C S e σ E hn hmr => ?_⟩
    · have L := E.1
      have ha := L.2.2.1.1
      obtain ⟨mr, rfl⟩ : ∃ k, mr = k + 1 := ⟨mr - 1, by omega⟩
      have g0 : g5_expression_12 (mr + 1) 0 σ = cont5 mr (g5_operand σ) := by
        rw [g5_expression_12]
        dsimp only [pb5, pm5]
        rw [lr_go5 L, if_neg ne105, if_neg (by decide), if_pos rfl]
        rfl
      rw [g0, f5_Pa_expression_36, if_neg (by decide), if_neg (tot a n e σ _ L hn), if_neg (by decide), if_pos rfl]
      by_cases k : e.1 paKind = 140
      · rw [if_pos k]
        have kd := kd_o5 (lr_kd5 H L)
        have g1 : g5_operand σ = nmd5 (σ.1 10) (g5_go σ) := by
          rw [← nmd_5]
          have z33 : g5_isAt 33 σ = 0 := by rw [lr_at5 H L (by decide) (by decide), if_neg (by rw [k]; decide)]
          have z45 : g5_isAt 45 σ = 0 := by rw [lr_at5 H L (by decide) (by decide), if_neg (by rw [k]; decide)]
          have z40 : g5_isAt 40 σ = 0 := by rw [lr_at5 H L (by decide) (by decide), if_neg (by rw [k]; decide)]
          unfold g5_operand
          dsimp only [pb5, pm5]
          rw [z33, if_pos rfl, z45, if_pos rfl, z40, if_pos rfl, (lr_so5 H L).1, if_neg (fun q => by have z := kd.2.2.1.mp q; rw [k] at z; exact absurd z (by decide)), if_pos (kd.2.1.mpr k)]
        rw [g1]
        dsimp only [pb5]
        refine xr_b5 (sr_take H L (by rw [k]; decide)) (fun e' _ nn Q => ?_) (kq_cont (kq_nmd kq_rf)) (fun p e' _ d => dq_36 m _ _ _ _ _ d)
        rw [L.2.2.1.2.1, on_15 (by omega)]
        have kT := lr_K5 L
        refine i2 mr (a + 1) (n + 1) a (σ.1 10) C S e' (g5_go σ) ⟨Q.1, wC_f5 E.2.1 Q.2.1, wS_f5 E.2.2.1 Q.2.2, E.2.2.2.1, E.2.2.2.2.1, by have := E.2.2.2.2.2.1; omega, ?_⟩ (by have := (E.2.2.2.2.2.2 0).1; omega) (by omega) ha (by rw [kT]; exact k) L.2.2.1.2.2.1 (by omega)
        have hls := a2_l5 E.2.2.2.1
        have hb := bk_l5 (S := S)
        have hl := E.2.2.2.2.2.1
        exact sc_n5 H E.2.2.2.2.2.2 ha (by omega) (by rw [kT, k]; decide) (by rw [kT, k]; decide)
      · rw [if_neg k]
        unfold f5_Pa_expression_87
        rw [if_neg (by decide), if_pos rfl]
        refine xr_b5 (sr_opd H E k) (fun e' r nn Q => ?_) (kq_cont kq_rf) (fun p e' r d => d109 n p r e' d)
        rw [h109 n r e' (by omega)]
        rcases Q with ⟨rfl, q1, C', S', q2⟩ | ⟨rfl, q1, U, C', S', q2⟩
        · have g2 : cont5 mr (g5_operand σ) = g5_expression_12 mr 0 (g5_operand σ).1 := if_pos q1
          rw [g2]
          exact i1 mr (a + 1) (n + 1) C' S' e' _ q2 (by omega) (by omega)
        · have g2 : cont5 mr (g5_operand σ) = g5_expression_12 mr 1 (g5_operand σ).1 := if_neg (by rw [q1]; decide)
          rw [g2]
          exact i3 mr (a + 1) (n + 1) U C' S' e' _ q2 (by omega) (by omega)
    · have L := E.1
      have ha := L.2.2.1.1
      have nt : ¬ Int32.ofNat t = -1 := fun q => by
        have y := congrArg Int32.toInt q
        have l1 := ofn_i (n := t) (by omega)
        have l2 : (-1 : Int32).toInt = -1 := rfl
        omega
      rw [f5_Pa_expression_36, if_neg (by decide), if_neg (tot a n e σ _ L (by omega)), if_neg (by decide), if_neg nt]
      unfold f5_Pa_expression_87
      rw [if_neg (by decide), if_neg nt]
      refine xr_b5 (sr_opn H G O E ht kt htok h0) (fun e' r nn Q => ?_) (kq_cont kq_rf) (fun p e' r d => d109 n p r e' d)
      rw [h109 n r e' (by omega)]
      rcases Q with ⟨rfl, q1, C', S', q2⟩ | ⟨rfl, q1, U, C', S', q2⟩
      · have g2 : cont5 mr (nmd5 tok σ) = g5_expression_12 mr 0 (nmd5 tok σ).1 := if_pos q1
        rw [g2]
        exact i1 mr (a + 1) (n + 1) C' S' e' _ q2 (by omega) (by omega)
      · have g2 : cont5 mr (nmd5 tok σ) = g5_expression_12 mr 1 (nmd5 tok σ).1 := if_neg (by rw [q1]; decide)
        rw [g2]
        exact i3 mr a (n + 1) U C' S' e' _ q2 (by omega) (by omega)
    · have L := E.1
      have ha := L.2.2.1.1
      obtain ⟨mr, rfl⟩ : ∃ k, mr = k + 1 := ⟨mr - 1, by omega⟩
      have g0 : g5_expression_12 (mr + 1) 1 σ = g5_expression_12 mr (g5_behind σ).2 (g5_behind σ).1 := by
        rw [g5_expression_12]
        dsimp only [pb5, pm5]
        rw [lr_go5 L, if_neg ne105, if_neg (by decide), if_neg (by decide)]
      obtain ⟨mr2, rfl⟩ : ∃ k, mr = k + 1 := ⟨mr - 1, by omega⟩
      rw [g0, f5_Pa_expression_36, if_neg (by decide), if_neg (tot a n e σ _ L hn), if_pos rfl]
      unfold f5_Pa_expression_87
      rw [if_pos rfl]
      dsimp only [pb5]
      rw [on_15 (show n + 1 ≤ 67108864 by omega)]
      by_cases b : f5_Pa_binary (e.1 paKind) = -1
      · rw [if_pos b]
        rcases sr_bhE H E b with z | ⟨e4, z1, z⟩
        · rw [z]; exact Or.inl (Or.inl rfl)
        · rw [z1]
          show xr5 _ _ _ _ _ _ _ _ _ (if e4.1 paWaits ≤ 0 then _ else _) _
          rcases z with ⟨w, q1, q2, q3, q4⟩ | ⟨w, q⟩
          · rw [if_pos w, q1, ex_25]
            unfold f5_Pa_expression_161
            dsimp only [pb5]
            rw [if_pos rfl]
            cases m with
            | zero => exact Or.inl (Or.inl rfl)
            | succ m =>
              rw [f5_Pa_expression_36, if_pos rfl]
              unfold f5_Pa_expression_178
              refine Or.inl (sr_i5 ?_ ⟨a, lr_fe5 q2 ⟨rfl, rfl, rfl, rfl, rfl⟩ fs_r5, q3, q4⟩)
              show e4.1 paKind ≠ 143
              exact lr_k5 q2
          · rw [if_neg w]
            unfold f5_Pa_expression_161
            dsimp only [pb5]
            rw [if_neg (by decide), on_15 (show n + 1 ≤ 67108864 by omega)]
            refine xr_b5 q (fun e' _ nn Q => ?_) (kq_expression_12 _ _ _ kq_rf) (fun p e' _ d => dq_36 m _ _ _ _ _ d)
            obtain ⟨Q1, U', C', S', Q2⟩ := Q
            rw [Q1]
            exact i3 (mr2 + 1) (a + 1) (n + 1) U' C' S' e' _ Q2 (by omega) (by omega)
      · rw [if_neg b]
        rcases sr_bhB H E b with q | ⟨q1, q2, q3⟩
        · refine xr_b5 q (fun e' _ nn Q => ?_) (kq_expression_12 _ _ _ kq_rf) (fun p e' _ d => dq_36 m _ _ _ _ _ d)
          obtain ⟨Q1, C', S', Q2⟩ := Q
          rw [Q1]
          exact i1 (mr2 + 1) (a + 1) (n + 1) C' S' e' _ Q2 (by omega) (by omega)
        · rw [q1, q2, ex_25]
          exact Or.inr ⟨a, rfl, q3⟩
/-- the whole expression: rows of statements with one expression more -/
theorem sr_expr {s : Int32} (H : TR5 T X Bk N Z) (G : nG5 T Bk N V W) (O : nO5 T Bk N V W) (L : LR5 T X Bk N Z V W a l e σ) : xr5 T X Bk N Z (vr5 V (rst5 s 4 (cl5 s 4 e + 1) V)) W a l (f5_Pa_expression s (-1) e) (g5_expression σ).1 := by
  have h1 := H.1
  have ha := L.2.2.1.1
  unfold f5_Pa_expression g5_expression
  dsimp only [pb5]
  rw [stc_5]
  have L1 := lr_st5 (s := s) (c := 4) (x := cl5 s 4 e + 1) L
  generalize stc5 s 4 (cl5 s 4 e + 1) e = e1 at L1
  show xr5 _ _ _ _ _ _ _ _ _ (f5_Pa_expression_36 fu5 (-1) 1 1 0 _) _
  refine (ex_m5 H (nG_v5 G) (nO_v5 O) fu5).1 fu5 a 0 [] [] _ _ ⟨?_, ⟨rfl, trivial⟩, ⟨rfl, trivial⟩, trivial, trivial, by show 0 ≤ a; omega, fun n => sc_r5⟩ (by omega) (by unfold fu5; omega)
  exact lr_fe5 (show LR5 T X Bk N Z _ W a (l + bk5 []) e1 σ from L1) ⟨rfl, rfl, rfl, rfl, rfl⟩ ⟨rfl, rfl, rfl, rfl, rfl, rfl, rfl, rfl⟩
/-- with its first name taken already -/
theorem go_c5 {σ : rS} (c : σ.1 11 = 0) : g5_go σ = if (siU σ 10 (σ.1 10 + 1)).2.2.1 5 (σ.1 10 + 1).toNatClampNeg = 4 then siU (siU (siU σ 10 (σ.1 10 + 1)) 11 1) 12 (σ.2.2.1 6 (σ.1 10 + 1).toNatClampNeg) else siU σ 10 (σ.1 10 + 1) := by
  have e : g5_go σ = g5_readNext (siU σ 10 (σ.1 10 + 1)) := by
    unfold g5_go
    dsimp only [pb5]
    exact if_pos c
  rw [e]
  unfold g5_readNext
  by_cases d : (siU σ 10 (σ.1 10 + 1)).2.2.1 5 (σ.1 10 + 1).toNatClampNeg = 4
  · rw [if_pos (show (siU σ 10 (σ.1 10 + 1)).2.2.1 5 ((siU σ 10 (σ.1 10 + 1)).1 10).toNatClampNeg = 4 from d), if_pos d]
    show g5_flaw 1 (σ.1 10 + 1) (siU σ 10 (σ.1 10 + 1)) = _
    unfold g5_flaw g5_flaw_23
    dsimp only [pb5]
    rw [if_pos (show (siU σ 10 (σ.1 10 + 1)).1 11 = 0 from c), if_pos d]
    rfl
  · rw [if_neg (show ¬ (siU σ 10 (σ.1 10 + 1)).2.2.1 5 ((siU σ 10 (σ.1 10 + 1)).1 10).toNatClampNeg = 4 from d), if_neg d]
theorem go_w5 {σ : rS} : g5_go (siU (siU σ 48 0) 49 0) = siU (siU (g5_go σ) 48 0) 49 0 := by
  have sw : ∀ (τ : rS) (k : Nat) (x : Int32), k ≠ 48 → k ≠ 49 → siU (siU (siU τ 48 0) 49 0) k x = siU (siU (siU τ k x) 48 0) 49 0 := fun τ k x h1 h2 => by
    refine Prod.ext (funext fun j => ?_) rfl
    show (if j = k then x else if j = 49 then 0 else if j = 48 then 0 else τ.1 j) = (if j = 49 then 0 else if j = 48 then 0 else if j = k then x else τ.1 j)
    by_cases c : j = k
    · rw [if_pos c, if_neg (by omega), if_neg (by omega), if_pos c]
    · rw [if_neg c, if_neg c]
  by_cases c : σ.1 11 = 0
  · rw [go_c5 c, go_c5 (show (siU (siU σ 48 0) 49 0).1 11 = 0 from c)]
    have e10 : (siU (siU σ 48 0) 49 0).1 10 = σ.1 10 := rfl
    rw [e10, sw σ 10 _ (by decide) (by decide)]
    by_cases d : (siU σ 10 (σ.1 10 + 1)).2.2.1 5 (σ.1 10 + 1).toNatClampNeg = 4
    · rw [if_pos d, if_pos (show (siU (siU (siU σ 10 (σ.1 10 + 1)) 48 0) 49 0).2.2.1 5 (σ.1 10 + 1).toNatClampNeg = 4 from d), sw _ 11 _ (by decide) (by decide), sw _ 12 _ (by decide) (by decide)]
      rfl
    · rw [if_neg d, if_neg (show ¬ (siU (siU (siU σ 10 (σ.1 10 + 1)) 48 0) 49 0).2.2.1 5 (σ.1 10 + 1).toNatClampNeg = 4 from d)]
  · unfold g5_go
    rw [if_neg (show ¬ (siU (siU σ 48 0) 49 0).1 11 = 0 from c), if_neg c]
theorem ge_T5 (H : TR5 T X Bk N Z) (L : LR5 T X Bk N Z V W a l e σ) (k : e.1 paKind = 140) : g5_expression σ = cont5 4294967295 (nmd5 (σ.1 10) (siU (siU (g5_go σ) 48 0) 49 0)) := by
  have L2 : LR5 T X Bk N Z V W a l e (siU (siU σ 48 0) 49 0) := lr_fe5 L fe_r5 ⟨rfl, rfl, rfl, rfl, rfl, rfl, rfl, rfl⟩
  have kd := kd_o5 (lr_kd5 H L2)
  have g1 : g5_operand (siU (siU σ 48 0) 49 0) = nmd5 (σ.1 10) (g5_go (siU (siU σ 48 0) 49 0)) := by
    have z : nmd5 (σ.1 10) (g5_go (siU (siU σ 48 0) 49 0)) = g5_named (siU (siU σ 48 0) 49 0) := rfl
    rw [z]
    have z33 : g5_isAt 33 (siU (siU σ 48 0) 49 0) = 0 := by rw [lr_at5 H L2 (by decide) (by decide), if_neg (by rw [k]; decide)]
    have z45 : g5_isAt 45 (siU (siU σ 48 0) 49 0) = 0 := by rw [lr_at5 H L2 (by decide) (by decide), if_neg (by rw [k]; decide)]
    have z40 : g5_isAt 40 (siU (siU σ 48 0) 49 0) = 0 := by rw [lr_at5 H L2 (by decide) (by decide), if_neg (by rw [k]; decide)]
    unfold g5_operand
    dsimp only [pb5, pm5]
    rw [z33, if_pos rfl, z45, if_pos rfl, z40, if_pos rfl, (lr_so5 H L2).1, if_neg (fun q => by have z := kd.2.2.1.mp q; rw [k] at z; exact absurd z (by decide)), if_pos (kd.2.1.mpr k)]
  unfold g5_expression
  dsimp only [pb5]
  rw [show fu5 = 4294967295 + 1 from rfl, g5_expression_12]
  dsimp only [pb5, pm5]
  rw [lr_go5 L2, if_neg ne105, if_neg (by decide), if_pos rfl, g1, go_w5]
  rfl
theorem sr_exprT {s : Int32} {t : Nat} {e0 : E5} {V0 : V5} {l0 : Nat} (H : TR5 T X Bk N Z) (G : nG5 T Bk N V W) (O : nO5 T Bk N V W) (L0 : LR5 T X Bk N Z V0 W t l0 e0 σ) (k : e0.1 paKind = 140) (L : LR5 T X Bk N Z V W (t + 1) l e (g5_go σ)) : xr5 T X Bk N Z (vr5 V (rst5 s 4 (cl5 s 4 e + 1) V)) W t l (f5_Pa_expression s (Int32.ofNat t) e) (g5_expression σ).1 := by
  have h1 := H.1
  have ha := L.2.2.1.1
  rw [ge_T5 H L0 k]
  unfold f5_Pa_expression
  dsimp only [pb5]
  rw [stc_5]
  have L1 := lr_st5 (s := s) (c := 4) (x := cl5 s 4 e + 1) L
  generalize stc5 s 4 (cl5 s 4 e + 1) e = e1 at L1
  show xr5 _ _ _ _ _ _ _ _ _ (f5_Pa_expression_36 fu5 (Int32.ofNat t) 1 1 0 _) _
  have kT := lr_K5 L0
  refine (ex_m5 H (nG_v5 G) (nO_v5 O) fu5).2.1 4294967295 (t + 1) 0 t (σ.1 10) [] [] _ _ ⟨?_, ⟨rfl, trivial⟩, ⟨rfl, trivial⟩, trivial, trivial, by show 0 ≤ t + 1; omega, ?_⟩ (by omega) (by omega) (by omega) (by rw [kT]; exact k) L0.2.2.1.2.2.1 (by omega)
  · exact lr_fe5 (show LR5 T X Bk N Z _ W (t + 1) (l + bk5 []) e1 (g5_go σ) from L1) ⟨rfl, rfl, rfl, rfl, rfl⟩ ⟨rfl, rfl, rfl, rfl, rfl, rfl, rfl, rfl⟩
  · exact sc_n5 H (fun n => sc_r5) (by omega) (by show 0 ≤ 65537; omega) (by rw [kT, k]; decide) (by rw [kT, k]; decide)
/-- the reference at a second comparison finds it at once -/
theorem dc_at5 {c : Int32} (H : TR5 T X Bk N Z) (d : dcm5 T X Bk N a σ) (h0 : 0 < c.toInt) (h1 : c.toInt < 128) (hc : f5_Pa_binary c = -1) : g5_isAt c σ = 0 := by
  have hh := H.1
  obtain ⟨d1, d2, d3, d4, d5, d6⟩ := d
  have kd := kd_s5 (H.2.2.1 a d1) h0 h1
  have e5 : σ.2.2.1 5 (σ.1 10).toNatClampNeg = X.1 (Bk + a) := by rw [d4, cl_5 (by omega), ← d2]; rfl
  have e7 : σ.2.2.1 7 (σ.1 10).toNatClampNeg = X.2.2.1 (Bk + a) := by rw [d4, cl_5 (by omega), ← d2]; rfl
  unfold g5_isAt
  rw [e5, e7]
  by_cases q : X.1 (Bk + a) = 3
  · rw [if_pos q, if_neg (fun q2 => by
      have z := kd.mp ⟨q, q2⟩
      rw [z, hc] at d6
      exact absurd d6 (by decide))]
  · rw [if_neg q]
theorem dc_fl5 (H : TR5 T X Bk N Z) (d : dcm5 T X Bk N a σ) : (g5_flaw 2 (σ.1 10) σ).1 11 = 2 ∧ (g5_flaw 2 (σ.1 10) σ).1 12 = T.2.2.1 a := fl_5 H d.2.1 d.2.2.1 d.2.2.2.1 d.1 d.2.2.2.2.1
theorem dc_sign {c : Int32} (H : TR5 T X Bk N Z) (d : dcm5 T X Bk N a σ) (h0 : 0 < c.toInt) (h1 : c.toInt < 128) (hc : f5_Pa_binary c = -1) : (g5_sign c σ).1 11 = 2 ∧ (g5_sign c σ).1 12 = T.2.2.1 a := by
  unfold g5_sign
  dsimp only [pb5]
  rw [dc_at5 H d h0 h1 hc, if_pos rfl]
  exact dc_fl5 H d
theorem dc_close {c : Int32} (H : TR5 T X Bk N Z) (d : dcm5 T X Bk N a σ) (h0 : 0 < c.toInt) (h1 : c.toInt < 128) (hc : f5_Pa_binary c = -1) : (g5_close c σ).1 11 = 2 ∧ (g5_close c σ).1 12 = T.2.2.1 a := by
  unfold g5_close g5_close_18
  dsimp only [pb5]
  rw [dc_at5 H d h0 h1 hc, if_pos rfl]
  exact dc_sign (σ := siU σ 13 (σ.1 13 - 0)) H d h0 h1 hc
theorem dc_open {c : Int32} (H : TR5 T X Bk N Z) (d : dcm5 T X Bk N a σ) (h0 : 0 < c.toInt) (h1 : c.toInt < 128) (hc : f5_Pa_binary c = -1) : (g5_open c σ).1 11 = 2 ∧ (g5_open c σ).1 12 = T.2.2.1 a := by
  unfold g5_open
  dsimp only [pb5]
  rw [dc_at5 H d h0 h1 hc, if_pos rfl]
  obtain ⟨f1, f2⟩ := dc_fl5 H d
  obtain ⟨y1, y2⟩ := kq_open_38 (kq_rf (s := g5_flaw 2 (σ.1 10) σ)) (by rw [f1]; decide)
  exact ⟨y1.trans f1, y2.trans f2⟩
/-- an expression and what stands behind it -/
theorem xb_5 {β : Type} {Q' : E5 → β → rS → Prop} {m : R5 Unit} {k : E5 → Unit → R5 β} {σ1 σ2 : rS} (h : xr5 T X Bk N Z V W a0 l m σ1) (hk : ∀ e a', e.1 paKind ≠ 143 → LR5 T X Bk N Z V W a' l e σ1 → a0 < a' → (∀ n, sc5 X Bk a0 a' 0 n n) → sr5 Q' (k e ()) σ2) (hq : kq5 σ1 σ2) (hd : ∀ p e, dk5 p e → dq5 p (k e ())) (hc : ∀ a', dcm5 T X Bk N a' σ1 → σ2.1 11 = 2 ∧ σ2.1 12 = T.2.2.1 a') : sr5 Q' (rdB5 m k) σ2 := by
  rcases h with h | ⟨a', h, d⟩
  · exact sr_b5 h (fun e a n q => by obtain ⟨a', q1, q2, q3⟩ := q; exact hk e a' n q1 q2 q3) hq (fun p e a d => hd p e d)
  · rw [h]
    exact sr_r5 (by decide) (hc a' d).1 (hc a' d).2
theorem dq_expr {p s t : Int32} {e : E5} (d : dk5 p e) : dq5 p (f5_Pa_expression s t e) := by
  unfold f5_Pa_expression
  dsimp only [pb5]
  rw [stc_5]
  have d1 : dk5 p (stc5 s 4 (cl5 s 4 e + 1) e) := by
    obtain ⟨p1, p2, p3⟩ := stc_15 (s := s) (c := 4) (x := cl5 s 4 e + 1) (e := e)
    unfold dk5 pl5 at d ⊢
    rw [p1, p3 taPlaces (by decide)]
    exact d
  exact dq_b5 (dq_i5 (a := ()) d1) (fun e1 _ q1 => dq_b5 (dq_i5 (a := ()) q1) (fun e2 _ q2 => dq_36 _ _ _ _ _ _ q2))
end

end
