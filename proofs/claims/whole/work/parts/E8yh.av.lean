section
set_option maxHeartbeats 1600000
/-! the class: solve by what it answers -/
theorem tb_15 {κ : zS} {a : Nat} {σ : rS} (hr8 : RC8 κ a σ) (ex : σ.1 69 ≠ 0) (hP : pOK σ) (A : atW κ (zR κ chAtlas a) (σ.1 70).toNatClampNeg) : tbl15 κ (zR κ chAtlas a) (σ.1 70).toNatClampNeg σ := by
  obtain ⟨⟨nv, s, w, _, n, m, x, ⟨e1, e2, e3⟩, ⟨b1, b2, b3⟩, ⟨v1, v2, v3⟩, _, _, hx, hb, hl⟩, _, _, _, PL, _, UQ⟩ := hr8.2.2.1 ex
  have n70 : (σ.1 70).toNatClampNeg = n := by rw [e1, cl_5 (by omega)]
  have v3' : zI κ atNexts (zR κ chAtlas a) = Int32.ofNat x := v3
  refine ⟨⟨hP, rfl, A⟩, fun j hj => ⟨(hb j (by omega)).1, ?_⟩, fun j hj => ?_, fun j hj => ⟨(hb j (by omega)).2.2.2, (hb j (by omega)).2.1, PL j hj⟩, UQ.1⟩
  · by_cases c : j + 1 < n
    · exact (hb (j + 1) c).1
    · rw [show j + 1 = n by omega]
      exact hl (by omega)
  · rw [v3', ofn_i (by omega)] at hj
    exact hx j (by omega)
/-- solve, of the class: what it leaves of visits; worths and all else stay -/
def CV16 (κ κ' : zS) (a : Nat) (σ : rS) : Prop := (kW16 κ κ' a ∧ kS16 κ κ' a ∧ kD16 κ κ' a) ∧ (sc15 σ → fX15 κ' (zR κ' chSolver a) (σ.1 70).toNatClampNeg σ (sw15 σ) ∧ (sw15 σ = 0 ↔ zI κ' soSolved (zR κ' chSolver a) ≠ 0) ∧ (sw15 σ = 0 → ∀ k, k < (σ.1 70).toNatClampNeg → zT κ' (vU9 κ' (zR κ' chSolver a) k) = 11)) ∧ (¬ sc15 σ → kV16 κ κ' a)
theorem cv_r16 {κ : zS} {a : Nat} {σ : rS} (h : ¬ sc15 σ) : CV16 κ κ a σ := ⟨kA_r16.2, fun z => absurd z h, fun _ => kA_r16.1⟩
theorem cv_16 {C : zC} {n0 a : Nat} {L : Int} {ρ : Nat → Nat} {κ κ' : zS} {σ : rS} {v : Int32} (W : zW C n0 κ) (T : zT κ a = 15) (I : chI9 ρ κ a L) (q : fvP9 ρ κ κ' (zR κ chSolver a) (σ.1 70).toNatClampNeg) (ex : sc15 σ) (ev : v = sw15 σ) (zx : fX15 κ' (zR κ chSolver a) (σ.1 70).toNatClampNeg σ v) (zk : kr16 ρ κ κ') (zs : v = 0 ↔ zI κ' soSolved (zR κ chSolver a) ≠ 0) : CV16 κ κ' a σ := by
  obtain ⟨ρ', _, Z, S', A', _, _, V, _⟩ := q
  obtain ⟨rs, kw, ks, kd⟩ := sv_k16 W T I.2.2.1.1 I.2.2.1.2.2.2 Z zk
  unfold CV16
  rw [rs, ← ev]
  refine ⟨⟨kw, ks, kd⟩, fun e => ⟨zx, zs, fun z k hk => ?_⟩, fun z => absurd ex z⟩
  · obtain ⟨P, vs, _⟩ := V (zs.mp z)
    exact (S'.1.1.2 _ (by
      have a9 := A'.2.2.1
      rw [(vs k hk).2.1]
      unfold raR
      omega)).1
theorem Ch_solve_c8 {C : zC} {n0 : Nat} {a0 : Nat} {κ : zS} {Q : Int32 → zS → Prop} {X : zXp} (W : zW C n0 κ) (Ta0 : zT κ a0 = 15) (ρ : Nat → Nat) (L9 : Int) (σ9 : rS) (hr8 : RC8 κ a0 σ9) (hP : pOK σ9) (hp : chI9 ρ κ a0 L9) (h : ∀ (v : Int32) (κ' : zS), ((∃ ρ', chI9 ρ' κ' a0 L9 ∧ (∃ F, zF F κ κ') ∧ pA8 κ κ' a0 ∧ CV16 κ κ' a0 σ9) ∧ sc15 σ9 ∧ v = sw15 σ9) → Q v κ') (hx : ∀ (cls : String) (κ' : zS), (cls = "java/lang/IllegalStateException" ∧ κ' = ut κ ∧ ¬ sc15 σ9) → X cls κ') : zRun C 9 mCh_solve [.ref a0] κ (oI Q X) := by
  refine Ch_solve_run W Ta0 ?_
  replace W := W.lo (Nat.le_trans W.1.2.1 W.1.2.2) (Nat.le_refl (zn κ))
  unfold w_Ch_solve_0
  refine ⟨fun c1 => ?_, fun c1 => ?_⟩
  · have e69 : sc15 σ9 := fun z => c1 (hr8.2.1.mp z)
    obtain ⟨⟨nv, s, w, _, A8⟩, _⟩ := hr8.2.2.1 e69
    obtain ⟨⟨n9, A⟩, _⟩ := ch_x9 hp c1
    have n70 : n9 = (σ9.1 70).toNatClampNeg := by
      obtain ⟨n, m, x, ⟨f1, _⟩, ⟨b1, _⟩, ⟨v1, _⟩, _⟩ := A8
      have v1' : zI κ hoTotal (zR κ atStates (zR κ chAtlas a0)) = Int32.ofNat n := v1
      have y := A.2.2.2.1
      rw [v1', ofn_i (by omega)] at y
      rw [f1, cl_5 (by omega)]
      omega
    subst n70
    have lk := hp.2.2.1.2.2.1
    intro T2
    refine So_findVisitz_q16 W T2 ρ (σ9.1 70).toNatClampNeg σ9 (by rw [lk.1]; exact tb_15 hr8 e69 hP A) ?_ (fun r3 κ_4 q5 => ?_)
    · refine ⟨hp.2.2.1.1, ?_, by rw [lk.1]; exact A⟩
      rw [lk.2]
      exact hp.2.1.1.2.2.1
    intro W6
    intro M7
    obtain ⟨q5, zx, zk, zs⟩ := q5
    have ev := fx_15 hP rfl zx
    obtain ⟨ρ', I', Fr, P'⟩ := ch_v9 W Ta0 hp c1 A q5
    exact h _ _ ⟨⟨ρ', I', Fr, P', cv_16 W Ta0 hp q5 e69 ev zx zk zs⟩, e69, ev⟩
  · intro κ_8 hκ_8
    exact hx _ _ ⟨rfl, hκ_8, fun z => z (hr8.2.1.mpr (by first | exact c1 | (exact Classical.not_not.mp c1)))⟩
theorem ra_16 {κ κ' : zS} {a : Nat} {σ σ' : rS} (k : kR7 σ σ') (k2 : (∀ g, g ∈ ke8 → σ'.1 g = σ.1 g) ∧ (∀ g, g ∈ kx8 → σ'.2.2.1 g = σ.2.2.1 g) ∧ σ'.2.1 110 = σ.2.1 110) (h : RA8 κ a σ) (c : kC7 κ κ' a) (c2 : kA7 κ κ' a) (rk : RK16 κ' a σ') : RA8 κ' a σ' := rc_8 k ⟨k2.1, fun g q => k2.2.1 g ((by decide : ∀ g, g ∈ ky8 → g ∈ kx8) g q), k2.2.2⟩ h c (kA_b7 c2) rk (fun _ g j hj => by
  rw [k2.1 70 (by decide)] at hj
  rw [show plC8 κ' a = plC8 κ a from (Prod.mk.inj (Prod.mk.inj c2.2).2).1, k2.2.1 83 (by decide)]
  exact g j hj)
theorem kx_i16 {σ σ' : rS} (k : ∀ g, g ∈ kx8 → σ'.2.2.1 g = σ.2.2.1 g) : ∀ g, 76 ≤ g → g ≤ 83 → g ≠ 82 → σ'.2.2.1 g = σ.2.2.1 g := fun g g0 g1 _ => k g ((by decide : ∀ g, g ∈ kx7 → g ∈ kx8) g (kX_i16 (by omega) g1))
theorem k7_i16 {σ σ' : rS} (k1 : ∀ g, g ∈ ke8 → σ'.1 g = σ.1 g) (k2 : ∀ g, g ∈ kx8 → σ'.2.2.1 g = σ.2.2.1 g) : kT7 σ σ' := kX_7 ⟨fun g q => k1 g ((by decide : ∀ g, g ∈ kd7 → g ∈ ke8) g q), fun g q => k2 g ((by decide : ∀ g, g ∈ kx7 → g ∈ kx8) g q)⟩
theorem n1_16 {κ : zS} {a : Nat} {σ : rS} (h : RC8 κ a σ) (ex : σ.1 69 ≠ 0) : (σ.1 70).toNatClampNeg ≤ 1000 := by
  obtain ⟨⟨_, _, _, _, n, m, x, ⟨e1, _, _⟩, ⟨b1, _, _⟩, _⟩, _⟩ := h.2.2.1 ex
  rw [e1, cl_5 (by omega)]
  exact b1
theorem rv_16 {κ κ' : zS} {a : Nat} {σ σ' : rS} {v : Int32} (ht : RC8 κ a σ) (hP : pOK σ) (k : pV16 σ σ' v) (c : pA8 κ κ' a ∧ CV16 κ κ' a σ) : RC8 κ' a σ' := by
  obtain ⟨⟨k1, ke, kx, kl⟩, XV, ⟨f103, f114⟩, rr, nm⟩ := k
  obtain ⟨⟨c1, c2⟩, ⟨cw, cs, cd⟩, cy, cn⟩ := c
  obtain ⟨h1, h2, h3, h4⟩ := ht.2.2.2.2.2.2
  refine ⟨re_7 k1 ht.1 c1, ra_16 k1.2 ⟨ke, kx, kl⟩ ht.2 c1.2 c2 ⟨?_, RW_x16 h2 cw (k7_i16 ke kx) ⟨f114, rr⟩, RH_k16 h3 cs f103 (nM_515 nm), RD_k16 h4 cd (ke 106 (by decide)) (ke 109 (by decide)) (nM_716 nm)⟩⟩
  have e69 : σ'.1 69 = σ.1 69 := ke 69 (by decide)
  have e70 : σ'.1 70 = σ.1 70 := ke 70 (by decide)
  rcases XV with ⟨z, _, z94⟩ | ⟨ex, _, X, x94, o95⟩
  · have s0 : σ.1 94 = 0 := Decidable.byContradiction (fun y => (h1.2 y).1.1 z)
    have n15 : ¬ sc15 σ := fun y => y z
    refine ⟨by rw [(cn n15).1, z94]; exact h1.1, fun y => absurd (z94.trans s0) y⟩
  · have hv : v = sw15 σ := sx_15 hP rfl X
    obtain ⟨zx, zs, zt⟩ := cy ex
    rw [hv] at X x94 o95
    have er := pR_k16 (s := (σ.1 70).toNatClampNeg) (kx_i16 kx)
    have ec : cnE σ' = cnE σ := cnE_o e70 (fun k q => kx_i16 kx k (by omega) (by omega) (by omega))
    refine ⟨⟨fun y => Decidable.byContradiction (fun y2 => zs.mp (x94.mpr y2) y), fun y => Decidable.byContradiction (fun y2 => x94.mp (zs.mpr y2) y)⟩, fun y => ⟨⟨by rw [e69]; exact ex, by rw [e70]; exact n1_16 ht ex⟩, ?_⟩⟩
    have s0 : sw15 σ = 0 := x94.mpr y
    rw [e70, ec, er]
    rcases zx with ⟨_, nb, V, v1, v2, v3⟩ | ⟨y3, _⟩ | ⟨y3, _⟩
    · rcases X with ⟨_, _, U, u1, u2, u3⟩ | ⟨y3, _⟩ | ⟨y3, _⟩
      · have G := gP_15 hP rfl
        refine ⟨V, fun j hj => ⟨⟨zt s0 j hj, (v1 j hj).1⟩, ?_, o95 s0 j hj⟩, v2⟩
        have uj := u1 j hj
        by_cases cj : cnE σ j
        · rw [un_15 G.1 G.2.1 G.2.2 v2 u2 j hj cj cj]
          exact uj
        · rw [v2.1 j hj cj, ← u2.1 j hj cj]
          exact uj
      · rw [s0] at y3; exact absurd y3 (by decide)
      · rw [s0] at y3; exact absurd y3 (by decide)
    · rw [s0] at y3; exact absurd y3 (by decide)
    · rw [s0] at y3; exact absurd y3 (by decide)

end
section
set_option maxHeartbeats 1600000
/-! the class: show by what it answers -/
section
variable {C : zC} {n0 a : Nat} {L : Int} {ρ : Nat → Nat} {κ κ' : zS} {σ σ' : rS} {k c v : Int32}
theorem un_s16 {R : Nat → Prop} {ca b t : Nat} (ht : t = 15 ∨ t = 13 ∨ t = 5 ∨ t = 3 ∨ t = 6) : un9 (soF ρ R ca) b t := fun f hf z => by
  rcases z with ⟨_, z | z | z⟩ | ⟨_, z | z | z | z⟩ <;> rw [z] at hf <;> rcases ht with e | e | e | e | e <;> rw [e] at hf <;> exact absurd hf (by decide)
theorem sp_16 {R : Nat → Prop} {ca : Nat} (W : zW C n0 κ) (T : zT κ a = 15) (Z : zF (soF ρ R ca) κ κ') : pA8 κ κ' a := ⟨pC_v7 W T Z (un_s16 (by decide)) (un_s16 (by decide)) (un_s16 (by decide)), kA_z7 W T Z (un_s16 (t := 15) (by decide) _ (by decide)) (fun f hf _ => un_s16 (t := 3) (by decide) f hf) (un_s16 (by decide)) (un_s16 (by decide))⟩
theorem an_16 {m : Nat} (hr : RC8 κ a σ) (ex : σ.1 69 ≠ 0) (A : atW κ (zR κ chAtlas a) m) : m = (σ.1 70).toNatClampNeg := by
  obtain ⟨⟨nv, s, w, _, A8⟩, _⟩ := hr.2.2.1 ex
  obtain ⟨n, m, x, ⟨f1, _⟩, ⟨b1, _⟩, ⟨v1, _⟩, _⟩ := A8
  have v1' : zI κ hoTotal (zR κ atStates (zR κ chAtlas a)) = Int32.ofNat n := v1
  have y := A.2.2.2.1
  rw [v1', ofn_i (by omega)] at y
  rw [f1, cl_5 (by omega)]
  omega
theorem le_s16 (hr : RC8 κ a σ) (I : chI9 ρ κ a L) (ex : σ.1 69 ≠ 0) : lst16 κ (zR κ chAtlas a) σ := fun e i e0 e1 hi => by
  have x : zI κ atExplored (zR κ chAtlas a) ≠ 0 := fun z => ex (hr.2.1.mpr z)
  have ec : zR κ atCode (zR κ chAtlas a) = zR κ chCode a := (I.2.1.2.2 x).1.1
  obtain ⟨⟨nv, s, w, cr, n, m, x', ⟨f1, f2, f3⟩, ⟨b1, b2, b3⟩, ⟨v1, v2, v3⟩, _, hE, _⟩, _⟩ := hr.2.2.1 ex
  obtain ⟨s1, s2, s3⟩ := sh_8 cr
  have v2' : zI κ hoTotal (zR κ atEndings (zR κ chAtlas a)) = Int32.ofNat m := v2
  rw [lti, f2, ofn_i (by omega)] at e1
  have kn := cnk e0
  obtain ⟨K, g1, g2, g3⟩ := hE e.toNatClampNeg (by omega)
  rw [ec, s1] at hi
  have hk : hk9 κ (zR κ atEndings (zR κ chAtlas a)) K ((w + 1 : Nat) : Int) e.toNatClampNeg := by
    unfold hk9
    rw [v2', ofn_i (by omega)]
    exact g3
  obtain ⟨g4, g5, g6⟩ := hk
  have ki := cnk (x := i) (by omega)
  unfold pV9
  rw [if_pos ⟨⟨e0, by rw [v2', ofn_i (by omega)]; omega⟩, by omega, by rw [g5]; omega⟩]
  have y := g6 i.toNatClampNeg (by omega)
  have iw : i.toNatClampNeg = w := by omega
  rw [iw] at y ⊢
  refine y.trans (g2.trans ?_)
  have t35 : (35 : Int32).toInt = 35 := rfl
  have e2 : ((35 : Int32) * e).toInt = 35 * e.toInt := by rw [mul_i (by rw [t35]; omega) (by rw [t35]; omega), t35]
  have e3 : 35 * e.toNatClampNeg = ((35 : Int32) * e).toNatClampNeg := by
    rw [nc_5 (x := (35 : Int32) * e), e2]
    omega
  rw [e3]
theorem lz_16 {b n : Nat} (ls : lst16 κ b σ) (uz : UZ16 σ) (hn : n = (σ.1 70).toNatClampNeg) : (n = 0 → σ.2.2.1 75 0 = 0) ∧ lz16 κ b n := by
  have h70 : n = 0 → σ.1 70 ≤ 0 := fun n0 => by
    rw [lei, t0i]
    rw [hn, nc_5] at n0
    omega
  refine ⟨fun n0 => (uz.2 (h70 n0)).1, fun n0 i hi => ?_⟩
  obtain ⟨z75, z71⟩ := uz.2 (h70 n0)
  have y := ls 0 i (by decide) (by rw [z71]; decide) hi
  rw [show ((35 : Int32) * 0).toNatClampNeg = 0 from by decide] at y
  exact y.trans z75
theorem vs_16 (hr : RC8 κ a σ) (hP : pOK σ) (I : chI9 ρ κ a L) : ∃ V : Nat → Rat, zI κ soSolved (zR κ chSolver a) ≠ 0 → VS16 κ (zR κ chSolver a) (zR κ chAtlas a) (σ.1 70).toNatClampNeg σ V ∧ lst16 κ (zR κ chAtlas a) σ ∧ lz16 κ (zR κ chAtlas a) (σ.1 70).toNatClampNeg ∧ ((σ.1 70).toNatClampNeg = 0 → σ.2.2.1 75 0 = 0) := by
  have h1 := hr.2.2.2.2.2.2.1
  by_cases z : σ.1 94 = 0
  · exact ⟨fun _ => 0, fun y => absurd (h1.1.mpr z) y⟩
  · obtain ⟨⟨ex, _⟩, V, hv, hE⟩ := h1.2 z
    obtain ⟨⟨n9, A⟩, _⟩ := ch_x9 I (fun y => ex (hr.2.1.mpr y))
    have en := an_16 hr ex A
    subst en
    have ls := le_s16 hr I ex
    have lz := lz_16 (n := (σ.1 70).toNatClampNeg) ls (hr.2.2.1 ex).2.2.2.2.2.2 rfl
    exact ⟨V, fun _ => ⟨⟨tb_15 hr ex hP A, I.2.2.1.2.2.1.1, fun k hk => ⟨(hv k hk).1.2, (hv k hk).2.1.2.2⟩, fun k hk => (hv k hk).2.1, fun k hk => (hv k hk).2.2, hE⟩, ls, lz.2, lz.1⟩⟩
theorem gg_16 (hr : RC8 κ a σ) (ex : σ.1 69 ≠ 0) (lk : zR κ soAtlas (zR κ chSolver a) = zR κ chAtlas a) : ∀ k, k < (σ.1 70).toNatClampNeg → gg16 κ (zR κ chSolver a) k = σ.2.2.1 82 k := fun k hk => by
  obtain ⟨⟨nv, s, w, _, n, m, x, ⟨e1, _, _⟩, ⟨b1, _, _⟩, _, _, _, _, hb, _⟩, _⟩ := hr.2.2.1 ex
  rw [e1, cl_5 (by omega)] at hk
  show zA κ (zR κ atGains (zR κ soAtlas (zR κ chSolver a))) k = _
  rw [lk]
  exact (hb k hk).2.2.1
/-- show, of the class: what it leaves -/
def HS16 (κ κ' : zS) (a : Nat) (σ : rS) (k c : Int32) : Prop := (kV16 κ κ' a ∧ kW16 κ κ' a ∧ kD16 κ κ' a) ∧ (cc16 σ k c = 0 → fr16 κ' (zR κ' chShown a) (shR16 σ k c)) ∧ (cc16 σ k c ≠ 0 → kS16 κ κ' a)
theorem hs_r16 (h : cc16 σ k c ≠ 0) : HS16 κ κ a σ k c := ⟨⟨kA_r16.1, kA_r16.2.1, kA_r16.2.2.2⟩, fun z => absurd z h, fun _ => kA_r16.2.2.1⟩
/-- the draws of the last play, of both sides -/
theorem dc_16 (hr : RC8 κ a σ) (I : chI9 ρ κ a L) (z : zI κ chPlayMade a ≠ 0) : dO16 κ a ∧ pd16 (dW16 κ a) (dT16 κ a) (dC16 κ a).toNat = fQ σ 17 18 := by
  obtain ⟨r1, r2⟩ := hr.2.2.2.2.2.1
  have n106 : σ.1 106 ≠ -1 := fun y => z (r1.mpr y)
  obtain ⟨⟨_, _, _, e3, _⟩, _⟩ := r2 n106
  obtain ⟨_, ⟨p1, p2, _, p4⟩, l⟩ := hr.2.2.2.2.2.2.2.2.2 n106
  have ed : dC16 κ a = (σ.1 109).toInt := by
    show (zJ κ (zR κ chRecord a) 3).toInt = _
    rw [e3, Int32.toInt_toInt64]
  refine ⟨⟨⟨by rw [ed]; exact p1, by rw [ed]; exact l, I.2.2.2.2.2.1.2.2.1⟩, fun n hn => p2 n (by rw [← ed]; exact hn)⟩, ?_⟩
  rw [ed]
  exact p4
theorem rh_16 (ht : RC8 κ a σ) (kk : pH16 k c σ σ' v) (cc : pA8 κ κ' a ∧ HS16 κ κ' a σ k c) : RC8 κ' a σ' := by
  obtain ⟨⟨k1, ke, kx, kl⟩, ⟨f94, f114⟩, fh, n17, X⟩ := kk
  obtain ⟨⟨c1, c2⟩, ⟨cv, cw, cd⟩, c0, cn⟩ := cc
  obtain ⟨h1, h2, h3, h4⟩ := ht.2.2.2.2.2.2
  refine ⟨re_7 k1 ht.1 c1, ra_16 k1.2 ⟨ke, kx, kl⟩ ht.2 c1.2 c2 ⟨RS_k16 h1 cv (fun g q => ?_) (kx_i16 kx) (fun g q => fh g (by rcases q with q | q <;> rw [q] <;> decide)), RW_x16 h2 cw (k7_i16 ke kx) ⟨f114, fun g q => fh g (by rcases q with q | q <;> rw [q] <;> decide)⟩, ?_, RD_k16 h4 cd (ke 106 (by decide)) (ke 109 (by decide)) n17⟩⟩
  · rcases q with q | q | q <;> rw [q]
    · exact ke 69 (by decide)
    · exact ke 70 (by decide)
    · exact f94
  · by_cases z : cc16 σ k c = 0
    · obtain ⟨_, x2, x3⟩ := X.2.1 z
      exact ⟨_, c0 z, fun y => absurd y x3, fun _ => x2⟩
    · have y := X.2.2 z
      exact RH_k16 h3 (cn z) y.1 y.2
end
theorem Ch_show_c8 {C : zC} {n0 : Nat} {a0 : Nat} {a1 : Int32} {a2 : Int32} {κ : zS} {Q : Int32 → zS → Prop} {X : zXp} (W : zW C n0 κ) (Ta0 : zT κ a0 = 15) (ρ : Nat → Nat) (L9 : Int) (σ9 : rS) (hr8 : RC8 κ a0 σ9) (hP : pOK σ9) (hp : chI9 ρ κ a0 L9) (h : ∀ (v : Int32) (κ' : zS), ((chI9 ρ κ' a0 L9 ∧ (∃ F, zF F κ κ') ∧ pA8 κ κ' a0 ∧ HS16 κ κ' a0 σ9 a1 a2) ∧ cc16 σ9 a1 a2 = 0 ∧ v.toInt = (shR16 σ9 a1 a2).num.sign) → Q v κ') (hx : ∀ (cls : String) (κ' : zS), (((cls = "java/lang/IllegalArgumentException" ∧ cc16 σ9 a1 a2 = 1) ∨ (cls = "java/lang/IllegalStateException" ∧ cc16 σ9 a1 a2 = 2) ∨ (cls = "java/lang/IndexOutOfBoundsException" ∧ cc16 σ9 a1 a2 = 3)) ∧ κ' = ut κ) → X cls κ') : zRun C 8 mCh_show [.ref a0, .int a1, .int a2] κ (oI Q X) := by
  obtain ⟨h1, h2, h3, h4⟩ := hr8.2.2.2.2.2.2
  obtain ⟨V, hV⟩ := vs_16 hr8 hP hp
  obtain ⟨n8, P9, ho⟩ := ch_o9 hp
  have hm : zI κ chPlayMade a0 ≠ 0 ↔ σ9.1 106 ≠ -1 := not_congr hr8.2.2.2.2.2.1.1
  have hpl : zI κ soPlanned (zR κ chSolver a0) ≠ 0 ↔ σ9.1 114 ≠ 0 := not_congr h2.1
  have hs : zI κ soSolved (zR κ chSolver a0) ≠ 0 ↔ σ9.1 94 ≠ 0 := not_congr h1.1
  have lk := hp.2.2.1.2.2.1.1
  have ht : sB16 κ a0 σ9 V (σ9.1 70).toNatClampNeg a1 → ¬ a1 = 12 → zI κ hoTotal (zR κ atStates (zR κ chAtlas a0)) = σ9.1 70 ∧ zI κ hoTotal (zR κ atEndings (zR κ chAtlas a0)) = σ9.1 71 := fun B n12 => by
    rcases B with ⟨z, _⟩ | ⟨_, p⟩ | ⟨_, _, s, _⟩
    · exact absurd z n12
    · exact ax_8 hr8 (h2.2 (hpl.mp p)).1.1
    · exact ax_8 hr8 (h1.2 (hs.mp s)).1.1
  have CC := cc_q16 (kind := a1) (v := a2) hm hpl hs (fun z => ⟨(hV z).1, (hV z).2.2.2⟩) ht
  have ho' : zI κ soSolved (zR κ chSolver a0) ≠ 0 → odX9 ρ κ (zR κ chOdds a0) (σ9.1 70).toNatClampNeg P9 ∧ (0 < P9 ∧ P9 < pB9 1490) ∧ atW κ (zR κ chAtlas a0) (σ9.1 70).toNatClampNeg ∧ vsI9 ρ κ (zR κ chSolver a0) (σ9.1 70).toNatClampNeg P9 ∧ (σ9.1 70).toNatClampNeg ≤ (zN κ (zR κ soVisits (zR κ chSolver a0))) := fun z => by
    have y := ho z
    rw [an_16 hr8 (h1.2 (hs.mp z)).1.1 y.2.2.1] at y
    exact y
  refine Ch_show_q16 W Ta0 ρ L9 (σ9.1 70).toNatClampNeg P9 σ9 V (wr16 σ9) (fun z => ⟨(hV z).1.1, (hV z).2.1, (hV z).1.2.2.1, (hV z).2.2.1⟩) (fun z k hk => ?_) (fun z => (dc_16 hr8 hp z).1) ⟨hp, ho'⟩ (fun v κ' q => ?_) (fun cls κ' q => ?_)
  · obtain ⟨⟨ex, _⟩, w⟩ := h2.2 (hpl.mp z)
    rw [(ax_8 hr8 ex).1] at hk
    refine (w k ?_).1.2
    rw [nc_5]
    omega
  · obtain ⟨⟨I', Fr, _⟩, ⟨q1, q2⟩, qA, qB, qD, ca, Z⟩ := q
    have e0 := CC.2.2.2 ⟨qA, qB, qD⟩
    have eq : sq16 κ a0 σ9 V (wr16 σ9) (σ9.1 70).toNatClampNeg a1 a2 = shR16 σ9 a1 a2 := sq_e16 qA qB qD (fun z => ⟨(hV z).1, (hV z).2.2.2, gg_16 hr8 (h1.2 (hs.mp z)).1.1 lk, (ho' z).2.2.1.2.2.2.1⟩) (fun _ _ _ => rfl) (fun z => (dc_16 hr8 hp z).2)
    rw [eq] at q1 q2
    have t11 := (I'.2.2.1.1.1.1.2 (zR κ' chShown a0) (by rw [I'.2.2.1.2.2.2]; unfold raR; omega)).1
    have rh : zR κ' chShown a0 = zR κ chShown a0 := (soF_r9 Z (f := chShown) (by decide)).1
    refine h _ _ ⟨⟨I', Fr, sp_16 W Ta0 Z, sh_k16 W Ta0 hp.2.2.1.1 Z, fun _ => ⟨t11, ?_⟩, fun z => absurd e0 z⟩, e0, q1⟩
    rw [rh]
    exact q2
  · refine hx _ _ ⟨?_, q.1.2⟩
    rcases q.2 with ⟨e, z⟩ | ⟨e, z, y⟩ | ⟨e, z, y, x⟩
    · exact Or.inl ⟨e, CC.1 z⟩
    · exact Or.inr (Or.inl ⟨e, CC.2.1 ⟨z, y⟩⟩)
    · exact Or.inr (Or.inr ⟨e, CC.2.2.1 ⟨z, y, x⟩⟩)

end
section
set_option maxHeartbeats 1600000
/-! the class: size by what it answers -/
theorem ab_17 {q : Rat} : (ab16 q).num = (q.num.natAbs : Int) ∧ (ab16 q).den = q.den := by
  unfold ab16
  by_cases c : 0 ≤ q
  · rw [if_pos c]
    exact ⟨(Int.natAbs_of_nonneg (Rat.num_nonneg.mpr c)).symm, rfl⟩
  · rw [if_neg c, Rat.neg_num, Rat.neg_den]
    have z : ¬ 0 ≤ q.num := fun z => c (Rat.num_nonneg.mp z)
    exact ⟨by omega, rfl⟩
theorem hR_17 {σ : rS} {q : Rat} (h : hR σ 15 16 (ab16 q)) : nV σ 15 = q.num.natAbs ∧ nV σ 16 = q.den := by
  obtain ⟨_, _, e1, e2⟩ := h
  rw [ab_17.1] at e1
  rw [ab_17.2] at e2
  exact ⟨by omega, e2⟩
theorem sz_17 {κ : zS} {a x : Nat} {σ : rS} {p r : Int32} (H : RH16 κ a σ) (r0 : 0 ≤ r.toInt) (hx : (p = 0 ∧ x = zR κ raTop (zR κ chShown a)) ∨ (p = 1 ∧ x = zR κ raBottom (zR κ chShown a))) (w : wd17 (nuN κ x) r.toNatClampNeg) : r.toNatClampNeg = nw17 σ p := by
  obtain ⟨q, ⟨_, _, q2, q3⟩, h0, h1⟩ := H
  by_cases c : σ.1 103 = 0
  · have e := h0 c
    unfold nw17
    rw [if_pos c]
    rcases hx with ⟨hp0, ex⟩ | ⟨hp1, ex⟩
    · rw [ex, q2, e] at w
      have w : wd17 0 r.toNatClampNeg := w
      rw [hp0]
      exact wd_u17 w (w' := 0) ⟨by decide, fun z => absurd z (by decide)⟩
    · rw [ex, q3, e] at w
      have w : wd17 1 r.toNatClampNeg := w
      rw [hp1]
      exact wd_u17 w (w' := 1) ⟨by decide, fun _ => by decide⟩
  · have h := h1 c
    have sg := hR_17 h
    unfold nw17
    rw [if_neg c]
    rcases hx with ⟨hp0, ex⟩ | ⟨hp1, ex⟩
    · rw [ex, q2, ← sg.1] at w
      rw [hp0]
      exact wd_u17 w (wd_n17 h.1)
    · rw [ex, q3, ← sg.2] at w
      rw [hp1]
      exact wd_u17 w (wd_n17 h.2.1)
theorem p01_17 {p : Int32} (b0 : 0 ≤ p) (b1 : p ≤ 1) (n : ¬ p = 0) : p = 1 := by
  rw [lei, t0i] at b0
  rw [lei, t1i] at b1
  refine Int32.toInt_inj.mp ?_
  have z : ¬ p.toInt = 0 := fun z => n (Int32.toInt_inj.mp (z.trans t0i.symm))
  rw [t1i]
  omega
theorem Ch_size_c8 {C : zC} {n0 : Nat} {a0 : Nat} {a1 : Int32} {κ : zS} {Q : Int32 → zS → Prop} {X : zXp} (W : zW C n0 κ) (Ta0 : zT κ a0 = 15) (ρ : Nat → Nat) (L9 : Int) (σ9 : rS) (hr8 : RC8 κ a0 σ9) (hp : chI9 ρ κ a0 L9) (h : ∀ (v : Int32) (κ' : zS), (κ = κ' ∧ zc17 σ9 a1 ∧ v = zv17 σ9 a1) → Q v κ') (hx : ∀ (cls : String) (κ' : zS), (cls = "java/lang/IndexOutOfBoundsException" ∧ κ' = ut κ ∧ ¬ zc17 σ9 a1) → X cls κ') : zRun C 8 mCh_size [.ref a0, .int a1] κ (oI Q X) := by
  refine Ch_size_run W Ta0 ?_
  replace W := W.lo (Nat.le_trans W.1.2.1 W.1.2.2) (Nat.le_refl (zn κ))
  unfold w_Ch_size_0
  have H := hr8.2.2.2.2.2.2.2.2.1
  refine ⟨fun c1 => ?_, fun c1 => ?_⟩
  · intro κ_2 hκ_2
    exact hx _ _ ⟨rfl, hκ_2, fun z => absurd c1 (Int32.not_lt.mpr z.1)⟩
  · have b0 : 0 ≤ a1 := Int32.not_lt.mp c1
    refine ⟨fun c3 => ?_, fun c3 => ?_⟩
    · have b1 : a1 ≤ 1 := c3
      refine ⟨fun c4 => ?_, fun c4 => ?_⟩
      · intro T5
        refine Nu_words_q6 W T5 6500 ⟨(ch_n9 hp).2.1, by decide⟩ (fun r6 q8 => ?_)
        intro W9
        intro M10
        exact h _ _ ⟨rfl, ⟨b0, b1⟩, zv_17 (by rw [← sz_17 H q8.1 (Or.inr ⟨p01_17 b0 b1 c4, rfl⟩) q8.2]; exact (cnk q8.1).symm)⟩
      · intro T11
        refine Nu_words_q6 W T11 6500 ⟨(ch_n9 hp).1, by decide⟩ (fun r12 q14 => ?_)
        intro W15
        intro M16
        exact h _ _ ⟨rfl, ⟨b0, b1⟩, zv_17 (by rw [← sz_17 H q14.1 (Or.inl ⟨by first | exact c4 | exact Classical.not_not.mp c4, rfl⟩) q14.2]; exact (cnk q14.1).symm)⟩
    · intro κ_17 hκ_17
      exact hx _ _ ⟨rfl, hκ_17, fun z => c3 z.2⟩

end
section
set_option maxHeartbeats 1600000
/-! the class: limb by what it answers -/
theorem lw_18 {κ : zS} {a x : Nat} {σ : rS} {p i : Int32} (H : RH16 κ a σ) (hx : (p = 0 ∧ x = zR κ raTop (zR κ chShown a)) ∨ (p = 1 ∧ x = zR κ raBottom (zR κ chShown a))) (hi : i.toNatClampNeg < nw17 σ p) : lw18 (nuN κ x) i.toNatClampNeg = lv18 σ p i := by
  obtain ⟨q, ⟨_, _, q2, q3⟩, h0, h1⟩ := H
  unfold lv18
  by_cases c : σ.1 103 = 0
  · have e := h0 c
    unfold nw17 at hi
    rw [if_pos c] at hi ⊢
    rcases hx with ⟨hp0, ex⟩ | ⟨hp1, ex⟩
    · rw [hp0] at hi
      exact absurd hi (Nat.not_lt_zero _)
    · rw [hp1] at hi
      have z : i.toNatClampNeg = 0 := Nat.lt_one_iff.mp hi
      rw [z, ex, q3, e]
      decide +kernel
  · have sg := hR_17 (h1 c)
    rw [if_neg c]
    rcases hx with ⟨hp0, ex⟩ | ⟨hp1, ex⟩
    · rw [ex, q2, ← sg.1, hp0]
      rfl
    · rw [ex, q3, ← sg.2, hp1]
      rfl
theorem Ch_limb_c8 {C : zC} {n0 : Nat} {a0 : Nat} {a1 : Int32} {a2 : Int32} {κ : zS} {Q : Int32 → zS → Prop} {X : zXp} (W : zW C n0 κ) (Ta0 : zT κ a0 = 15) (ρ : Nat → Nat) (L9 : Int) (σ9 : rS) (hr8 : RC8 κ a0 σ9) (hp : chI9 ρ κ a0 L9) (h : ∀ (v : Int32) (κ' : zS), (κ = κ' ∧ lc18 σ9 a1 a2 ∧ v = lv18 σ9 a1 a2) → Q v κ') (hx : ∀ (cls : String) (κ' : zS), (cls = "java/lang/IndexOutOfBoundsException" ∧ κ' = ut κ ∧ ¬ lc18 σ9 a1 a2) → X cls κ') : zRun C 8 mCh_limb [.ref a0, .int a1, .int a2] κ (oI Q X) := by
  refine Ch_limb_run W Ta0 ?_
  replace W := W.lo (Nat.le_trans W.1.2.1 W.1.2.2) (Nat.le_refl (zn κ))
  unfold w_Ch_limb_0
  have H := hr8.2.2.2.2.2.2.2.2.1
  have hj41 : ∀ (x : Nat), zT κ x = 8 → nuI κ x 6500 → (0 ≤ a1 ∧ a1 ≤ 1) → ((a1 = 0 ∧ x = zR κ raTop (zR κ chShown a0)) ∨ (a1 = 1 ∧ x = zR κ raBottom (zR κ chShown a0))) → w_Ch_limb_41 C (zn κ) Q X a0 a2 x κ := by
    intro x T41 J hb hx9
    unfold w_Ch_limb_41
    refine ⟨fun c1 => ?_, fun c1 => ?_⟩
    · intro κ_2 hκ_2
      exact hx _ _ ⟨rfl, hκ_2, fun z => absurd c1 (Int32.not_lt.mpr z.2.1)⟩
    · intro T3
      refine Nu_words_q6 W T3 6500 ⟨J, by decide⟩ (fun r4 q6 => ?_)
      intro W7
      intro M8
      have e4 := sz_17 H q6.1 hx9 q6.2
      have k4 := cnk q6.1
      have z2 : 0 ≤ a2 := Int32.not_lt.mp c1
      have z3 := z2
      rw [lei, t0i] at z3
      have k2 := cnk z3
      refine ⟨fun c9 => ?_, fun c9 => ?_⟩
      · have lt : a2.toInt < r4.toInt := by
          first
            | (rw [lti] at c9; exact c9)
            | (rw [lei] at c9; omega)
        intro T10
        have le : r4.toInt ≤ 1000000 := by
          have w := q6.2
          refine Decidable.byContradiction (fun c => ?_)
          have b := w.2 (by omega)
          have kk := nuK_i J.1
          have lt2 : nuN κ x < 2147483648 ^ nuK κ x := uV_lt
          rw [p31_2] at lt2
          have b1 := J.1.1.2
          have b2 : zN κ (zR κ nuLimbs x) ≤ 6500 := J.1.2.1.2
          have m := Nat.pow_le_pow_right (show 0 < 2 by decide) (show 31 * nuK κ x ≤ 32 * (r4.toNatClampNeg - 1) by omega)
          omega
        refine Nu_word_q18 W T10 6500 ⟨J, by omega, by omega⟩ (fun r11 q13 => ?_)
        intro W14
        intro M15
        refine h _ _ ⟨rfl, ⟨hb, z2, by omega⟩, ?_⟩
        rw [q13]
        exact lw_18 H hx9 (by omega)
      · intro κ_16 hκ_16
        refine hx _ _ ⟨rfl, hκ_16, fun z => c9 ?_⟩
        have y := z.2.2
        first
          | (rw [lti]; omega)
          | (rw [lei]; omega)
  refine ⟨fun c17 => ?_, fun c17 => ?_⟩
  · intro κ_18 hκ_18
    exact hx _ _ ⟨rfl, hκ_18, fun z => absurd c17 (Int32.not_lt.mpr z.1.1)⟩
  · have b0 : 0 ≤ a1 := Int32.not_lt.mp c17
    refine ⟨fun c19 => ?_, fun c19 => ?_⟩
    · have b1 : a1 ≤ 1 := c19
      refine ⟨fun c20 => ?_, fun c20 => ?_⟩
      · exact hj41 _ (ty_raBottom W (ty_chShown W Ta0)) (ch_n9 hp).2.1 ⟨b0, b1⟩ (Or.inr ⟨p01_17 b0 b1 c20, rfl⟩)
      · exact hj41 _ (ty_raTop W (ty_chShown W Ta0)) (ch_n9 hp).1 ⟨b0, b1⟩ (Or.inl ⟨by first | exact c20 | exact Classical.not_not.mp c20, rfl⟩)
    · intro κ_21 hκ_21
      exact hx _ _ ⟨rfl, hκ_21, fun z => c19 z.1.2⟩

end
section
set_option maxHeartbeats 1600000
/-! the class: independent, given by what they answer -/
section
variable {C : zC} {n0 a : Nat} {L : Int} {ρ : Nat → Nat} {κ : zS} {σ : rS}
theorem le_s24 (hr : RC8 κ a σ) (ex : σ.1 69 ≠ 0) : (zI κ hoTotal (zR κ atEndings (zR κ chAtlas a)) = σ.1 71 ∧ (σ.1 71).toNatClampNeg ≤ 1000) ∧ (∀ x, gl24 σ x ↔ 0 ≤ x.toInt ∧ x.toInt < (zI κ coVars (zR κ chCode a)).toInt + (zI κ coCells (zR κ chCode a)).toInt) ∧ ∀ e x : Int32, 0 ≤ e.toInt → e.toInt < (σ.1 71).toInt → gl24 σ x → pV9 κ (zR κ atEndings (zR κ chAtlas a)) e x = to24 σ e.toNatClampNeg x := by
  obtain ⟨⟨nv, s, w, cr, n, m, x', ⟨f1, f2, f3⟩, ⟨b1, b2, b3⟩, ⟨v1, v2, v3⟩, _, hE, _⟩, _⟩ := hr.2.2.1 ex
  obtain ⟨s1, s2, s3⟩ := sh_8 cr
  have v2' : zI κ hoTotal (zR κ atEndings (zR κ chAtlas a)) = Int32.ofNat m := v2
  refine ⟨⟨v2'.trans f2.symm, by rw [f2, cl_5 (by omega)]; exact b2⟩, fun x => ?_, fun e x e0 e1 gx => ?_⟩
  · unfold gl24
    rw [lei, lti, t0i, s2, s1]
  · rw [f2, ofn_i (by omega)] at e1
    have kn := cnk e0
    obtain ⟨K, g1, g2, g3⟩ := hE e.toNatClampNeg (by omega)
    have gx' : 0 ≤ x.toInt ∧ x.toInt < w := by
      unfold gl24 at gx
      rw [lei, lti, t0i, s2] at gx
      exact gx
    have hk : hk9 κ (zR κ atEndings (zR κ chAtlas a)) K ((w + 1 : Nat) : Int) e.toNatClampNeg := by
      unfold hk9
      rw [v2', ofn_i (by omega)]
      exact g3
    obtain ⟨g4, g5, g6⟩ := hk
    have ki := cnk gx'.1
    unfold pV9
    rw [if_pos ⟨⟨e0, by rw [v2', ofn_i (by omega)]; omega⟩, gx'.1, by rw [g5]; omega⟩]
    have y := g6 x.toNatClampNeg (by omega)
    exact y.trans (g1 _ (by omega))
theorem hc_24 (hr : RC8 κ a σ) (hP : pOK σ) (jv : jVs σ) (I : chI9 ρ κ a L) : ∃ V : Nat → Rat, zI κ soSolved (zR κ chSolver a) ≠ 0 → HC24 κ (zR κ chOdds a) (σ.1 70).toNatClampNeg σ V := by
  obtain ⟨V, hV⟩ := vs_16 hr hP I
  refine ⟨V, fun z => ?_⟩
  have h94 : σ.1 94 ≠ 0 := fun y => z (hr.2.2.2.2.2.2.1.1.mpr y)
  have ex := (hr.2.2.2.2.2.2.1.2 h94).1.1
  have D := I.2.2.2.2.1.1
  have LS := le_s24 hr ex
  refine ⟨⟨rfl, LS.1.2⟩, ?_, jv h94, ?_, ?_, fun y => ((hr.2.2.1 ex).2.2.2.2.2.2.2 y).2⟩
  · rw [D.1, D.2.1]
    exact (hV z).1
  · rw [D.1]
    exact LS.1.1
  · rw [D.1]
    exact LS.2.2
end

end
section
set_option maxHeartbeats 1600000
theorem Ch_independent_c8 {C : zC} {n0 : Nat} {a0 : Nat} {a1 : Int32} {a2 : Int32} {κ : zS} {Q : Int32 → zS → Prop} {X : zXp} (W : zW C n0 κ) (Ta0 : zT κ a0 = 15) (ρ : Nat → Nat) (L9 : Int) (σ9 : rS) (hr8 : RC8 κ a0 σ9) (pb : pOK σ9 ∧ jVs σ9) (hp : chI9 ρ κ a0 L9) (h : ∀ (v : Int32) (κ' : zS), ((∃ ρ', chI9 ρ' κ' a0 L9 ∧ (∃ F, zF F κ κ') ∧ pC8 κ κ' a0) ∧ ic24 σ9 a1 a2 = 0 ∧ v = iw24 σ9 a1 a2) → Q v κ') (hx : ∀ (cls : String) (κ' : zS), (((cls = "java/lang/IllegalStateException" ∧ ic24 σ9 a1 a2 = 1) ∨ (cls = "java/lang/IndexOutOfBoundsException" ∧ ic24 σ9 a1 a2 = 2)) ∧ κ' = ut κ) → X cls κ') : zRun C 9 mCh_independent [.ref a0, .int a1, .int a2] κ (oI Q X) := by
  refine Ch_independent_run W Ta0 ?_
  replace W := W.lo (Nat.le_trans W.1.2.1 W.1.2.2) (Nat.le_refl (zn κ))
  unfold w_Ch_independent_0
  obtain ⟨n9, P9, hX⟩ := ch_o9 hp
  obtain ⟨V9, hV⟩ := hc_24 hr8 pb.1 pb.2 hp
  have h94 : zI κ soSolved (zR κ chSolver a0) = 0 ↔ σ9.1 94 = 0 := hr8.2.2.2.2.2.2.1.1
  refine ⟨fun c1 => ?_, fun c1 => ?_⟩
  · have s94 : σ9.1 94 ≠ 0 := fun y => c1 (h94.mpr y)
    have ex := (hr8.2.2.2.2.2.2.1.2 s94).1.1
    have LS := (le_s24 hr8 ex).2.1
    have H := hV c1
    have en9 := an_16 hr8 ex (hX c1).2.2.1
    subst en9
    intro T1
    refine Co_isShared_c8 W T1 hp.1.2.1.1.1 (fun r1 s1 => ?_)
    replace s1 := s1.2.trans (LS a1).symm
    intro W1
    intro M1
    refine ⟨fun d1 => ?_, fun d1 => ?_⟩
    · intro κ_1 hκ_1
      refine hx _ _ ⟨Or.inr ⟨rfl, ic_224 s94 (fun z => (by first | exact absurd (s1.mpr z.1) d1 | exact d1 (s1.mpr z.1) | exact absurd d1 (s1.mpr z.1)))⟩, hκ_1⟩
    · skip
      intro T2
      refine Co_isShared_c8 W T2 hp.1.2.1.1.1 (fun r2 s2 => ?_)
      replace s2 := s2.2.trans (LS a2).symm
      intro W2
      intro M2
      refine ⟨fun d2 => ?_, fun d2 => ?_⟩
      · skip
        have g1 : gl24 σ9 a1 := s1.mp (by first | exact d1 | exact fun z => d1 z)
        have g2 : gl24 σ9 a2 := s2.mp (by first | exact d2 | exact fun z => d2 z)
        have ic := ic_024 (σ := σ9) (a1 := a1) (a2 := a2) ⟨s94, g1, g2⟩
        have AR := ar_p9 hp c1 (hX c1).1
        intro TO
        refine Od_arrange_q6 W2 TO ρ _ P9 AR (fun r18 κ_19 q20 => ?_)
        obtain ⟨q20, q21⟩ := q20
        have FN := fin_24 W2 TO (hX c1).1 AR.2.2.2 q20.2.1 H q21.1 (fun f => q21.2.2 (q21.2.1.mpr f)) g1 g2 (Or.inl rfl)
        rw [fq_n24] at FN
        intro W21
        intro M22
        refine ⟨fun c23 => ?_, fun c23 => ?_⟩
        · refine h _ _ ⟨⟨ρ, (chI_a9 W Ta0 q20.2.1 q20.2.2.1 q20.2.2.2.1 q20.2.2.2.2.1 hp).1⟩, ic, ?_⟩
          have c0 : r18 = 0 := by first | exact c23 | exact Classical.not_not.mp c23
          exact nb_e24 (Or.inl rfl) ⟨fun z => absurd rfl z, fun F => absurd c0 (q21.2.1.mpr (FN.mpr F).1)⟩
        · have c0 : r18 ≠ 0 := by first | exact c23 | exact fun z => c23 z
          intro T24
          have R := chI_a9 W Ta0 q20.2.1 q20.2.2.1 q20.2.2.2.1 q20.2.2.2.2.1 hp
          have ro : zR κ_19 chOdds a0 = zR κ chOdds a0 := R.2.2.2 chOdds (by decide)
          have rs : zR κ_19 chSolver a0 = zR κ chSolver a0 := R.2.2.2 chSolver (by decide)
          have ra : zR κ_19 chAtlas a0 = zR κ chAtlas a0 := R.2.2.2 chAtlas (by decide)
          have I9 := R.1.1
          have T19 := q20.2.1.t Ta0 (by decide)
          obtain ⟨n8, P8, hX8⟩ := ch_o9 I9
          have sol9 : zI κ_19 soSolved (zR κ_19 chSolver a0) ≠ 0 := by rw [rs, R.2.2.1]; exact c1
          have Y := hX8 sol9
          have en : (σ9.1 70).toNatClampNeg = n8 := by
            have y1 := (hX c1).2.2.1.2.2.2.1
            have y2 := ((R.2.1 n8).mp (by rw [← ra]; exact Y.2.2.1)).2.2.2.1
            omega
          subst en
          have S9 : SM24 κ_19 κ_19 (zR κ_19 chOdds a0) (σ9.1 70).toNatClampNeg V9 := by
            rw [ro]
            exact sm_m24 W2 TO (hX c1).1 AR.2.2.2 q20.2.1 H q21.1 (q21.2.2 c0)
          refine Od_tablesAgree_q6 W21 T24 ρ _ P8 V9 S9 (ta_p9 W21 T19 I9 ⟨Y.1, Y.2.1⟩ (by rw [ro]; exact q20.2.2.2.2.2 c0) rfl) (fun r25 κ_26 q27 => ?_)
          obtain ⟨⟨_, ρ2, G⟩, q28⟩ := q27
          rw [ro] at q28
          have K := ch_g9 W21 T19 I9 Y.2.1 G sol9
          obtain ⟨F1, Z1⟩ := R.1.2.1
          obtain ⟨F2, Z2⟩ := K.2.1
          have PP : ∃ ρ', chI9 ρ' κ_26 a0 L9 ∧ (∃ F, zF F κ κ_26) ∧ pC8 κ κ_26 a0 := ⟨ρ2, K.1, ⟨fun _ _ => True, (Z1.mono (fun _ _ _ => trivial)).tr (Z2.mono (fun _ _ _ => trivial))⟩, pC_t8 R.1.2.2 K.2.2⟩
          have FV := q28.trans ⟨fun G => FN.mp ⟨q21.2.1.mp c0, G⟩, fun F => (FN.mpr F).2⟩
          have v0 : r25 = 0 → (0 : Int32) = iw24 σ9 a1 a2 := fun z => nb_e24 (Or.inl rfl) ⟨fun y => absurd rfl y, fun F => absurd z (FV.mpr F)⟩
          have v1 : r25 ≠ 0 → (1 : Int32) = iw24 σ9 a1 a2 := fun z => nb_e24 (Or.inr rfl) ⟨fun _ => FV.mp z, fun _ => by decide⟩
          intro W28
          intro M29
          refine ⟨fun c30 => ?_, fun c30 => ?_⟩
          · exact h _ _ ⟨PP, ic, by first | exact v0 c30 | exact v0 (Classical.not_not.mp c30) | exact v1 c30 | exact v1 (fun z => c30 z)⟩
          · exact h _ _ ⟨PP, ic, by first | exact v0 c30 | exact v0 (Classical.not_not.mp c30) | exact v1 c30 | exact v1 (fun z => c30 z)⟩
      · intro κ_2 hκ_2
        refine hx _ _ ⟨Or.inr ⟨rfl, ic_224 s94 (fun z => (by first | exact absurd (s2.mpr z.2) d2 | exact d2 (s2.mpr z.2) | exact absurd d2 (s2.mpr z.2)))⟩, hκ_2⟩
  · intro κ_32 hκ_32
    refine hx _ _ ⟨Or.inl ⟨rfl, ic_124 (h94.mp (by first | exact c1 | exact Classical.not_not.mp c1))⟩, hκ_32⟩

end
section
set_option maxHeartbeats 1600000
theorem Ch_given_c8 {C : zC} {n0 : Nat} {a0 : Nat} {a1 : Int32} {a2 : Int32} {a3 : Int32} {κ : zS} {Q : Int32 → zS → Prop} {X : zXp} (W : zW C n0 κ) (Ta0 : zT κ a0 = 15) (ρ : Nat → Nat) (L9 : Int) (σ9 : rS) (hr8 : RC8 κ a0 σ9) (pb : pOK σ9 ∧ jVs σ9) (hp : chI9 ρ κ a0 L9) (h : ∀ (v : Int32) (κ' : zS), ((∃ ρ', chI9 ρ' κ' a0 L9 ∧ (∃ F, zF F κ κ') ∧ pC8 κ κ' a0) ∧ gc24 σ9 a1 a2 a3 = 0 ∧ v = gw24 σ9 a1 a2 a3) → Q v κ') (hx : ∀ (cls : String) (κ' : zS), (((cls = "java/lang/IllegalStateException" ∧ gc24 σ9 a1 a2 a3 = 1) ∨ (cls = "java/lang/IndexOutOfBoundsException" ∧ gc24 σ9 a1 a2 a3 = 2)) ∧ κ' = ut κ) → X cls κ') : zRun C 9 mCh_given [.ref a0, .int a1, .int a2, .int a3] κ (oI Q X) := by
  refine Ch_given_run W Ta0 ?_
  replace W := W.lo (Nat.le_trans W.1.2.1 W.1.2.2) (Nat.le_refl (zn κ))
  unfold w_Ch_given_0
  obtain ⟨n9, P9, hX⟩ := ch_o9 hp
  obtain ⟨V9, hV⟩ := hc_24 hr8 pb.1 pb.2 hp
  have h94 : zI κ soSolved (zR κ chSolver a0) = 0 ↔ σ9.1 94 = 0 := hr8.2.2.2.2.2.2.1.1
  refine ⟨fun c1 => ?_, fun c1 => ?_⟩
  · have s94 : σ9.1 94 ≠ 0 := fun y => c1 (h94.mpr y)
    have ex := (hr8.2.2.2.2.2.2.1.2 s94).1.1
    have LS := (le_s24 hr8 ex).2.1
    have H := hV c1
    have en9 := an_16 hr8 ex (hX c1).2.2.1
    subst en9
    intro T1
    refine Co_isShared_c8 W T1 hp.1.2.1.1.1 (fun r1 s1 => ?_)
    replace s1 := s1.2.trans (LS a1).symm
    intro W1
    intro M1
    refine ⟨fun d1 => ?_, fun d1 => ?_⟩
    · intro κ_1 hκ_1
      refine hx _ _ ⟨Or.inr ⟨rfl, gc_224 s94 (fun z => (by first | exact absurd (s1.mpr z.1) d1 | exact d1 (s1.mpr z.1) | exact absurd d1 (s1.mpr z.1)))⟩, hκ_1⟩
    · skip
      intro T2
      refine Co_isShared_c8 W T2 hp.1.2.1.1.1 (fun r2 s2 => ?_)
      replace s2 := s2.2.trans (LS a2).symm
      intro W2
      intro M2
      refine ⟨fun d2 => ?_, fun d2 => ?_⟩
      · intro κ_2 hκ_2
        refine hx _ _ ⟨Or.inr ⟨rfl, gc_224 s94 (fun z => (by first | exact absurd (s2.mpr z.2.1) d2 | exact d2 (s2.mpr z.2.1) | exact absurd d2 (s2.mpr z.2.1)))⟩, hκ_2⟩
      · skip
        intro T3
        refine Co_isShared_c8 W T3 hp.1.2.1.1.1 (fun r3 s3 => ?_)
        replace s3 := s3.2.trans (LS a3).symm
        intro W3
        intro M3
        refine ⟨fun d3 => ?_, fun d3 => ?_⟩
        · skip
          have g1 : gl24 σ9 a1 := s1.mp (by first | exact d1 | exact fun z => d1 z)
          have g2 : gl24 σ9 a2 := s2.mp (by first | exact d2 | exact fun z => d2 z)
          have g3 : gl24 σ9 a3 := s3.mp (by first | exact d3 | exact fun z => d3 z)
          have ic := gc_024 (σ := σ9) (a1 := a1) (a2 := a2) (a3 := a3) ⟨s94, g1, g2, g3⟩
          have AR := ar_p9 hp c1 (hX c1).1
          intro TO
          refine Od_arrange_q6 W3 TO ρ _ P9 AR (fun r18 κ_19 q20 => ?_)
          obtain ⟨q20, q21⟩ := q20
          have FN := fin_24 W3 TO (hX c1).1 AR.2.2.2 q20.2.1 H q21.1 (fun f => q21.2.2 (q21.2.1.mpr f)) g1 g2 (Or.inr g3)
          intro W21
          intro M22
          refine ⟨fun c23 => ?_, fun c23 => ?_⟩
          · refine h _ _ ⟨⟨ρ, (chI_a9 W Ta0 q20.2.1 q20.2.2.1 q20.2.2.2.1 q20.2.2.2.2.1 hp).1⟩, ic, ?_⟩
            have c0 : r18 = 0 := by first | exact c23 | exact Classical.not_not.mp c23
            exact nb_e24 (Or.inl rfl) ⟨fun z => absurd rfl z, fun F => absurd c0 (q21.2.1.mpr (FN.mpr F).1)⟩
          · have c0 : r18 ≠ 0 := by first | exact c23 | exact fun z => c23 z
            intro T24
            have R := chI_a9 W Ta0 q20.2.1 q20.2.2.1 q20.2.2.2.1 q20.2.2.2.2.1 hp
            have ro : zR κ_19 chOdds a0 = zR κ chOdds a0 := R.2.2.2 chOdds (by decide)
            have rs : zR κ_19 chSolver a0 = zR κ chSolver a0 := R.2.2.2 chSolver (by decide)
            have ra : zR κ_19 chAtlas a0 = zR κ chAtlas a0 := R.2.2.2 chAtlas (by decide)
            have I9 := R.1.1
            have T19 := q20.2.1.t Ta0 (by decide)
            obtain ⟨n8, P8, hX8⟩ := ch_o9 I9
            have sol9 : zI κ_19 soSolved (zR κ_19 chSolver a0) ≠ 0 := by rw [rs, R.2.2.1]; exact c1
            have Y := hX8 sol9
            have en : (σ9.1 70).toNatClampNeg = n8 := by
              have y1 := (hX c1).2.2.1.2.2.2.1
              have y2 := ((R.2.1 n8).mp (by rw [← ra]; exact Y.2.2.1)).2.2.2.1
              omega
            subst en
            have S9 : SM24 κ_19 κ_19 (zR κ_19 chOdds a0) (σ9.1 70).toNatClampNeg V9 := by
              rw [ro]
              exact sm_m24 W3 TO (hX c1).1 AR.2.2.2 q20.2.1 H q21.1 (q21.2.2 c0)
            refine Od_tablesAgree_q6 W21 T24 ρ _ P8 V9 S9 (ta_p9 W21 T19 I9 ⟨Y.1, Y.2.1⟩ (by rw [ro]; exact q20.2.2.2.2.2 c0) rfl) (fun r25 κ_26 q27 => ?_)
            obtain ⟨⟨_, ρ2, G⟩, q28⟩ := q27
            rw [ro] at q28
            have K := ch_g9 W21 T19 I9 Y.2.1 G sol9
            obtain ⟨F1, Z1⟩ := R.1.2.1
            obtain ⟨F2, Z2⟩ := K.2.1
            have PP : ∃ ρ', chI9 ρ' κ_26 a0 L9 ∧ (∃ F, zF F κ κ_26) ∧ pC8 κ κ_26 a0 := ⟨ρ2, K.1, ⟨fun _ _ => True, (Z1.mono (fun _ _ _ => trivial)).tr (Z2.mono (fun _ _ _ => trivial))⟩, pC_t8 R.1.2.2 K.2.2⟩
            have FV := q28.trans ⟨fun G => FN.mp ⟨q21.2.1.mp c0, G⟩, fun F => (FN.mpr F).2⟩
            have v0 : r25 = 0 → (0 : Int32) = gw24 σ9 a1 a2 a3 := fun z => nb_e24 (Or.inl rfl) ⟨fun y => absurd rfl y, fun F => absurd z (FV.mpr F)⟩
            have v1 : r25 ≠ 0 → (1 : Int32) = gw24 σ9 a1 a2 a3 := fun z => nb_e24 (Or.inr rfl) ⟨fun _ => FV.mp z, fun _ => by decide⟩
            intro W28
            intro M29
            refine ⟨fun c30 => ?_, fun c30 => ?_⟩
            · exact h _ _ ⟨PP, ic, by first | exact v0 c30 | exact v0 (Classical.not_not.mp c30) | exact v1 c30 | exact v1 (fun z => c30 z)⟩
            · exact h _ _ ⟨PP, ic, by first | exact v0 c30 | exact v0 (Classical.not_not.mp c30) | exact v1 c30 | exact v1 (fun z => c30 z)⟩
        · intro κ_3 hκ_3
          refine hx _ _ ⟨Or.inr ⟨rfl, gc_224 s94 (fun z => (by first | exact absurd (s3.mpr z.2.2) d3 | exact d3 (s3.mpr z.2.2) | exact absurd d3 (s3.mpr z.2.2)))⟩, hκ_3⟩
  · intro κ_32 hκ_32
    refine hx _ _ ⟨Or.inl ⟨rfl, gc_124 (h94.mp (by first | exact c1 | exact Classical.not_not.mp c1))⟩, hκ_32⟩

end
section
set_option maxHeartbeats 1600000
/-! the class: feed, end, tell, forget by what they answer -/
theorem Ch_feed_w {C : zC} {n0 : Nat} {a0 : Nat} {a1 : Int32} {a2 : Int32} {a3 : Int32} {a4 : Int32} {a5 : Int32} {κ : zS} {Q : Int32 → zS → Prop} {X : zXp} (W : zW C n0 κ) (Ta0 : zT κ a0 = 15) (ρ : Nat → Nat) (L9 : Int) (hp : chI9 ρ κ a0 L9 ∧ L9 ≤ 10220) (h : ∀ (v : Int32) (κ' : zS), ((chI9 ρ κ' a0 (L9 + 20) ∧ (∃ F, zF F κ κ') ∧ ((oC9 κ' a0 = fdO9 (oC9 κ a0) (by9 a1 a2 a3 a4 a5) ∧ kC7 κ κ' a0) ∧ kA8 κ κ' a0)) ∧ v = zI κ taLength (zR κ chTape a0) + 20) → Q v κ') (hx : ∀ (cls : String) (κ' : zS), (False) → X cls κ') : zRun C 8 mCh_feed [.ref a0, .int a1, .int a2, .int a3, .int a4, .int a5] κ (oI Q X) := by
  refine Ch_feed_run W Ta0 ?_
  replace W := W.lo (Nat.le_trans W.1.2.1 W.1.2.2) (Nat.le_refl (zn κ))
  unfold w_Ch_feed_0
  obtain ⟨I, l9⟩ := hp
  have A := I.1.1
  have B := A.1.1
  have hl := I.2.2.2.2.2.2.1
  have e20 : (20 : Int32).toInt = 20 := rfl
  have el : (zI κ taLength (zR κ chTape a0) + 20).toInt = (zI κ taLength (zR κ chTape a0)).toInt + 20 := by rw [add_i (by rw [e20]; omega) (by rw [e20]; omega), e20]
  refine ⟨fun c1 => ?_, fun c1 => ?_⟩
  · skip
    intro T2
    refine Ta_widen_c2 W T2  ?_ (fun κ_3 q4 => ?_)
    · exact ⟨A.1, by omega, by omega⟩  -- p1
    intro W5
    intro M6
    intro T7
    have J0 : fdI9 (by9 a1 a2 a3 a4 a5) κ κ_3 (zR κ chTape a0) 0 := ⟨⟨fun j hj => q4.2.2.2.2.2 j (by omega), fun i hi => absurd hi (by omega)⟩, q4.1.mono (fun f b z => ⟨z.2, Or.inr z.1⟩), q4.2.1, by rw [q4.2.2.1]; omega, by have y := q4.2.2.2.1; omega, q4.2.2.2.2.1⟩
    rw [tw_r9 J0.2.1] at T7 ⊢
    refine Ta_addWord_c2 W5 T7  ?_ (fun κ_8 q9 => ?_)
    · exact ⟨J0.2.2.1, by have y := J0.2.2.2; omega⟩  -- p2
    intro W10
    intro M11
    intro T12
    have J1 := fd_s9 (m := 4) (w := a1) (by omega) (by omega) (fun i hi => by9_0 hi) J0 (by omega) q9
    rw [tw_r9 J1.2.1] at T12 ⊢
    refine Ta_addWord_c2 W10 T12  ?_ (fun κ_13 q14 => ?_)
    · exact ⟨J1.2.2.1, by have y := J1.2.2.2; omega⟩  -- p3
    intro W15
    intro M16
    intro T17
    have J2 := fd_s9 (m := 8) (w := a2) (by omega) (by omega) (fun i hi => by9_1 hi) J1 (by omega) q14
    rw [tw_r9 J2.2.1] at T17 ⊢
    refine Ta_addWord_c2 W15 T17  ?_ (fun κ_18 q19 => ?_)
    · exact ⟨J2.2.2.1, by have y := J2.2.2.2; omega⟩  -- p4
    intro W20
    intro M21
    intro T22
    have J3 := fd_s9 (m := 12) (w := a3) (by omega) (by omega) (fun i hi => by9_2 hi) J2 (by omega) q19
    rw [tw_r9 J3.2.1] at T22 ⊢
    refine Ta_addWord_c2 W20 T22  ?_ (fun κ_23 q24 => ?_)
    · exact ⟨J3.2.2.1, by have y := J3.2.2.2; omega⟩  -- p5
    intro W25
    intro M26
    intro T27
    have J4 := fd_s9 (m := 16) (w := a4) (by omega) (by omega) (fun i hi => by9_3 hi) J3 (by omega) q24
    rw [tw_r9 J4.2.1] at T27 ⊢
    refine Ta_addWord_c2 W25 T27  ?_ (fun κ_28 q29 => ?_)
    · exact ⟨J4.2.2.1, by have y := J4.2.2.2; omega⟩  -- p6
    intro W30
    intro M31
    refine h _ _ ⟨?_, ?_⟩
    · have J5 := fd_s9 (m := 20) (w := a5) (by omega) (by omega) (fun i hi => by9_4 hi) J4 (by omega) q29
      have R := chI_t9 (L' := L9 + 20) W Ta0 J5.2.1 J5.2.2.2.2.2 J5.2.2.1 (by have y := J5.2.2.2.1; omega) I
      refine ⟨R.1, ⟨_, J5.2.1⟩, ⟨?_, kC_z7 W Ta0 J5.2.1 (fun z => z.2.elim (fun y => absurd y (by decide)) (fun y => absurd y (by decide))) (fun z => z.2.elim (fun y => absurd y (by decide)) (fun y => absurd y (by decide))) (fun z => z.2.elim (fun y => absurd y (by decide)) (fun y => absurd y (by decide))) (fun z => z.2.elim (fun y => absurd y (by decide)) (fun y => absurd y (by decide))) (fun z => z.2.elim (fun y => absurd y (by decide)) (fun y => absurd y (by decide))) (fun z => z.2.elim (fun y => absurd y (by decide)) (fun y => absurd y (by decide))) (fun z => z.2.elim (fun y => absurd y (by decide)) (fun y => absurd y (by decide))) (fun f hf z => z.2.elim (fun y => absurd hf (by rw [y]; decide)) (fun y => absurd hf (by rw [y]; decide)))⟩, ⟨kA_z7 W Ta0 J5.2.1 (fun z => z.2.elim (fun y => absurd y (by decide)) (fun y => absurd y (by decide))) (fun f hf _ z => z.2.elim (fun y => absurd hf (by rw [y]; decide)) (fun y => absurd hf (by rw [y]; decide))) (fun f hf z => z.2.elim (fun y => absurd hf (by rw [y]; decide)) (fun y => absurd hf (by rw [y]; decide))) (fun f hf z => z.2.elim (fun y => absurd hf (by rw [y]; decide)) (fun y => absurd hf (by rw [y]; decide))), kA_u16 W Ta0 J5.2.1 (fun f x z => by rw [z.1, ty_chTape W Ta0]; decide) (fun f q z => by rcases q with q | q | q | q <;> rw [q] at z <;> exact z.2.elim (fun y => absurd y (by decide)) (fun y => absurd y (by decide)))⟩⟩
      have l5 : zI κ_28 taLength (zR κ chTape a0) = zI κ taLength (zR κ chTape a0) + 20 := Int32.toInt_inj.mp (by rw [el]; exact J5.2.2.2.1)
      have fc : zI κ_28 chFaultCode a0 = zI κ chFaultCode a0 := J5.2.1.i (fun z => z.2.elim (fun y => absurd y (by decide)) (fun y => absurd y (by decide)))
      unfold oC9
      rw [tw_r9 J5.2.1, l5, fc]
      exact fd_m9 (by omega) (by omega) rfl J5.1.1 (fun i hi => J5.1.2 i (by omega))
    · have J5 := fd_s9 (m := 20) (w := a5) (by omega) (by omega) (fun i hi => by9_4 hi) J4 (by omega) q29
      have l5 : zI κ_28 taLength (zR κ chTape a0) = zI κ taLength (zR κ chTape a0) + 20 := Int32.toInt_inj.mp (by rw [el]; exact J5.2.2.2.1)
      first | exact l5 | (rw [tw_r9 J5.2.1]; exact l5)
  · skip
    intro κ_32 hκ_32
    refine hx _ _ ?_
    · have e65 : (65536 : Int32).toInt = 65536 := rfl
      rw [lei, el, e65] at c1
      omega
theorem Ch_end_w {C : zC} {n0 : Nat} {a0 : Nat} {a1 : Int32} {κ : zS} {Q : zS → Prop} {X : zXp} (W : zW C n0 κ) (Ta0 : zT κ a0 = 15) (ρ : Nat → Nat) (L9 : Int) (hp : chI9 ρ κ a0 L9) (h : ∀ (κ' : zS), ((chI9 ρ κ' a0 L9 ∧ (∃ F, zF F κ κ') ∧ ((oC9 κ' a0 = trO9 (oC9 κ a0) a1 ∧ kC7 κ κ' a0) ∧ kA8 κ κ' a0)) ∧ 0 ≤ a1 ∧ a1 ≤ zI κ taLength (zR κ chTape a0)) → Q κ') (hx : ∀ (cls : String) (κ' : zS), (cls = "java/lang/IllegalArgumentException" ∧ κ' = ut κ ∧ trO9 (oC9 κ a0) a1 = oC9 κ a0 ∧ ¬ (0 ≤ a1 ∧ a1 ≤ zI κ taLength (zR κ chTape a0))) → X cls κ') : zRun C 8 mCh_end [.ref a0, .int a1] κ (oV Q X) := by
  refine Ch_end_run W Ta0 ?_
  replace W := W.lo (Nat.le_trans W.1.2.1 W.1.2.2) (Nat.le_refl (zn κ))
  unfold w_Ch_end_0
  refine ⟨fun c1 => ?_, fun c1 => ?_⟩
  · skip
    intro κ_2 hκ_2
    refine hx _ _ ?_
    · have nz : ¬ (0 ≤ a1 ∧ a1 ≤ zI κ taLength (zR κ chTape a0)) := fun z => by
        have z1 := z.1
        rw [lti, t0i] at c1
        rw [lei, t0i] at z1
        omega
      exact ⟨rfl, hκ_2, tr_n9 nz, nz⟩
  · skip
    refine ⟨fun c3 => ?_, fun c3 => ?_⟩
    · skip
      intro κ_4 hκ_4
      intro W5
      refine h _ ⟨?_, ⟨by rw [lti, t0i] at c1; rw [lei, t0i]; omega, c3⟩⟩
      · have Z : zF (twF9 (zR κ chTape a0)) κ κ_4 := by rw [hκ_4]; exact zF_ui ⟨rfl, Or.inl rfl⟩
        have R4 : zR κ_4 = zR κ := by rw [hκ_4]; rfl
        have N4 : zN κ_4 = zN κ := by rw [hκ_4]; rfl
        have i4 : zI κ_4 taLength (zR κ chTape a0) = a1 := by rw [hκ_4]; exact if_pos ⟨rfl, rfl⟩
        have i5 : zI κ_4 taTotal (zR κ chTape a0) = zI κ taTotal (zR κ chTape a0) := by rw [hκ_4]; rfl
        have B := hp.1.1.1
        have B1 := B.1
        have cc : 0 ≤ a1 ∧ a1 ≤ zI κ taLength (zR κ chTape a0) := ⟨by rw [lti, t0i] at c1; rw [lei, t0i]; omega, c3⟩
        rw [lti, t0i] at c1
        rw [lei] at c3
        have hl := hp.2.2.2.2.2.2
        have R := chI_t9 (L' := L9) W Ta0 Z (by rw [R4, N4]; exact Nat.le_refl _) (by
          unfold taI
          rw [R4, N4, i4, i5]
          exact ⟨⟨by omega, by omega, B.1.2.2⟩, B.2⟩) (by rw [i4]; omega) hp
        refine ⟨R.1, ⟨_, Z⟩, ⟨?_, by rw [hκ_4]; rfl, by rw [hκ_4]; exact cu_f7 W (ty_chCode W Ta0) (zF_ui (F := fun f b => f = taLength) rfl) (fun f hf z => absurd hf (by rw [z]; decide)), by rw [hκ_4]; rfl, by rw [hκ_4]; rfl⟩, ⟨kA_z7 (F := fun f b => f = taLength) W Ta0 (by rw [hκ_4]; exact zF_ui rfl) (by decide) (fun f hf _ z => absurd hf (by rw [z]; decide)) (fun f hf z => absurd hf (by rw [z]; decide)) (fun f hf z => absurd hf (by rw [z]; decide)), kA_u16 W Ta0 Z (fun f x z => by rw [z.1, ty_chTape W Ta0]; decide) (fun f q z => by rcases q with q | q | q | q <;> rw [q] at z <;> exact z.2.elim (fun y => absurd y (by decide)) (fun y => absurd y (by decide)))⟩⟩
        have A4 : zA κ_4 = zA κ := by rw [hκ_4]; rfl
        have f4 : zI κ_4 chFaultCode a0 = zI κ chFaultCode a0 := by rw [hκ_4]; rfl
        unfold oC9
        rw [tr_m9 cc, R4, A4, i4, f4]
    · skip
      intro κ_6 hκ_6
      refine hx _ _ ?_
      · exact ⟨rfl, hκ_6, tr_n9 (fun z => c3 z.2), fun z => c3 z.2⟩
theorem Ch_tell_w {C : zC} {n0 : Nat} {a0 : Nat} {a1 : Int32} {κ : zS} {Q : Int32 → zS → Prop} {X : zXp} (W : zW C n0 κ) (Ta0 : zT κ a0 = 15) (ρ : Nat → Nat) (L9 : Int) (hp : chI9 ρ κ a0 L9) (h : ∀ (v : Int32) (κ' : zS), ((chI9 ρ κ' a0 L9 ∧ (∃ F, zF F κ κ') ∧ TL21 κ κ' a0 a1) ∧ zI κ chTolds a0 < 200 ∧ v = zI κ chTolds a0 + 1) → Q v κ') (hx : ∀ (cls : String) (κ' : zS), (cls = "java/lang/UnsupportedOperationException" ∧ κ' = ut κ ∧ ¬ zI κ chTolds a0 < 200) → X cls κ') : zRun C 8 mCh_tell [.ref a0, .int a1] κ (oI Q X) := by
  refine Ch_tell_run W Ta0 ?_
  replace W := W.lo (Nat.le_trans W.1.2.1 W.1.2.2) (Nat.le_refl (zn κ))
  unfold w_Ch_tell_0
  have E := hp.2.2.2.2.2.1
  have e200 : (200 : Int32).toInt = 200 := rfl
  refine ⟨fun c1 => ?_, fun c1 => ?_⟩
  · skip
    refine ⟨?_, ?_⟩
    · rw [lti, e200] at c1
      rw [inb_iff, E.1.1]
      have y := E.1.2
      omega
    intro κ_2 hκ_2
    intro W3
    intro κ_4 hκ_4
    intro W5
    refine h _ _ ⟨?_, c1, ?_⟩
    rotate_left
    · have i2 : zI κ_2 chTolds a0 = zI κ chTolds a0 := by rw [hκ_2]; rfl
      have i4 : zI κ_4 chTolds a0 = zI κ chTolds a0 + 1 := by
        rw [← i2, hκ_4]
        exact if_pos ⟨rfl, rfl⟩
      first | exact i4 | rfl
    · have o := W.o (show zr chTold = some 20 by decide +kernel) (by decide) (Ta0.trans (by decide))
      have Z : zF (fun f b => b = a0 ∧ (f = chTold ∨ f = chTolds)) κ κ_4 := zF.tr (κ1 := κ_2) (by
        rw [hκ_2]
        exact zF_ua (by rw [o]; exact ⟨rfl, Or.inl rfl⟩)) (by
        rw [hκ_4]
        exact zF_ui ⟨rfl, Or.inr rfl⟩)
      have R4 : zR κ_4 = zR κ := by rw [hκ_4, hκ_2]; rfl
      have N4 : zN κ_4 = zN κ := by rw [hκ_4, hκ_2]; rfl
      have i2 : zI κ_2 chTolds a0 = zI κ chTolds a0 := by rw [hκ_2]; rfl
      have i4 : zI κ_4 chTolds a0 = zI κ chTolds a0 + 1 := by
        rw [← i2, hκ_4]
        exact if_pos ⟨rfl, rfl⟩
      have c1' := c1
      rw [lti, e200] at c1'
      have y := E.1.2
      have ix := cn1 (x := zI κ chTolds a0) y.1 (by omega)
      refine ⟨chI_o9 W Ta0 Z (fun f x z => z.1) (fun f _ _ _ => by rw [R4]) ?_ hp, ⟨_, Z⟩, ⟨⟨oC_u9 W Ta0 Z (fun z => z.2.elim (fun y => absurd y (by decide)) (fun y => absurd y (by decide))) (fun z => z.2.elim (fun y => absurd y (by decide)) (fun y => absurd y (by decide))) (fun z => z.2.elim (fun y => absurd y (by decide)) (fun y => absurd y (by decide))) (fun z => z.2.elim (fun y => absurd y (by decide)) (fun y => absurd y (by decide))), kD_z7 W Ta0 Z (fun z => z.2.elim (fun y => absurd y (by decide)) (fun y => absurd y (by decide))) (fun z => z.2.elim (fun y => absurd y (by decide)) (fun y => absurd y (by decide))) (fun f hf z => z.2.elim (fun y => absurd hf (by rw [y]; decide)) (fun y => absurd hf (by rw [y]; decide))), pq_z23 W Ta0 Z (fun z => z.2.elim (fun y => absurd y (by decide)) (fun y => absurd y (by decide))) (fun z => z.2.elim (fun y => absurd y (by decide)) (fun y => absurd y (by decide))) (fun z => z.2.elim (fun y => absurd y (by decide)) (fun y => absurd y (by decide)))⟩, ⟨kA_z7 W Ta0 Z (fun z => z.2.elim (fun y => absurd y (by decide)) (fun y => absurd y (by decide))) (fun f hf _ z => z.2.elim (fun y => absurd hf (by rw [y]; decide)) (fun y => absurd hf (by rw [y]; decide))) (fun f hf z => z.2.elim (fun y => absurd hf (by rw [y]; decide)) (fun y => absurd hf (by rw [y]; decide))) (fun f hf z => z.2.elim (fun y => absurd hf (by rw [y]; decide)) (fun y => absurd hf (by rw [y]; decide))), kA_u16 W Ta0 Z (fun f x z => by rw [z.1, Ta0]; decide) (fun f q z => by rcases q with q | q | q | q <;> rw [q] at z <;> exact z.2.elim (fun y => absurd y (by decide)) (fun y => absurd y (by decide)))⟩, Or.inl ⟨c1, i4, ?_⟩⟩⟩
      rotate_left
      · rw [R4]
        have o2 : zA κ_4 (zR κ chTold a0) = zA κ_2 (zR κ chTold a0) := by rw [hκ_4]; rfl
        rw [o2, hκ_2]
        exact if_pos rfl
      unfold chE9 dwI9
      rw [R4, N4, i4, ix.2]
      exact ⟨⟨E.1.1, by omega, by omega⟩, E.2⟩
  · skip
    intro κ_6 hκ_6
    refine hx _ _ ?_
    · exact ⟨rfl, hκ_6, c1⟩  -- x3
theorem Ch_forget_w {C : zC} {n0 : Nat} {a0 : Nat} {κ : zS} {Q : Int32 → zS → Prop} (W : zW C n0 κ) (Ta0 : zT κ a0 = 15) (ρ : Nat → Nat) (L9 : Int) (hp : chI9 ρ κ a0 L9) (h : ∀ (v : Int32) (κ' : zS), ((chI9 ρ κ' a0 L9 ∧ (∃ F, zF F κ κ') ∧ FG21 κ κ' a0) ∧ v = zI κ chTolds a0) → Q v κ') : zRun C 0 mCh_forget [.ref a0] κ (oI Q noX) := by
  refine Ch_forget_run W Ta0 ?_
  replace W := W.lo (Nat.le_trans W.1.2.1 W.1.2.2) (Nat.le_refl (zn κ))
  unfold w_Ch_forget_0
  intro x1 hx1
  intro κ_2 hκ_2
  intro W3
  refine h _ _ ⟨?_, by first | exact hx1 | exact hx1.symm | rfl⟩
  · have E := hp.2.2.2.2.2.1
    have Z : zF (fun f b => b = a0 ∧ f = chTolds) κ κ_2 := by rw [hκ_2]; exact zF_ui ⟨rfl, rfl⟩
    have R4 : zR κ_2 = zR κ := by rw [hκ_2]; rfl
    have N4 : zN κ_2 = zN κ := by rw [hκ_2]; rfl
    have i4 : zI κ_2 chTolds a0 = 0 := by rw [hκ_2]; exact if_pos ⟨rfl, rfl⟩
    refine ⟨chI_o9 W Ta0 Z (fun f x z => z.1) (fun f _ _ _ => by rw [R4]) ?_ hp, ⟨_, Z⟩, ⟨⟨oC_u9 W Ta0 Z (fun z => absurd z.2 (by decide)) (fun z => absurd z.2 (by decide)) (fun z => absurd z.2 (by decide)) (fun z => absurd z.2 (by decide)), kD_z7 W Ta0 Z (fun z => absurd z.2 (by decide)) (fun z => absurd z.2 (by decide)) (fun f hf z => absurd hf (by rw [z.2]; decide)), pq_z23 W Ta0 Z (fun z => absurd z.2 (by decide)) (fun z => absurd z.2 (by decide)) (fun z => absurd z.2 (by decide))⟩, ⟨kA_z7 W Ta0 Z (fun z => absurd z.2 (by decide)) (fun f hf _ z => absurd hf (by rw [z.2]; decide)) (fun f hf z => absurd hf (by rw [z.2]; decide)) (fun f hf z => absurd hf (by rw [z.2]; decide)), kA_u16 W Ta0 Z (fun f x z => by rw [z.1, Ta0]; decide) (fun f q z => by rcases q with q | q | q | q <;> rw [q] at z <;> exact absurd z.2 (by decide))⟩, i4⟩⟩
    unfold chE9 dwI9
    rw [R4, N4, i4]
    exact ⟨⟨E.1.1, by decide, by decide⟩, E.2⟩

end
section
/-! both answers, for all calls -/
theorem xx_w {α : Type} {N : Prop} {s : Int32} {v nv : α} (X : (N ∧ s = 0 ∧ v = nv) ∨ (¬ N ∧ s = 1)) : (∀ x, (N ∧ x = nv) → s = 0 ∧ x = v) ∧ ∀ c : Int32, (c = 1 ∧ ¬ N) → s = c := by
  rcases X with ⟨n, s0, ev⟩ | ⟨n, s1⟩
  · exact ⟨fun x h => ⟨s0, h.2.trans ev.symm⟩, fun c h => absurd n h.2⟩
  · exact ⟨fun x h => absurd h.1 n, fun c h => s1.trans h.1.symm⟩
theorem xc_w {α : Type} {s c : Int32} {v nv : α} (X : (c = 0 ∧ s = 0 ∧ v = nv) ∨ (¬ c = 0 ∧ s = c)) : (∀ x, (c = 0 ∧ x = nv) → s = 0 ∧ x = v) ∧ ∀ e : Int32, (e ≠ 0 ∧ c = e) → s = e := by
  rcases X with ⟨n, s0, ev⟩ | ⟨n, s1⟩
  · exact ⟨fun x h => ⟨s0, h.2.trans ev.symm⟩, fun e h => absurd (h.2.symm.trans n) h.1⟩
  · exact ⟨fun x h => absurd h.1 n, fun e h => s1.trans h.2⟩
theorem go_w {σ σ9 σ' : rS} {a v : Int32} (X : GO21 a σ9 σ' v) (e : cy21 σ9 a = cy21 σ a) : (∀ x, (cy21 σ a = 0 ∧ ∀ N tr v', TRF21 a σ9 N tr v' → x = v') → σ'.1 0 = 0 ∧ x = v) ∧ ∀ c : Int32, (c ≠ 0 ∧ cy21 σ a = c) → σ'.1 0 = c := ⟨fun x h => go_a21 X (e.trans h.1) h.2, fun c h => (go_b21 X (by rw [e, h.2]; exact h.1)).trans (e.trans h.2)⟩
theorem xs_w {κ : zS} {a : Nat} {σ σ' : rS} {p v : Int32} (ht : RC8 κ a σ) (X : XS6 p σ σ' v) : (∀ x, ((zI κ chReady a ≠ 0 ∧ 1 ≤ p ∧ p ≤ 1000) ∧ ∃ σc r, gxE p σ = (σc, r) ∧ ((r = 0 ∧ x = -1) ∨ (r = 1 ∧ x = σc.1 70))) → σ'.1 0 = 0 ∧ x = v) ∧ ∀ c : Int32, ((c = 2 ∧ zI κ chReady a ≠ 0 ∧ ¬ (1 ≤ p ∧ p ≤ 1000)) ∨ (c = 1 ∧ zI κ chReady a = 0)) → σ'.1 0 = c := by
  constructor
  · intro x ⟨h1, h2⟩
    have c : cd9x σ p = 0 := by
      unfold cd9x
      rw [if_neg (fun z => h1.1 (ht.1.2.1.mp z)), if_pos h1.2]
    obtain ⟨x1, x2⟩ := X
    rw [c] at x1 x2
    refine ⟨x1, ?_⟩
    rcases x2 with x2 | ⟨_, σd, s, g1, g2⟩
    · exact absurd rfl x2.1
    · obtain ⟨σc, r, k1, k2⟩ := h2
      have e := k1.symm.trans g1
      have e1 : σc = σd := congrArg Prod.fst e
      have e2 : r = s := congrArg Prod.snd e
      rcases k2 with ⟨k3, k4⟩ | ⟨k3, k4⟩
      · rcases g2 with ⟨_, g4, _⟩ | ⟨g3, _⟩
        · rw [k4, g4]
        · exact absurd (e2.symm.trans k3) g3
      · rcases g2 with ⟨g3, _⟩ | ⟨_, g4, _⟩
        · rw [e2, g3] at k3
          exact absurd k3 (by decide)
        · rw [k4, g4, e1]
  · rintro c (⟨e, h1, h2⟩ | ⟨e, h1⟩)
    · rw [X.1, e]
      unfold cd9x
      rw [if_neg (fun z => h1 (ht.1.2.1.mp z)), if_neg h2]
    · rw [X.1, e]
      unfold cd9x
      rw [if_pos (ht.1.2.1.mpr h1)]
theorem xs_x16 {σ σ' : rS} {p v : Int32} (h : XS22 p σ σ' v) : XS6 p σ σ' v := h.1.1.1.1

end
section
set_option maxHeartbeats 1600000
/-! the class: ChanceWorks.program, behind its call of the parser -/
theorem fl_X12_128 : (tFL 15).lookup 128 = some (10, 17) := by decide +kernel
theorem fl_X12_132 : (tFL 15).lookup 132 = some (10, 18) := by decide +kernel
theorem fl_X12_151 : (tFL 15).lookup 151 = some (5, 13) := by decide +kernel
theorem gf_X12_23 {C : zC} {n0 d : Nat} {r : dM} {pc : Nat} {L : List (Option Value)} {st : List Value} {κ : zS} {Q : zU → zS → Prop} {a : Nat} (W : zW C n0 κ) (hd : decode r.2.1 pc = .ok (.getfield 23, 3)) (ho : r.2.2.2.2.2.1 = 15) (hT : zT κ a = 15) (K : zG C n0 d r (pc + 3) L (.ref (zR κ chSpare a) :: st) κ Q) : zG C n0 d r pc L (.ref a :: st) κ Q := y_getr W hd ho fl_X12_23 fk_chSpare (Or.inl hT) (ty_chSpare W hT) K
theorem gf_X12_31 {C : zC} {n0 d : Nat} {r : dM} {pc : Nat} {L : List (Option Value)} {st : List Value} {κ : zS} {Q : zU → zS → Prop} {a : Nat} (W : zW C n0 κ) (hd : decode r.2.1 pc = .ok (.getfield 31, 3)) (ho : r.2.2.2.2.2.1 = 15) (hT : zT κ a = 15) (K : zG C n0 d r (pc + 3) L (.ref (zR κ chParser a) :: st) κ Q) : zG C n0 d r pc L (.ref a :: st) κ Q := y_getr W hd ho fl_X12_31 fk_chParser (Or.inl hT) (ty_chParser W hT) K
theorem gf_X12_128 {C : zC} {n0 d : Nat} {r : dM} {pc : Nat} {L : List (Option Value)} {st : List Value} {κ : zS} {Q : zU → zS → Prop} {a : Nat} (hd : decode r.2.1 pc = .ok (.getfield 128, 3)) (ho : r.2.2.2.2.2.1 = 15) (hB : zBo κ a 10) (K : zG C n0 d r (pc + 3) L (.int (zI κ paFaultCode a) :: st) κ Q) : zG C n0 d r pc L (.ref a :: st) κ Q := y_geti hd ho fl_X12_128 fk_paFaultCode hB K
theorem gf_X12_132 {C : zC} {n0 d : Nat} {r : dM} {pc : Nat} {L : List (Option Value)} {st : List Value} {κ : zS} {Q : zU → zS → Prop} {a : Nat} (hd : decode r.2.1 pc = .ok (.getfield 132, 3)) (ho : r.2.2.2.2.2.1 = 15) (hB : zBo κ a 10) (K : zG C n0 d r (pc + 3) L (.int (zI κ paFaultPlace a) :: st) κ Q) : zG C n0 d r pc L (.ref a :: st) κ Q := y_geti hd ho fl_X12_132 fk_paFaultPlace hB K
theorem gf_X12_151 {C : zC} {n0 d : Nat} {r : dM} {pc : Nat} {L : List (Option Value)} {st : List Value} {κ : zS} {Q : zU → zS → Prop} {a : Nat} (hd : decode r.2.1 pc = .ok (.getfield 151, 3)) (ho : r.2.2.2.2.2.1 = 15) (hB : zBo κ a 5) (K : zG C n0 d r (pc + 3) L (.int (zI κ coStatements a) :: st) κ Q) : zG C n0 d r pc L (.ref a :: st) κ Q := y_geti hd ho fl_X12_151 fk_coStatements hB K
theorem pf_X12_131 {C : zC} {n0 d : Nat} {r : dM} {pc : Nat} {L : List (Option Value)} {st : List Value} {κ : zS} {Q : zU → zS → Prop} {a : Nat} {x : Int32} (W : zW C n0 κ) (hd : decode r.2.1 pc = .ok (.putfield 131, 3)) (ho : r.2.2.2.2.2.1 = 15) (hB : zBo κ a 15) (K : ∀ κ1, κ1 = ui κ chFaultCode a x → zG C n0 d r (pc + 3) L st κ1 Q) : zG C n0 d r pc L (.int x :: .ref a :: st) κ Q := y_puti W hd ho fl_X12_131 fk_chFaultCode rfl (Or.inl rfl) in_nar hB K
theorem pf_X12_135 {C : zC} {n0 d : Nat} {r : dM} {pc : Nat} {L : List (Option Value)} {st : List Value} {κ : zS} {Q : zU → zS → Prop} {a : Nat} {x : Int32} (W : zW C n0 κ) (hd : decode r.2.1 pc = .ok (.putfield 135, 3)) (ho : r.2.2.2.2.2.1 = 15) (hn : narrow .boolean (.int x) = .int x ∧ fits .boolean (.int x) = true) (hB : zBo κ a 15) (K : ∀ κ1, κ1 = ui κ chReady a x → zG C n0 d r (pc + 3) L st κ1 Q) : zG C n0 d r pc L (.int x :: .ref a :: st) κ Q := y_puti W hd ho fl_X12_135 fk_chReady rfl (Or.inl rfl) hn hB K
theorem pf_X12_139 {C : zC} {n0 d : Nat} {r : dM} {pc : Nat} {L : List (Option Value)} {st : List Value} {κ : zS} {Q : zU → zS → Prop} {a : Nat} {x : Int32} (W : zW C n0 κ) (hd : decode r.2.1 pc = .ok (.putfield 139, 3)) (ho : r.2.2.2.2.2.1 = 15) (hn : narrow .boolean (.int x) = .int x ∧ fits .boolean (.int x) = true) (hB : zBo κ a 3) (K : ∀ κ1, κ1 = ui κ atExplored a x → zG C n0 d r (pc + 3) L st κ1 Q) : zG C n0 d r pc L (.int x :: .ref a :: st) κ Q := y_puti W hd ho fl_X12_139 fk_atExplored rfl (Or.inl rfl) hn hB K
theorem k_X12_123 {C : zC} {n0 d : Nat} {r : dM} {pc : Nat} {L : List (Option Value)} {st : List Value} {κ : zS} {Q : zU → zS → Prop} {x0 : Nat} {x1 : Nat} {F : zS → Prop} {X : zXp} (W : zW C n0 κ) (hd : decode r.2.1 pc = .ok (.invokevirtual 123, 3)) (ho : r.2.2.2.2.2.1 = 15) (h0 : 14 ≤ d) (hc : (st.map fun v => v.category).sum ≤ 8) (hB : zBo κ x0 10) (h : zRun C 14 mPa_read [.ref x0, .ref x1] κ (oV F X)) (K : ∀ κ', zW C n0 κ' → zM (zn κ) κ κ' → F κ' → zG C n0 (d + 1) r (pc + 3) L (st) κ' Q) (KX : ∀ cls κ', X cls κ' → Q (.inr cls) κ') : zG C n0 (d + 1) r pc L (.ref x1 :: .ref x0 :: st) κ Q := by
  exact y_call (As := [.ref x1]) W hd ho (j := 143) (by decide +kernel) rfl ⟨rfl, by decide, by decide, by decide⟩ rfl (Nat.le_of_ble_eq_true rfl) h0 hc hB h (fun v κ' w9 m9 p9 => ezV K w9 m9 p9) (fun cls κ' p9 => KX cls κ' (thrV p9))
abbrev mCh_program : dM := (yX12_program, cX12_program, 3, (some .int), false, 15, 0)
theorem dX12_program_0 : decode cX12_program 0 = .ok (.iconst 1, 1) := by decide +kernel
theorem dX12_program_1 : decode cX12_program 1 = .ok (.istore_n 1, 1) := by decide +kernel
theorem dX12_program_2 : decode cX12_program 2 = .ok (.aload_n 0, 1) := by decide +kernel
theorem dX12_program_3 : decode cX12_program 3 = .ok (.getfield 31, 3) := by decide +kernel
theorem dX12_program_6 : decode cX12_program 6 = .ok (.aload_n 0, 1) := by decide +kernel
theorem dX12_program_7 : decode cX12_program 7 = .ok (.getfield 23, 3) := by decide +kernel
theorem dX12_program_10 : decode cX12_program 10 = .ok (.invokevirtual 123, 3) := by decide +kernel
theorem dX12_program_13 : decode cX12_program 13 = .ok (.goto 6, 3) := by decide +kernel
theorem dX12_program_19 : decode cX12_program 19 = .ok (.aload_n 0, 1) := by decide +kernel
theorem dX12_program_20 : decode cX12_program 20 = .ok (.getfield 12, 3) := by decide +kernel
theorem dX12_program_23 : decode cX12_program 23 = .ok (.iconst 0, 1) := by decide +kernel
theorem dX12_program_24 : decode cX12_program 24 = .ok (.putfield 100, 3) := by decide +kernel
theorem dX12_program_27 : decode cX12_program 27 = .ok (.aload_n 0, 1) := by decide +kernel
theorem dX12_program_28 : decode cX12_program 28 = .ok (.iload_n 1, 1) := by decide +kernel
theorem dX12_program_29 : decode cX12_program 29 = .ok (.ifCond .eq 7, 3) := by decide +kernel
theorem dX12_program_32 : decode cX12_program 32 = .ok (.iconst 0, 1) := by decide +kernel
theorem dX12_program_33 : decode cX12_program 33 = .ok (.goto 10, 3) := by decide +kernel
theorem dX12_program_36 : decode cX12_program 36 = .ok (.aload_n 0, 1) := by decide +kernel
theorem dX12_program_37 : decode cX12_program 37 = .ok (.getfield 31, 3) := by decide +kernel
theorem dX12_program_40 : decode cX12_program 40 = .ok (.getfield 128, 3) := by decide +kernel
theorem dX12_program_43 : decode cX12_program 43 = .ok (.putfield 131, 3) := by decide +kernel
theorem dX12_program_46 : decode cX12_program 46 = .ok (.iload_n 1, 1) := by decide +kernel
theorem dX12_program_47 : decode cX12_program 47 = .ok (.ifCond .ne 13, 3) := by decide +kernel
theorem dX12_program_50 : decode cX12_program 50 = .ok (.iconst (-1), 1) := by decide +kernel
theorem dX12_program_51 : decode cX12_program 51 = .ok (.aload_n 0, 1) := by decide +kernel
theorem dX12_program_52 : decode cX12_program 52 = .ok (.getfield 31, 3) := by decide +kernel
theorem dX12_program_55 : decode cX12_program 55 = .ok (.getfield 132, 3) := by decide +kernel
theorem dX12_program_58 : decode cX12_program 58 = .ok (.isub, 1) := by decide +kernel
theorem dX12_program_59 : decode cX12_program 59 = .ok (.ireturn, 1) := by decide +kernel
theorem dX12_program_60 : decode cX12_program 60 = .ok (.aload_n 0, 1) := by decide +kernel
theorem dX12_program_61 : decode cX12_program 61 = .ok (.getfield 19, 3) := by decide +kernel
theorem dX12_program_64 : decode cX12_program 64 = .ok (.astore_n 2, 1) := by decide +kernel
theorem dX12_program_65 : decode cX12_program 65 = .ok (.aload_n 0, 1) := by decide +kernel
theorem dX12_program_66 : decode cX12_program 66 = .ok (.aload_n 0, 1) := by decide +kernel
theorem dX12_program_67 : decode cX12_program 67 = .ok (.getfield 23, 3) := by decide +kernel
theorem dX12_program_70 : decode cX12_program 70 = .ok (.putfield 19, 3) := by decide +kernel
theorem dX12_program_73 : decode cX12_program 73 = .ok (.aload_n 0, 1) := by decide +kernel
theorem dX12_program_74 : decode cX12_program 74 = .ok (.aload_n 2, 1) := by decide +kernel
theorem dX12_program_75 : decode cX12_program 75 = .ok (.putfield 23, 3) := by decide +kernel
theorem dX12_program_78 : decode cX12_program 78 = .ok (.aload_n 0, 1) := by decide +kernel
theorem dX12_program_79 : decode cX12_program 79 = .ok (.iconst 1, 1) := by decide +kernel
theorem dX12_program_80 : decode cX12_program 80 = .ok (.putfield 135, 3) := by decide +kernel
theorem dX12_program_83 : decode cX12_program 83 = .ok (.aload_n 0, 1) := by decide +kernel
theorem dX12_program_84 : decode cX12_program 84 = .ok (.getfield 49, 3) := by decide +kernel
theorem dX12_program_87 : decode cX12_program 87 = .ok (.iconst 0, 1) := by decide +kernel
theorem dX12_program_88 : decode cX12_program 88 = .ok (.putfield 139, 3) := by decide +kernel
theorem dX12_program_91 : decode cX12_program 91 = .ok (.aload_n 0, 1) := by decide +kernel
theorem dX12_program_92 : decode cX12_program 92 = .ok (.getfield 61, 3) := by decide +kernel
theorem dX12_program_95 : decode cX12_program 95 = .ok (.iconst 0, 1) := by decide +kernel
theorem dX12_program_96 : decode cX12_program 96 = .ok (.putfield 142, 3) := by decide +kernel
theorem dX12_program_99 : decode cX12_program 99 = .ok (.aload_n 0, 1) := by decide +kernel
theorem dX12_program_100 : decode cX12_program 100 = .ok (.getfield 61, 3) := by decide +kernel
theorem dX12_program_103 : decode cX12_program 103 = .ok (.iconst 0, 1) := by decide +kernel
theorem dX12_program_104 : decode cX12_program 104 = .ok (.putfield 145, 3) := by decide +kernel
theorem dX12_program_107 : decode cX12_program 107 = .ok (.aload_n 0, 1) := by decide +kernel
theorem dX12_program_108 : decode cX12_program 108 = .ok (.iconst 0, 1) := by decide +kernel
theorem dX12_program_109 : decode cX12_program 109 = .ok (.putfield 148, 3) := by decide +kernel
theorem dX12_program_112 : decode cX12_program 112 = .ok (.aload_n 0, 1) := by decide +kernel
theorem dX12_program_113 : decode cX12_program 113 = .ok (.getfield 19, 3) := by decide +kernel
theorem dX12_program_116 : decode cX12_program 116 = .ok (.getfield 151, 3) := by decide +kernel
theorem dX12_program_119 : decode cX12_program 119 = .ok (.ireturn, 1) := by decide +kernel
def w_Ch_program_43 (C : zC) (n0 : Nat) (Q : Int32 → zS → Prop)  (a0 : Nat) (a1 : Int32) (s0 : Nat) (s1 : Int32) (κ : zS) : Prop :=
  ∀ κ1, κ1 = ui κ chFaultCode s0 s1 →
  ∀ _ : zW C n0 κ1,
  (¬ a1 = (0 : Int32) →
    ∀ v2_3 : Nat, v2_3 = (zR κ1 chCode a0) →
    ∀ κ4, κ4 = ur κ1 chCode a0 (zR κ1 chSpare a0) →
    ∀ _ : zW C n0 κ4,
    ∀ κ5, κ5 = ur κ4 chSpare a0 v2_3 →
    ∀ _ : zW C n0 κ5,
    ∀ κ8, κ8 = ui κ5 chReady a0 (1 : Int32) →
    ∀ _ : zW C n0 κ8,
    ∀ κ11, κ11 = ui κ8 atExplored (zR κ8 chAtlas a0) (0 : Int32) →
    ∀ _ : zW C n0 κ11,
    ∀ κ13, κ13 = ui κ11 soSolved (zR κ11 chSolver a0) (0 : Int32) →
    ∀ _ : zW C n0 κ13,
    ∀ κ15, κ15 = ui κ13 soPlanned (zR κ13 chSolver a0) (0 : Int32) →
    ∀ _ : zW C n0 κ15,
    ∀ κ16, κ16 = ui κ15 chPlayMade a0 (0 : Int32) →
    ∀ _ : zW C n0 κ16,
    Q (zI κ16 coStatements (zR κ16 chCode a0)) κ16) ∧
  (a1 = (0 : Int32) →
    Q ((-1 : Int32) - (zI κ1 paFaultPlace (zR κ1 chParser a0))) κ1)
theorem t_Ch_program_43 {C : zC} {n0 : Nat} {Q : Int32 → zS → Prop}   {a0 : Nat} {a1 : Int32} {s0 : Nat} {s1 : Int32} {κ : zS} (W : zW C n0 κ) (Ta0 : zT κ a0 = 15) (Ts0 : zT κ s0 = 15) (F : w_Ch_program_43 C n0 Q  a0 a1 s0 s1 κ) : zG C n0 15 mCh_program 43 [some (.ref a0), some (.int a1), none] [.int s1, .ref s0] κ (oI Q noX) := by
  unfold w_Ch_program_43 at F
  refine pf_X12_131 W dX12_program_43 rfl (Or.inl Ts0) (fun κ1 eκ1 => ?_)
  replace F := F κ1 eκ1
  have Wκ1 : zW C n0 κ1 := zW_ui W eκ1 (fun h => absurd h (by decide))
  have Mκ1 : zM (zn κ) κ κ1 := by rw [eκ1]; exact zM.of rfl rfl rfl
  replace F := F Wκ1
  refine y_iln dX12_program_46 rfl ?_
  refine y_in (a1 = (0 : Int32)) dX12_program_47 (t := 60) rfl rfl (fun c9 => ?_) (fun c9 => ?_)
  · replace F := F.1 c9
    refine y_aln dX12_program_60 rfl ?_
    have h2 := (ztm W Mκ1 Ta0)
    refine gf_X12_19 Wκ1 dX12_program_61 rfl h2 ?_
    refine y_asnb dX12_program_64 (Nat.le_of_ble_eq_true rfl) (fun v2_3 ev2_3 => ?_)
    replace F := F v2_3 ev2_3
    have Tv2_3 : zT κ1 v2_3 = 5 := by rw [ev2_3]; exact (ty_chCode Wκ1 h2)
    refine y_aln dX12_program_65 rfl ?_
    refine y_aln dX12_program_66 rfl ?_
    refine gf_X12_23 Wκ1 dX12_program_67 rfl h2 ?_
    refine pf_X12_19 Wκ1 dX12_program_70 rfl (Or.inl h2) (ty_chSpare Wκ1 h2) (fun κ4 eκ4 => ?_)
    replace F := F κ4 eκ4
    have Wκ4 : zW C n0 κ4 := zW_ur Wκ1 eκ4 (fun t ht => by cases ht; exact ⟨by decide, (ty_chSpare Wκ1 h2)⟩)
    have Mκ4 : zM (zn κ1) κ1 κ4 := by rw [eκ4]; exact zM.of rfl rfl rfl
    replace F := F Wκ4
    refine y_aln dX12_program_73 rfl ?_
    refine y_aln dX12_program_74 rfl ?_
    have h6 := (ztm Wκ1 Mκ4 Tv2_3)
    have h7 := (ztm Wκ1 Mκ4 h2)
    refine pf_X12_23 Wκ4 dX12_program_75 rfl (Or.inl h7) h6 (fun κ5 eκ5 => ?_)
    replace F := F κ5 eκ5
    have Wκ5 : zW C n0 κ5 := zW_ur Wκ4 eκ5 (fun t ht => by cases ht; exact ⟨by decide, h6⟩)
    have Mκ5 : zM (zn κ4) κ4 κ5 := by rw [eκ5]; exact zM.of rfl rfl rfl
    replace F := F Wκ5
    refine y_aln dX12_program_78 rfl ?_
    refine y_ic dX12_program_79 zi_1 ?_
    have h9 := (ztm Wκ4 Mκ5 h7)
    refine pf_X12_135 Wκ5 dX12_program_80 rfl (nb_nar nb_1) (Or.inl h9) (fun κ8 eκ8 => ?_)
    replace F := F κ8 eκ8
    have Wκ8 : zW C n0 κ8 := zW_ui Wκ5 eκ8 (fun _ => nb_1)
    have Mκ8 : zM (zn κ5) κ5 κ8 := by rw [eκ8]; exact zM.of rfl rfl rfl
    replace F := F Wκ8
    refine y_aln dX12_program_83 rfl ?_
    have h10 := (ztm Wκ5 Mκ8 h9)
    refine gf_X12_49 Wκ8 dX12_program_84 rfl h10 ?_
    refine y_ic dX12_program_87 zi_0 ?_
    refine pf_X12_139 Wκ8 dX12_program_88 rfl (nb_nar nb_0) (Or.inl (ty_chAtlas Wκ8 h10)) (fun κ11 eκ11 => ?_)
    replace F := F κ11 eκ11
    have Wκ11 : zW C n0 κ11 := zW_ui Wκ8 eκ11 (fun _ => nb_0)
    have Mκ11 : zM (zn κ8) κ8 κ11 := by rw [eκ11]; exact zM.of rfl rfl rfl
    replace F := F Wκ11
    refine y_aln dX12_program_91 rfl ?_
    have h12 := (ztm Wκ8 Mκ11 h10)
    refine gf_X12_61 Wκ11 dX12_program_92 rfl h12 ?_
    refine y_ic dX12_program_95 zi_0 ?_
    refine pf_X12_142 Wκ11 dX12_program_96 rfl (nb_nar nb_0) (Or.inl (ty_chSolver Wκ11 h12)) (fun κ13 eκ13 => ?_)
    replace F := F κ13 eκ13
    have Wκ13 : zW C n0 κ13 := zW_ui Wκ11 eκ13 (fun _ => nb_0)
    have Mκ13 : zM (zn κ11) κ11 κ13 := by rw [eκ13]; exact zM.of rfl rfl rfl
    replace F := F Wκ13
    refine y_aln dX12_program_99 rfl ?_
    have h14 := (ztm Wκ11 Mκ13 h12)
    refine gf_X12_61 Wκ13 dX12_program_100 rfl h14 ?_
    refine y_ic dX12_program_103 zi_0 ?_
    refine pf_X12_145 Wκ13 dX12_program_104 rfl (nb_nar nb_0) (Or.inl (ty_chSolver Wκ13 h14)) (fun κ15 eκ15 => ?_)
    replace F := F κ15 eκ15
    have Wκ15 : zW C n0 κ15 := zW_ui Wκ13 eκ15 (fun _ => nb_0)
    have Mκ15 : zM (zn κ13) κ13 κ15 := by rw [eκ15]; exact zM.of rfl rfl rfl
    replace F := F Wκ15
    refine y_aln dX12_program_107 rfl ?_
    refine y_ic dX12_program_108 zi_0 ?_
    have h17 := (ztm Wκ13 Mκ15 h14)
    refine pf_X12_148 Wκ15 dX12_program_109 rfl (nb_nar nb_0) (Or.inl h17) (fun κ16 eκ16 => ?_)
    replace F := F κ16 eκ16
    have Wκ16 : zW C n0 κ16 := zW_ui Wκ15 eκ16 (fun _ => nb_0)
    have Mκ16 : zM (zn κ15) κ15 κ16 := by rw [eκ16]; exact zM.of rfl rfl rfl
    replace F := F Wκ16
    refine y_aln dX12_program_112 rfl ?_
    have h18 := (ztm Wκ15 Mκ16 h17)
    refine gf_X12_19 Wκ16 dX12_program_113 rfl h18 ?_
    refine gf_X12_151 dX12_program_116 rfl (Or.inl (ty_chCode Wκ16 h18)) ?_
    exact y_ri Wκ16 dX12_program_119 rfl in_nar F
  · replace F := F.2 c9
    refine y_ic dX12_program_50 zi_m1 ?_
    refine y_aln dX12_program_51 rfl ?_
    have h19 := (ztm W Mκ1 Ta0)
    refine gf_X12_31 Wκ1 dX12_program_52 rfl h19 ?_
    refine gf_X12_132 dX12_program_55 rfl (Or.inl (ty_chParser Wκ1 h19)) ?_
    refine y_isub dX12_program_58 ?_
    exact y_ri Wκ1 dX12_program_59 rfl in_nar F

def w_Ch_program_19 (C : zC) (n0 : Nat) (Q : Int32 → zS → Prop)  (a0 : Nat) (a1 : Int32) (κ : zS) : Prop :=
  ∀ κ1, κ1 = ui κ taLength (zR κ chTape a0) (0 : Int32) →
  ∀ _ : zW C n0 κ1,
  (a1 = (0 : Int32) →
    w_Ch_program_43 C n0 Q  a0 a1 a0 (zI κ1 paFaultCode (zR κ1 chParser a0)) κ1) ∧
  (¬ a1 = (0 : Int32) →
    w_Ch_program_43 C n0 Q  a0 a1 a0 (0 : Int32) κ1)
theorem t_Ch_program_19 {C : zC} {n0 : Nat} {Q : Int32 → zS → Prop}   {a0 : Nat} {a1 : Int32} {κ : zS} (W : zW C n0 κ) (Ta0 : zT κ a0 = 15) (F : w_Ch_program_19 C n0 Q  a0 a1 κ) : zG C n0 15 mCh_program 19 [some (.ref a0), some (.int a1), none] [] κ (oI Q noX) := by
  unfold w_Ch_program_19 at F
  refine y_aln dX12_program_19 rfl ?_
  refine gf_X12_12 W dX12_program_20 rfl Ta0 ?_
  refine y_ic dX12_program_23 zi_0 ?_
  refine pf_X12_100 W dX12_program_24 rfl (Or.inl (ty_chTape W Ta0)) (fun κ1 eκ1 => ?_)
  replace F := F κ1 eκ1
  have Wκ1 : zW C n0 κ1 := zW_ui W eκ1 (fun h => absurd h (by decide))
  have Mκ1 : zM (zn κ) κ κ1 := by rw [eκ1]; exact zM.of rfl rfl rfl
  replace F := F Wκ1
  refine y_aln dX12_program_27 rfl ?_
  refine y_iln dX12_program_28 rfl ?_
  refine y_i (a1 = (0 : Int32)) dX12_program_29 (t := 36) rfl rfl (fun c9 => ?_) (fun c9 => ?_)
  · replace F := F.1 c9
    refine y_aln dX12_program_36 rfl ?_
    have h2 := (ztm W Mκ1 Ta0)
    refine gf_X12_31 Wκ1 dX12_program_37 rfl h2 ?_
    refine gf_X12_128 dX12_program_40 rfl (Or.inl (ty_chParser Wκ1 h2)) ?_
    exact y_k (t_Ch_program_43  Wκ1 h2 h2 F) ⟨rfl, rfl, trivial⟩
  · replace F := F.2 c9
    refine y_ic dX12_program_32 zi_0 ?_
    refine y_goto dX12_program_33 (t := 43) rfl ?_
    have h3 := (ztm W Mκ1 Ta0)
    exact y_k (t_Ch_program_43  Wκ1 h3 h3 F) ⟨rfl, rfl, trivial⟩


end
section
set_option maxHeartbeats 1600000
/-! the class: ChanceWorks.program, what it leaves -/
/-- the parser has read into the spare code -/
theorem chI_r9 {C : zC} {n0 a : Nat} {L L' : Int} {ρ : Nat → Nat} {κ τ : zS} (W : zW C n0 κ) (T : zT κ a = 15) (Z : zF (fun _ x => x = zR κ chParser a ∨ x = zR κ chTape a ∨ x = zR κ chSpare a) κ τ) (hA : (taI τ (zR κ chTape a) ∧ tokI τ (zR κ chTape a)) ∧ coI τ (zR κ chSpare a) ∧ (paL τ (zR κ chParser a) ∧ paC τ (zR κ chParser a)) ∧ zR τ paTape (zR κ chParser a) = zR κ chTape a) (hL : (zI τ taLength (zR κ chTape a)).toInt ≤ L') (I : chI9 ρ κ a L) : chI9 ρ τ a L' ∧ (∃ F, zF F κ τ) ∧ zI τ chTolds a = zI κ chTolds a := by
  obtain ⟨⟨A1, ⟨⟨A2, A3⟩, A4⟩, A5, A6⟩, B, ⟨C1, C2, C3, C4⟩, ⟨S1, S2⟩, ⟨D1, D2, D3, ⟨D4, D5⟩, D6, D7⟩, E0, L0, K0⟩ := I
  have tA := ty_chAtlas W T
  have tS := ty_chSolver W T
  have tO := ty_chOdds W T
  have tm := ty_chMachine W T
  have tP := ty_chParser W T
  have tt := ty_chTape W T
  have tp := ty_chSpare W T
  have tC := ty_chCode W T
  have no : ∀ x K, zT κ x = K → K ≠ 10 ∧ K ≠ 13 ∧ K ≠ 5 → ∀ f : Nat, ¬ (x = zR κ chParser a ∨ x = zR κ chTape a ∨ x = zR κ chSpare a) := fun x K h1 h2 f z => by
    rcases z with z | z | z
    · rw [z, tP] at h1; exact h2.1 h1.symm
    · rw [z, tt] at h1; exact h2.2.1 h1.symm
    · rw [z, tp] at h1; exact h2.2.2 h1.symm
  have nC : ∀ f : Nat, ¬ (zR κ chCode a = zR κ chParser a ∨ zR κ chCode a = zR κ chTape a ∨ zR κ chCode a = zR κ chSpare a) := fun f z => by
    rcases z with z | z | z
    · rw [z, tP] at tC; exact absurd tC (by decide)
    · rw [z, tt] at tC; exact absurd tC (by decide)
    · exact A4 z
  have E := chE_u9 W T Z (fun f _ => no a 15 T (by decide) f) E0
  have o := E.2.1
  have ma : maL κ (zR κ chMachine a) := by
    have y := B.1.2.1
    rw [B.2.1] at y
    exact y
  have hB := chB_u9 W T Z (fun f hf _ _ => o f hf) (fun f _ => no _ 3 tA (by decide) f) (fun f _ => no _ 6 (ty_atStates W tA) (by decide) f) (fun f _ => no _ 6 (ty_atEndings W tA) (by decide) f) (fun f _ => no _ 14 (ty_atWeb W tA) (by decide) f) (fun ex f _ => by rw [(B.2.2 ex).1.1]; exact nC f) (ma_u9 Z W tm (fun f _ => no _ 7 tm (by decide) f) ma) B
  have nS := no _ 12 tS (by decide)
  have hS := rs_h9 W tS C1 Z (fun f w y => no w 8 y (by decide) f) (fun f w y => no w 11 y (by decide) f) (fun f w y => no w 4 y (by decide) f) (fun f _ _ => nS f)
  have K1 := co_u9 Z W tC (fun f _ => nC f)
  have G := odd_u9 Z W tO (fun f _ => no _ 9 tO (by decide) f)
  have H := ho_u9 (M := 3000) (D := 3) (S := 8192) Z W (ty_odGroups W tO) (fun f _ => no _ 6 (ty_odGroups W tO) (by decide) f)
  have rS : ∀ f, zR τ f (zR κ chSolver a) = zR κ f (zR κ chSolver a) := fun f => Z.r (nS f)
  have iS : ∀ f, zI τ f (zR κ chSolver a) = zI κ f (zR κ chSolver a) := fun f => Z.i (nS f)
  have nv : zN τ (zR κ soVisits (zR κ chSolver a)) = zN κ (zR κ soVisits (zR κ chSolver a)) := Z.l (ty_soVisits W tS)
  have qw := (Z.row W (show zr soWorths = some 25 by decide +kernel) (by decide) (tS.trans (by decide)) (nS 0)).2.2
  rw [rS] at qw
  have nw : zN τ (zR κ soWorths (zR κ chSolver a)) = zN κ (zR κ soWorths (zR κ chSolver a)) := Z.l (ty_soWorths W tS)
  refine ⟨⟨⟨?_, ?_, ?_⟩, hB.1, ?_, ?_, ?_, E.1, ?_, ?_⟩, ⟨_, Z⟩, E.2.2⟩
  · rw [o chTape (by decide)]; exact hA.1
  · rw [o chCode (by decide), o chSpare (by decide)]
    exact ⟨⟨K1.1 A2, hA.2.1⟩, A4⟩
  · rw [o chParser (by decide), o chTape (by decide)]
    exact ⟨hA.2.2.1, hA.2.2.2⟩
  · unfold chC9
    rw [o chSolver (by decide), o chAtlas (by decide), o chShown (by decide), rS, rS, rS, Z.l (ty_soTaken W tS), hB.2.2.2 atWeb (by decide)]
    exact ⟨hS.1, C2, C3, C4⟩
  · unfold chS9
    rw [o chSolver (by decide), o chAtlas (by decide), iS, iS, rS, rS, nv, nw, qw, hB.2.2.1]
    refine ⟨fun z => ?_, fun z => ?_⟩
    · obtain ⟨x1, P9, x2, x3⟩ := S1 z
      refine ⟨x1, P9, x2, fun n hn => ?_⟩
      have y := x3 n ((hB.2.1 n).mp hn)
      exact ⟨vs_h9 W tS Z (fun f w y => no w 8 y (by decide) f) (fun f w y => no w 11 y (by decide) f) (fun f w y => no w 3 y (by decide) f) nS y.1, y.2⟩
    · obtain ⟨x1, x3⟩ := S2 z
      exact ⟨x1, fun n hn => x3 n ((hB.2.1 n).mp hn)⟩
  · unfold chD9
    rw [o chSolver (by decide), o chAtlas (by decide), o chOdds (by decide), G.2.2.2.2, G.2.2.1, G.2.2.2.1, G.1 odAtlas (by decide), G.1 odSolver (by decide), G.1 odCalc (by decide), G.1 odHeld (by decide), G.1 odGroups (by decide), rS, hB.2.2.2 atStates (by decide), hB.2.2.2 atEndings (by decide)]
    exact ⟨D1, D2, ⟨G.2.1 D3.1, D3.2⟩, ⟨H.1 D4, D5⟩, D6, D7⟩
  · rw [o chTape (by decide)]; exact hL
  · exact cK_z9 W T Z (o chSolver (by decide)) (o chOdds (by decide)) (fun b hb => no b 0 (zT_o9 W hb) (by decide) 0) (fun f _ => nS f) (Nat.le_of_eq (nE_z9 W tO Z (no _ 9 tO (by decide) 0)).symm) K0
/-- what a sound program stores -/
def swF9 (κ : zS) (a : Nat) : Nat → Nat → Prop := fun f x => (x = a ∧ (f = chCode ∨ f = chSpare ∨ f = chReady ∨ f = chPlayMade)) ∨ (x = zR κ chAtlas a ∧ f = atExplored) ∨ (x = zR κ chSolver a ∧ (f = soSolved ∨ f = soPlanned))
theorem chI_w9 {C : zC} {n0 a : Nat} {L : Int} {ρ : Nat → Nat} {κ τ : zS} (W : zW C n0 κ) (T : zT κ a = 15) (Z : zF (swF9 κ a) κ τ) (N : zN τ = zN κ) (R : ∀ f b, f ≠ chCode → f ≠ chSpare → zR τ f b = zR κ f b) (r1 : zR τ chCode a = zR κ chSpare a) (r2 : zR τ chSpare a = zR κ chCode a) (h0 : zI τ atExplored (zR κ chAtlas a) = 0) (h1 : zI τ soSolved (zR κ chSolver a) = 0) (h2 : zI τ soPlanned (zR κ chSolver a) = 0) (I : chI9 ρ κ a L) : chI9 ρ τ a L ∧ (∃ F, zF F κ τ) ∧ zI τ chTolds a = zI κ chTolds a := by
  obtain ⟨⟨A1, ⟨⟨A2, A3⟩, A4⟩, A5, A6⟩, ⟨⟨⟨b1, b2, b3, b4⟩, b5, ⟨b6, b7⟩, b8, b9⟩, c1, c2⟩, ⟨C1, C2, C3, C4⟩, _, ⟨D1, D2, D3, ⟨D4, D5⟩, D6, D7⟩, E0, L0, K0⟩ := I
  have tA := ty_chAtlas W T
  have tS := ty_chSolver W T
  have tO := ty_chOdds W T
  have tm := ty_atMachine W tA
  have no : ∀ x K, zT κ x = K → K ≠ 15 ∧ K ≠ 3 ∧ K ≠ 12 → ∀ f, ¬ swF9 κ a f x := fun x K h1 h2 f z => by
    rcases z with z | z | z
    · rw [z.1, T] at h1; exact h2.1 h1.symm
    · rw [z.1, tA] at h1; exact h2.2.1 h1.symm
    · rw [z.1, tS] at h1; exact h2.2.2 h1.symm
  have nS : ∀ f, f ≠ soSolved → f ≠ soPlanned → ¬ swF9 κ a f (zR κ chSolver a) := fun f h1 h2 z => by
    rcases z with z | z | z
    · have y := z.1
      rw [y, T] at tS; exact absurd tS (by decide)
    · have y := z.1
      rw [y, tA] at tS; exact absurd tS (by decide)
    · exact z.2.elim h1 h2
  have it : zI τ chTolds a = zI κ chTolds a := Z.i (fun z => by
    rcases z with z | z | z
    · exact absurd z.2 (by decide)
    · exact absurd z.2 (by decide)
    · exact absurd z.2 (by decide))
  have hS := rs_h9 W tS C1 Z (fun f w y => no w 8 y (by decide) f) (fun f w y => no w 11 y (by decide) f) (fun f w y => no w 4 y (by decide) f) nS
  have A := ta_u9 Z W (ty_chTape W T) (fun f _ => no _ 13 (ty_chTape W T) (by decide) f) A1
  have P := pa_u9 Z W (ty_chParser W T) (fun f _ => no _ 10 (ty_chParser W T) (by decide) f) A5
  have K1 := co_u9 Z W (ty_chCode W T) (fun f _ => no _ 5 (ty_chCode W T) (by decide) f)
  have K2 := co_u9 Z W (ty_chSpare W T) (fun f _ => no _ 5 (ty_chSpare W T) (by decide) f)
  have G := odd_u9 Z W tO (fun f _ => no _ 9 tO (by decide) f)
  have H := ho_u9 (M := 3000) (D := 3) (S := 8192) Z W (ty_odGroups W tO) (fun f _ => no _ 6 (ty_odGroups W tO) (by decide) f)
  have Hs := ho_u9 (M := 1000) (D := 142) (S := 2048) Z W (ty_atStates W tA) (fun f _ => no _ 6 (ty_atStates W tA) (by decide) f)
  have He := ho_u9 (M := 1000) (D := 35) (S := 2048) Z W (ty_atEndings W tA) (fun f _ => no _ 6 (ty_atEndings W tA) (by decide) f)
  have V := we_u9 Z W (ty_atWeb W tA) (fun f _ => no _ 14 (ty_atWeb W tA) (by decide) f)
  have mm := ma_u9 Z W tm (fun f _ => no _ 7 tm (by decide) f) b5
  have q : ∀ f b, f / 100 ≠ 15 → zR τ f b = zR κ f b := fun f b hf => R f b (fun e => hf (by rw [e]; rfl)) (fun e => hf (by rw [e]; rfl))
  refine ⟨⟨⟨?_, ?_, ?_⟩, ?_, ?_, ?_, ?_, ?_, ?_, ?_⟩, ⟨_, Z⟩, it⟩
  · rw [R chTape a (by decide) (by decide)]; exact A.1
  · rw [r1, r2]
    exact ⟨⟨K2.1 A3, K1.1 A2⟩, A4.symm⟩
  · rw [R chParser a (by decide) (by decide), R chTape a (by decide) (by decide)]
    exact ⟨P.1, P.2.trans A6⟩
  · unfold chB9 atI
    rw [R chAtlas a (by decide) (by decide), R chMachine a (by decide) (by decide), q atMachine _ (by decide), q atWeb _ (by decide), h0]
    refine ⟨⟨⟨?_, ?_, ⟨?_, ?_⟩, ?_⟩, mm, ⟨b6.elim (fun z => Or.inl (V.2.1 z)) (fun z => Or.inr (V.1 z)), V.2.2 b7⟩, nb_0, fun z => absurd rfl z⟩, c1, fun z => absurd rfl z⟩
    · unfold atU atM at b1 ⊢
      rw [q atPlan _ (by decide), q atFirsts _ (by decide), q atTotals _ (by decide), q atGains _ (by decide), q atChooses _ (by decide), q atHopeless _ (by decide), N]
      exact b1
    · unfold atL at b2 ⊢
      rw [q atSorts _ (by decide), q atNumbers _ (by decide), q atWeights _ (by decide), N]
      exact b2
    · rw [q atStates _ (by decide)]; exact Hs.1 b3.1
    · rw [q atEndings _ (by decide)]; exact He.1 b3.2
    · rw [q atStates _ (by decide), q atEndings _ (by decide)]; exact b4
  · unfold chC9
    rw [R chSolver a (by decide) (by decide), R chAtlas a (by decide) (by decide), R chShown a (by decide) (by decide), q soTaken _ (by decide), q soAtlas _ (by decide), q soWeb _ (by decide), q atWeb _ (by decide), N]
    exact ⟨hS.1, C2, C3, C4⟩
  · unfold chS9
    rw [R chSolver a (by decide) (by decide), h1, h2]
    exact ⟨fun z => absurd rfl z, fun z => absurd rfl z⟩
  · unfold chD9
    rw [R chSolver a (by decide) (by decide), R chAtlas a (by decide) (by decide), R chOdds a (by decide) (by decide), G.2.2.2.2, G.2.2.1, G.2.2.2.1, G.1 odAtlas (by decide), G.1 odSolver (by decide), G.1 odCalc (by decide), G.1 odHeld (by decide), G.1 odGroups (by decide), q soCalc _ (by decide), q atStates _ (by decide), q atEndings _ (by decide)]
    exact ⟨D1, D2, ⟨G.2.1 D3.1, D3.2⟩, ⟨H.1 D4, D5⟩, D6, D7⟩
  · unfold chE9 dwI9
    rw [R chTold a (by decide) (by decide), R chRecord a (by decide) (by decide), R chLastShared a (by decide) (by decide), R chDrawnWeights a (by decide) (by decide), R chDrawnTotals a (by decide) (by decide), it, N]
    exact E0
  · rw [R chTape a (by decide) (by decide), A.2]; exact L0
  · exact cK_z9 W T Z (R chSolver a (by decide) (by decide)) (R chOdds a (by decide) (by decide)) (fun b hb => no b 0 (zT_o9 W hb) (by decide) 0) (fun f hf => nS f (by rcases hf with y | y | y <;> rw [y] <;> decide) (by rcases hf with y | y | y <;> rw [y] <;> decide)) (Nat.le_of_eq (nE_z9 W tO Z (no _ 9 tO (by decide) _)).symm) K0
/-- behind the parser: faultCode stored, and a sound program taken -/
theorem pg_f9 {C : zC} {n0 a : Nat} {L : Int} {ρ : Nat → Nat} {κ : zS} {x y : Int32} (W : zW C n0 κ) (T : zT κ a = 15) (hl : zI κ taLength (zR κ chTape a) = 0) (I : chI9 ρ κ a L) : w_Ch_program_43 C n0 (fun v κ' => chI9 ρ κ' a L ∧ (∃ F, zF F κ κ') ∧ (oC9 κ' a = ((fun _ => 0, 0, y) : Ob9) ∧ (x = 0 → v = (-1 : Int32) - zI κ paFaultPlace (zR κ chParser a)) ∧ (¬ x = 0 → v = zI κ coStatements (zR κ chSpare a)) ∧ (x = 0 → kC7 κ κ' a ∧ kA8 κ κ' a) ∧ (¬ x = 0 → zI κ' chReady a ≠ 0 ∧ cu7 κ' (zR κ' chCode a) = cu7 κ (zR κ chSpare a) ∧ zI κ' atExplored (zR κ' chAtlas a) = 0 ∧ tC21 κ' a = tC21 κ a ∧ zI κ' chPlayMade a = 0 ∧ pS16 κ κ' a)) ∧ zc κ' = zc κ) a x a y κ := by
  unfold w_Ch_program_43
  intro κ3 e3 W3
  have Z3 : zF (fun f b => b = a ∧ f = chFaultCode) κ κ3 := by rw [e3]; exact zF_ui ⟨rfl, rfl⟩
  have R3 : zR κ3 = zR κ := by rw [e3]; rfl
  have N3 : zN κ3 = zN κ := by rw [e3]; rfl
  have i3 : zI κ3 chTolds a = zI κ chTolds a := by rw [e3]; rfl
  have I3 : chI9 ρ κ3 a L := chI_o9 W T Z3 (fun f x z => z.1) (fun f _ _ _ => by rw [R3]) (by
    have E := I.2.2.2.2.2.1
    unfold chE9 dwI9 at E ⊢
    rw [R3, N3, i3]
    exact E) I
  have T3 := Z3.t T (by decide)
  have l3 : zI κ3 taLength (zR κ chTape a) = 0 := by rw [e3]; exact hl
  have f3 : zI κ3 chFaultCode a = y := by rw [e3]; exact if_pos ⟨rfl, rfl⟩
  have o3 : oC9 κ3 a = ((fun _ => 0, 0, y) : Ob9) := by
    unfold oC9
    rw [R3, l3, f3]
    exact mk_09
  have p3 : zI κ3 paFaultPlace (zR κ chParser a) = zI κ paFaultPlace (zR κ chParser a) := by rw [e3]; rfl
  refine ⟨fun c => ?_, fun c => ⟨I3, ⟨_, Z3⟩, ⟨o3, fun _ => by rw [R3, p3], fun z => absurd c z, fun _ => ⟨kC_z7 W T Z3 (fun z => absurd z.2 (by decide)) (fun z => absurd z.2 (by decide)) (fun z => absurd z.2 (by decide)) (fun z => absurd z.2 (by decide)) (fun z => absurd z.2 (by decide)) (fun z => absurd z.2 (by decide)) (fun z => absurd z.2 (by decide)) (fun f hf z => absurd hf (by rw [z.2]; decide)), ⟨kA_z7 W T Z3 (fun z => absurd z.2 (by decide)) (fun f hf _ z => absurd hf (by rw [z.2]; decide)) (fun f hf z => absurd hf (by rw [z.2]; decide)) (fun f hf z => absurd hf (by rw [z.2]; decide)), kA_u16 W T Z3 (fun f x z => by rw [z.1, T]; decide) (fun f q z => by rcases q with q | q | q | q <;> rw [q] at z <;> exact absurd z.2 (by decide))⟩⟩, fun z => absurd c z⟩, by rw [e3]; rfl⟩⟩
  intro v ev κ4 e4 W4 κ5 e5 W5 κ8 e8 W8 κ11 e11 W11 κ13 e13 W13 κ15 e15 W15 κ16 e16 W16
  have r4 : ∀ f b, f ≠ chCode → zR κ4 f b = zR κ3 f b := fun f b h => by rw [e4]; exact if_neg (fun z => h z.1)
  have r5 : ∀ f b, f ≠ chCode → f ≠ chSpare → zR κ5 f b = zR κ3 f b := fun f b h1 h2 => by rw [e5]; exact (if_neg (fun z => h2 z.1)).trans (r4 f b h1)
  have R8 : zR κ8 = zR κ5 := by rw [e8]; rfl
  have R11 : zR κ11 = zR κ5 := by rw [e11]; exact R8
  have R13 : zR κ13 = zR κ5 := by rw [e13]; exact R11
  have R15 : zR κ15 = zR κ5 := by rw [e15]; exact R13
  have R16 : zR κ16 = zR κ5 := by rw [e16]; exact R15
  have at5 : zR κ5 chAtlas a = zR κ3 chAtlas a := r5 _ _ (by decide) (by decide)
  have so5 : zR κ5 chSolver a = zR κ3 chSolver a := r5 _ _ (by decide) (by decide)
  rw [R8, at5] at e11
  rw [R11, so5] at e13
  rw [R13, so5] at e15
  have Z4 : zF (swF9 κ3 a) κ3 κ4 := by rw [e4]; exact zF_ur (Or.inl ⟨rfl, Or.inl rfl⟩) (show zr chCode = some 5 by decide +kernel) (by decide)
  have Z5 : zF (swF9 κ3 a) κ4 κ5 := by rw [e5]; exact zF_ur (Or.inl ⟨rfl, Or.inr (Or.inl rfl)⟩) (show zr chSpare = some 5 by decide +kernel) (by decide)
  have Z8 : zF (swF9 κ3 a) κ5 κ8 := by rw [e8]; exact zF_ui (Or.inl ⟨rfl, Or.inr (Or.inr (Or.inl rfl))⟩)
  have Z11 : zF (swF9 κ3 a) κ8 κ11 := by rw [e11]; exact zF_ui (Or.inr (Or.inl ⟨rfl, rfl⟩))
  have Z13 : zF (swF9 κ3 a) κ11 κ13 := by rw [e13]; exact zF_ui (Or.inr (Or.inr ⟨rfl, Or.inl rfl⟩))
  have Z15 : zF (swF9 κ3 a) κ13 κ15 := by rw [e15]; exact zF_ui (Or.inr (Or.inr ⟨rfl, Or.inr rfl⟩))
  have Z16 : zF (swF9 κ3 a) κ15 κ16 := by rw [e16]; exact zF_ui (Or.inl ⟨rfl, Or.inr (Or.inr (Or.inr rfl))⟩)
  have Z := (((((Z4.tr Z5).tr Z8).tr Z11).tr Z13).tr Z15).tr Z16
  have N16 : zN κ16 = zN κ3 := by rw [e16, e15, e13, e11, e8, e5, e4]; rfl
  have h0 : zI κ16 atExplored (zR κ3 chAtlas a) = 0 := by
    have y : zI κ11 atExplored (zR κ3 chAtlas a) = 0 := by rw [e11]; exact if_pos ⟨rfl, rfl⟩
    rw [e16, e15, e13]
    exact y
  have h1 : zI κ16 soSolved (zR κ3 chSolver a) = 0 := by
    have y : zI κ13 soSolved (zR κ3 chSolver a) = 0 := by rw [e13]; exact if_pos ⟨rfl, rfl⟩
    rw [e16, e15]
    exact y
  have h2 : zI κ16 soPlanned (zR κ3 chSolver a) = 0 := by
    have y : zI κ15 soPlanned (zR κ3 chSolver a) = 0 := by rw [e15]; exact if_pos ⟨rfl, rfl⟩
    rw [e16]
    exact y
  have c5 : zR κ5 chCode a = zR κ3 chSpare a := by
    have y : zR κ4 chCode a = zR κ3 chSpare a := by rw [e4]; exact if_pos ⟨rfl, rfl⟩
    rw [e5]
    exact y
  have s5 : zR κ5 chSpare a = zR κ3 chCode a := by
    rw [e5, ← ev]
    exact if_pos ⟨rfl, rfl⟩
  have l16 : zI κ16 taLength (zR κ chTape a) = 0 := by
    rw [e16, e15, e13, e11, e8, e5, e4]
    exact l3
  have f16 : zI κ16 chFaultCode a = y := by
    rw [e16, e15, e13, e11, e8, e5, e4]
    exact f3
  have o16 : oC9 κ16 a = ((fun _ => 0, 0, y) : Ob9) := by
    unfold oC9
    rw [R16, r5 chTape a (by decide) (by decide), R3, l16, f16]
    exact mk_09
  have v16 : zI κ16 coStatements (zR κ16 chCode a) = zI κ coStatements (zR κ chSpare a) := by
    rw [R16, c5, R3, e16, e15, e13, e11, e8, e5, e4, e3]
    rfl
  have n16 : un9 (swF9 κ3 a) (zR κ3 chSpare a) 5 := fun f hf z => by
    rcases z with ⟨_, z | z | z | z⟩ | ⟨_, z⟩ | ⟨_, z | z⟩ <;> exact absurd hf (by rw [z]; decide)
  have y16 : zI κ16 chReady a ≠ 0 := by
    have y8 : zI κ8 chReady a = 1 := by rw [e8]; exact if_pos ⟨rfl, rfl⟩
    have y : zI κ16 chReady a = 1 := by
      rw [e16, e15, e13, e11]
      exact y8
    rw [y]
    decide
  have p16 : zI κ16 chPlayMade a = 0 := by rw [e16]; exact if_pos ⟨rfl, rfl⟩
  have t16 : tC21 κ16 a = tC21 κ a := (tC_z21 W3 T3 Z (fun z => by rcases z with ⟨_, z | z | z | z⟩ | ⟨_, z⟩ | ⟨_, z | z⟩ <;> exact absurd z (by decide)) (fun z => by rcases z with ⟨_, z | z | z | z⟩ | ⟨_, z⟩ | ⟨_, z | z⟩ <;> exact absurd z (by decide))).trans (tC_z21 W T Z3 (fun z => absurd z.2 (by decide)) (fun z => absurd z.2 (by decide)))
  have ks16 : kS16 κ κ16 a := kS_t16 (kS_z16 W Z3 (fun f w e z => by rw [z.1, T] at e; exact absurd e (by decide)) (fun f w e z => by rw [z.1, T] at e; exact absurd e (by decide)) (fun z => absurd z.2 (by decide))) (kS_z16 W3 Z (fun f w e z => by
    rcases z with z | z | z
    · rw [z.1, T3] at e; exact absurd e (by decide)
    · rw [z.1, ty_chAtlas W3 T3] at e; exact absurd e (by decide)
    · rw [z.1, ty_chSolver W3 T3] at e; exact absurd e (by decide)) (fun f w e z => by
    rcases z with z | z | z
    · rw [z.1, T3] at e; exact absurd e (by decide)
    · rw [z.1, ty_chAtlas W3 T3] at e; exact absurd e (by decide)
    · rw [z.1, ty_chSolver W3 T3] at e; exact absurd e (by decide)) (fun z => by rcases z with ⟨_, z | z | z | z⟩ | ⟨_, z⟩ | ⟨_, z | z⟩ <;> exact absurd z (by decide)))
  have K := chI_w9 W3 T3 Z N16 (fun f b g1 g2 => by rw [R16]; exact r5 f b g1 g2) (by rw [R16]; exact c5) (by rw [R16]; exact s5) h0 h1 h2 I3
  exact ⟨K.1, ⟨fun _ _ => True, (Z3.mono (fun _ _ _ => trivial)).tr (Z.mono (fun _ _ _ => trivial))⟩, ⟨o16, fun z => absurd z c, fun _ => v16, fun z => absurd z c, fun _ => ⟨y16, by rw [R16, c5]; exact (cu_f7 W3 (ty_chSpare W3 T3) Z n16).trans (by rw [R3]; exact cu_f7 W (ty_chSpare W T) Z3 (fun f hf z => absurd hf (by rw [z.2]; decide))), by rw [R16, at5]; exact h0, t16, p16, ⟨by rw [R16, so5]; exact h1, by rw [R16, so5]; exact h2⟩, ks16⟩⟩, by rw [e16, e15, e13, e11, e8, e5, e4, e3]; rfl⟩
/-- behind the parser, from its own end -/
def pgR9 (κ κ1 : zS) (a : Nat) (x v : Int32) (κ' : zS) : Prop := oC9 κ' a = ((fun _ => 0, 0, if x = 0 then zI κ1 paFaultCode (zR κ chParser a) else 0) : Ob9) ∧ (x = 0 → v = (-1 : Int32) - zI κ1 paFaultPlace (zR κ chParser a)) ∧ (¬ x = 0 → v = zI κ1 coStatements (zR κ chSpare a)) ∧ (x = 0 → kC7 κ κ' a ∧ kA8 κ κ' a) ∧ (¬ x = 0 → zI κ' chReady a ≠ 0 ∧ cu7 κ' (zR κ' chCode a) = cu7 κ1 (zR κ chSpare a) ∧ zI κ' atExplored (zR κ' chAtlas a) = 0 ∧ tC21 κ' a = tC21 κ a ∧ zI κ' chPlayMade a = 0 ∧ pS16 κ κ' a)
theorem pg_w9 {C : zC} {n0 a : Nat} {L : Int} {ρ : Nat → Nat} {κ κ1 : zS} {x : Int32} (W : zW C n0 κ) (T : zT κ a = 15) (h0 : 0 ≤ L) (I : chI9 ρ κ a L) (W1 : zW C n0 κ1) (F : rdF κ κ1 (zR κ chParser a) (zR κ chSpare a) ∧ paI κ1 (zR κ chParser a)) : w_Ch_program_19 C n0 (fun v κ' => chI9 ρ κ' a L ∧ (∃ F, zF F κ κ') ∧ pgR9 κ κ1 a x v κ' ∧ zc κ' = zc κ1) a x κ1 := by
  obtain ⟨⟨Z1, f2, f3, f4⟩, ⟨p1, p2, p3⟩, p4, p5, p6⟩ := F
  have lk := I.1.2.2.2
  rw [lk] at Z1 f2
  rw [f2] at p1 p2
  rw [f3] at p4
  have tt := ty_chTape W T
  have na : ∀ f : Nat, ¬ (a = zR κ chParser a ∨ a = zR κ chTape a ∨ a = zR κ chSpare a) := fun f z => by
    have y1 := ty_chParser W T
    have y3 := ty_chSpare W T
    rcases z with z | z | z
    · rw [← z, T] at y1; exact absurd y1 (by decide)
    · rw [← z, T] at tt; exact absurd tt (by decide)
    · rw [← z, T] at y3; exact absurd y3 (by decide)
  have rt : zR κ1 chTape a = zR κ chTape a := Z1.r (na 0)
  unfold w_Ch_program_19
  intro κ2 e2 W2
  rw [rt] at e2
  have Z2 : zF (fun _ x => x = zR κ chParser a ∨ x = zR κ chTape a ∨ x = zR κ chSpare a) κ κ2 := Z1.tr (by rw [e2]; exact zF_ui (Or.inr (Or.inl rfl)))
  have R2 : zR κ2 = zR κ1 := by rw [e2]; rfl
  have N2 : zN κ2 = zN κ1 := by rw [e2]; rfl
  have il : zI κ2 taLength (zR κ chTape a) = 0 := by rw [e2]; exact if_pos ⟨rfl, rfl⟩
  have ix : ∀ f b, f ≠ taLength → zI κ2 f b = zI κ1 f b := fun f b h => by rw [e2]; exact if_neg (fun z => h z.1)
  have q1 : taI κ2 (zR κ chTape a) := by
    have B := p1.1
    unfold taI at p1 ⊢
    rw [R2, N2, il, ix taTotal _ (by decide), t0i]
    exact ⟨⟨by decide, by omega, B.2.2⟩, p1.2⟩
  have q2 : tokI κ2 (zR κ chTape a) := by rw [e2]; exact p2
  have q4 : coI κ2 (zR κ chSpare a) := by
    have i5 : ∀ f, f ∈ coIf → f ≠ taLength := by decide
    exact coI_g p4 (fun f hf => ix f _ (i5 f hf)) (fun f _ => by rw [R2]) (fun f _ => by rw [N2]) (fun f _ => by rw [e2]; rfl)
  have q5 : paL κ2 (zR κ chParser a) := by
    unfold paL at p5 ⊢
    rw [R2, N2]
    exact p5
  have q6 : paC κ2 (zR κ chParser a) := by
    unfold paC at p6 ⊢
    rw [R2, N2, ix paOwns _ (by decide), ix paBlocks _ (by decide), ix paWaits _ (by decide)]
    exact p6
  have I2 := chI_r9 (L' := L) W T Z2 ⟨⟨q1, q2⟩, q4, ⟨q5, q6⟩, by rw [R2]; exact f2⟩ (by rw [il]; exact h0) I
  have T2 := Z2.t T (by decide)
  have pr1 : zR κ1 chParser a = zR κ chParser a := Z1.r (na 0)
  have ps1 : zR κ1 chSpare a = zR κ chSpare a := Z1.r (na 0)
  have kk : kC7 κ κ2 a := kC_z7 W T Z2 (na 0) (na 0) (na 0) (na 0) (na 0) (na 0) (na 0) (fun f _ z => by
    have tc := ty_chCode W T
    have y1 := ty_chParser W T
    rcases z with z | z | z
    · rw [z, y1] at tc; exact absurd tc (by decide)
    · rw [z, tt] at tc; exact absurd tc (by decide)
    · exact I.1.2.1.2 z)
  have tA := ty_chAtlas W T
  have nz : ∀ x K, zT κ x = K → K ≠ 10 ∧ K ≠ 13 ∧ K ≠ 5 → ∀ _ : Nat, ¬ (x = zR κ chParser a ∨ x = zR κ chTape a ∨ x = zR κ chSpare a) := fun x K h1 h2 _ z => by
    have y1 := ty_chParser W T
    have y3 := ty_chSpare W T
    rcases z with z | z | z
    · rw [z, y1] at h1; exact h2.1 h1.symm
    · rw [z, tt] at h1; exact h2.2.1 h1.symm
    · rw [z, y3] at h1; exact h2.2.2 h1.symm
  have ka : kA8 κ κ2 a := ⟨kA_z7 W T Z2 (na 0) (fun f _ _ => nz _ 3 tA (by decide) f) (fun f _ => nz _ 6 (ty_atStates W tA) (by decide) f) (fun f _ => nz _ 6 (ty_atEndings W tA) (by decide) f), kA_u16 W T Z2 (fun f x z => by
    rcases z with z | z | z
    · rw [z, ty_chParser W T]; decide
    · rw [z, tt]; decide
    · rw [z, ty_chSpare W T]; decide) (fun _ _ => na 0)⟩
  have cc : cu7 κ2 (zR κ chSpare a) = cu7 κ1 (zR κ chSpare a) := cu_f7 (F := fun f _ => f = taLength) W1 (Z1.t (ty_chSpare W T) (by decide)) (by rw [e2]; exact zF_ui rfl) (fun f hf z => absurd hf (by rw [z]; decide))
  have K : ∀ y, y = (if x = 0 then zI κ1 paFaultCode (zR κ chParser a) else 0) → w_Ch_program_43 C n0 (fun v κ' => chI9 ρ κ' a L ∧ (∃ F, zF F κ κ') ∧ pgR9 κ κ1 a x v κ' ∧ zc κ' = zc κ1) a x a y κ2 := fun y hy => by
    have z2 : zc κ2 = zc κ1 := by rw [e2]; rfl
    have k := pg_f9 (x := x) (y := y) W2 T2 (by rw [R2, rt]; exact il) I2.1
    unfold w_Ch_program_43 at k ⊢
    intro κ3 e3 W3
    obtain ⟨k1, k2⟩ := k κ3 e3 W3
    refine ⟨fun c v ev κ4 e4 W4 κ5 e5 W5 κ8 e8 W8 κ11 e11 W11 κ13 e13 W13 κ15 e15 W15 κ16 e16 W16 => ?_, fun c => ?_⟩
    · obtain ⟨k3, ⟨F3, k4⟩, ⟨k5, k7, k8, k9, k10⟩, k6⟩ := k1 c v ev κ4 e4 W4 κ5 e5 W5 κ8 e8 W8 κ11 e11 W11 κ13 e13 W13 κ15 e15 W15 κ16 e16 W16
      exact ⟨k3, ⟨fun _ _ => True, (Z2.mono (fun _ _ _ => trivial)).tr (k4.mono (fun _ _ _ => trivial))⟩, ⟨by rw [k5, hy], fun q => by rw [k7 q, R2, pr1, ix _ _ (by decide)], fun q => by rw [k8 q, R2, ps1, ix _ _ (by decide)], fun q => ⟨kC_t7 kk (k9 q).1, kA_t8 ka (k9 q).2⟩, fun q => ⟨(k10 q).1, (k10 q).2.1.trans (by rw [R2, ps1]; exact cc), (k10 q).2.2.1, (k10 q).2.2.2.1.trans kk.2.2.1, (k10 q).2.2.2.2.1, (k10 q).2.2.2.2.2.1, kS_t16 ka.2.2.2.1 (k10 q).2.2.2.2.2.2⟩⟩, k6.trans z2⟩
    · obtain ⟨k3, ⟨F3, k4⟩, ⟨k5, k7, k8, k9, k10⟩, k6⟩ := k2 c
      exact ⟨k3, ⟨fun _ _ => True, (Z2.mono (fun _ _ _ => trivial)).tr (k4.mono (fun _ _ _ => trivial))⟩, ⟨by rw [k5, hy], fun q => by rw [k7 q, R2, pr1, ix _ _ (by decide)], fun q => by rw [k8 q, R2, ps1, ix _ _ (by decide)], fun q => ⟨kC_t7 kk (k9 q).1, kA_t8 ka (k9 q).2⟩, fun q => ⟨(k10 q).1, (k10 q).2.1.trans (by rw [R2, ps1]; exact cc), (k10 q).2.2.1, (k10 q).2.2.2.1.trans kk.2.2.1, (k10 q).2.2.2.2.1, (k10 q).2.2.2.2.2.1, kS_t16 ka.2.2.2.1 (k10 q).2.2.2.2.2.2⟩⟩, k6.trans z2⟩
  exact ⟨fun c => K _ (by rw [if_pos c, R2, pr1, ix _ _ (by decide)]), fun c => K _ (by rw [if_neg c])⟩

end
section
set_option maxHeartbeats 1600000
/-! runs that make nothing don't ask how many cells there are -/
def fg9 (g : dG) : dG := (g.1, (none, g.2.1.2), g.2.2)
theorem n_getf9 {E : dE} {o len idx cs ss : Nat} {st : List Value} {h : dH} : dgetf E o len idx st (none, h.2) cs ss = (dgetf E o len idx st h cs ss).map fg9 := by
  unfold dgetf
  dsimp only
  repeat' split
  all_goals first | rfl | simp [fg9, Function.comp_def]
theorem n_gets9 {E : dE} {o len idx cs ss : Nat} {st : List Value} {h : dH} : dgets E o len idx st (none, h.2) cs ss = (dgets E o len idx st h cs ss).map fg9 := by
  unfold dgets
  repeat' split
  all_goals first | rfl | simp [fg9, Function.comp_def]
theorem n_putf9 {E : dE} {b o len idx cs ss : Nat} {ini : Bool} {st : List Value} {h : dH} : dputf E b o len idx ini st (none, h.2) cs ss = (dputf E b o len idx ini st h cs ss).map fg9 := by
  unfold dputf
  dsimp only
  repeat' split
  all_goals first | rfl | simp [fg9, Function.comp_def]
theorem n_aldI9 {t len cs ss : Nat} {st : List Value} {h : dH} : daldI t len st (none, h.2) cs ss = (daldI t len st h cs ss).map fg9 := by
  unfold daldI
  dsimp only
  repeat' split
  all_goals first | rfl | simp [fg9, Function.comp_def]
theorem n_aldL9 {len cs ss : Nat} {st : List Value} {h : dH} : daldL len st (none, h.2) cs ss = (daldL len st h cs ss).map fg9 := by
  unfold daldL
  dsimp only
  repeat' split
  all_goals first | rfl | simp [fg9, Function.comp_def]
theorem n_astI9 {b t len cs ss : Nat} {nr : Int32 → Int32} {st : List Value} {h : dH} : dastI b t len nr st (none, h.2) cs ss = (dastI b t len nr st h cs ss).map fg9 := by
  unfold dastI
  dsimp only
  repeat' split
  all_goals first | rfl | simp [fg9, Function.comp_def]
theorem n_astL9 {b len cs ss : Nat} {st : List Value} {h : dH} : dastL b len st (none, h.2) cs ss = (dastL b len st h cs ss).map fg9 := by
  unfold dastL
  dsimp only
  repeat' split
  all_goals first | rfl | simp [fg9, Function.comp_def]
theorem n_alen9 {len cs ss : Nat} {st : List Value} {h : dH} : dalen len st (none, h.2) cs ss = (dalen len st h cs ss).map fg9 := by
  unfold dalen
  dsimp only
  repeat' split
  all_goals first | rfl | simp [fg9, Function.comp_def]
theorem n_slen9 {E : dE} {len cs ss : Nat} {st : List Value} {h : dH} : dslen E len st (none, h.2) cs ss = (dslen E len st h cs ss).map fg9 := by
  unfold dslen
  repeat' split
  all_goals first | rfl | simp [fg9, Function.comp_def]
theorem n_sld9 {E : dE} {len cs ss : Nat} {st : List Value} {h : dH} : dsld E len st (none, h.2) cs ss = (dsld E len st h cs ss).map fg9 := by
  unfold dsld
  repeat' split
  all_goals first | rfl | simp [fg9, Function.comp_def]
theorem n_ldc9 {len n cs ss : Nat} {q : Option Value} {st : List Value} {h : dH} : dldc len n q st (none, h.2) cs ss = (dldc len n q st h cs ss).map fg9 := by
  unfold dldc
  repeat' split
  all_goals first | rfl | simp [fg9, Function.comp_def]
theorem n_aldQ9 {len cs ss : Nat} {st : List Value} {h : dH} : daldQ len st (none, h.2) cs ss = (daldQ len st h cs ss).map fg9 := by
  unfold daldQ
  dsimp only
  repeat' split
  all_goals first | rfl | simp [fg9, Function.comp_def]
theorem n_astQ9 {b len cs ss : Nat} {st : List Value} {h : dH} : dastQ b len st (none, h.2) cs ss = (dastQ b len st h cs ss).map fg9 := by
  unfold dastQ
  dsimp only
  repeat' split
  all_goals first | rfl | simp [fg9, Function.comp_def]
theorem n_min9 {len d cs ss : Nat} {st : List Value} {h : dH} : dmin len d st (none, h.2) cs ss = (dmin len d st h cs ss).map fg9 := by
  unfold dmin
  repeat' split
  all_goals first | rfl | simp [fg9, Function.comp_def]
theorem n_max9 {len d cs ss : Nat} {st : List Value} {h : dH} : dmax len d st (none, h.2) cs ss = (dmax len d st h cs ss).map fg9 := by
  unfold dmax
  repeat' split
  all_goals first | rfl | simp [fg9, Function.comp_def]
theorem n_minL9 {len d cs ss : Nat} {st : List Value} {h : dH} : dminL len d st (none, h.2) cs ss = (dminL len d st h cs ss).map fg9 := by
  unfold dminL
  repeat' split
  all_goals first | rfl | simp [fg9, Function.comp_def]
theorem n_absL9 {len d cs ss : Nat} {st : List Value} {h : dH} : dabsL len d st (none, h.2) cs ss = (dabsL len d st h cs ss).map fg9 := by
  unfold dabsL
  repeat' split
  all_goals first | rfl | simp [fg9, Function.comp_def]
theorem n_cpy9 {b len d cs ss : Nat} {st : List Value} {h : dH} : dcpy b len d st (none, h.2) cs ss = (dcpy b len d st h cs ss).map fg9 := by
  unfold dcpy
  dsimp only
  repeat' split
  all_goals first | rfl | simp [fg9, Function.comp_def]
theorem n_oi09 {d len cs ss : Nat} {st : List Value} {h : dH} : doi0 d len st (none, h.2) cs ss = (doi0 d len st h cs ss).map fg9 := by
  unfold doi0
  repeat' split
  all_goals first | rfl | simp [fg9, Function.comp_def]
theorem n_bi9 {E : dE} {b d o len idx cs ss : Nat} {st : List Value} {h : dH} : dbi E b d o len idx st (none, h.2) cs ss = (dbi E b d o len idx st h cs ss).map fg9 := by
  unfold dbi
  rw [n_min9 (h := h), n_max9 (h := h), n_minL9 (h := h), n_absL9 (h := h), n_cpy9 (h := h)]
  split <;> rfl
theorem n_oi9 {E : dE} {d o len idx cs ss : Nat} {st : List Value} {h : dH} : doi E d o len idx st (none, h.2) cs ss = (doi E d o len idx st h cs ss).map fg9 := by
  unfold doi
  rw [n_oi09 (h := h)]
  split <;> rfl
theorem n_or9 {x y : Option dG} : dor (x.map fg9) (y.map fg9) = (dor x y).map fg9 := by cases x <;> rfl
theorem n_use9 {x y : Option dG} {g : dG} (e : x = y.map fg9) (h : y = some g) : x = some (fg9 g) := by
  rw [e, h]; rfl
theorem n_heap9 {E : dE} {b d : Nat} {r : dM} {i : Instr} {len : Nat} {st : List Value} {h : dH} {cs ss : Nat} {g : dG} (hh : dheap E b d r i len st h cs ss = some g) (hc : g.2.2.1 = cs) : dheap E b d r i len st (none, h.2) cs ss = some (fg9 g) := by
  cases i
  case getfield idx => exact n_use9 (show dor _ _ = (dor _ _).map fg9 by rw [n_getf9, n_gets9, n_or9]) hh
  case putfield idx => exact n_use9 n_putf9 hh
  case iaload => exact n_use9 n_aldI9 hh
  case baload => exact n_use9 (show dor _ (dor _ _) = (dor _ (dor _ _)).map fg9 by rw [n_aldI9, n_aldI9, n_sld9, n_or9, n_or9]) hh
  case laload => exact n_use9 n_aldL9 hh
  case iastore => exact n_use9 n_astI9 hh
  case bastore =>
    refine n_use9 ?_ hh
    show (match dastI b 1 len (vp_nar .byte) st (none, h.2) cs ss with | some g => some g | none => dastI b 3 len (vp_nar .boolean) st (none, h.2) cs ss) = Option.map fg9 (match dastI b 1 len (vp_nar .byte) st h cs ss with | some g => some g | none => dastI b 3 len (vp_nar .boolean) st h cs ss)
    rw [n_astI9 (h := h), n_astI9 (h := h)]
    cases dastI b 1 len (vp_nar .byte) st h cs ss <;> rfl
  case lastore => exact n_use9 n_astL9 hh
  case arraylength => exact n_use9 (show dor _ _ = (dor _ _).map fg9 by rw [n_alen9, n_slen9, n_or9]) hh
  case newarray at0 =>
    exfalso
    have hh : dnewa len at0 st h cs ss = some g := hh
    unfold dnewa at hh
    repeat' split at hh
    all_goals first | (cases hh; done) | (cases hh; exact absurd hc (by show ¬ cs + 1 = cs; omega))
  case new idx =>
    exfalso
    have hh : dnewo E r.2.2.2.2.2.1 len idx st h cs ss = some g := hh
    unfold dnewo at hh
    repeat' split at hh
    all_goals first | (cases hh; done) | (cases hh; exact absurd hc (by show ¬ cs + 1 = cs; omega))
  case anewarray idx =>
    exfalso
    have hh : dnewq E r.2.2.2.2.2.1 len idx st h cs ss = some g := hh
    unfold dnewq at hh
    repeat' split at hh
    all_goals first | (cases hh; done) | (cases hh; exact absurd hc (by show ¬ cs + 1 = cs; omega))
  case aaload => exact n_use9 n_aldQ9 hh
  case aastore => exact n_use9 n_astQ9 hh
  case invokestatic idx => exact n_use9 n_bi9 hh
  case invokespecial idx => exact n_use9 n_oi9 hh
  case getstatic idx => exact n_use9 n_ldc9 hh
  case ldc idx =>
    refine n_use9 ?_ hh
    show (match dldc len 2 ((eCN E r.2.2.2.2.2.1 idx).map Value.int) st (none, h.2) cs ss with | some g => some g | none => dldc len 2 ((eSR E r.2.2.2.2.2.1 idx).map Value.ref) st (none, h.2) cs ss) = Option.map fg9 (match dldc len 2 ((eCN E r.2.2.2.2.2.1 idx).map Value.int) st h cs ss with | some g => some g | none => dldc len 2 ((eSR E r.2.2.2.2.2.1 idx).map Value.ref) st h cs ss)
    rw [n_ldc9 (h := h), n_ldc9 (h := h)]
    cases dldc len 2 ((eCN E r.2.2.2.2.2.1 idx).map Value.int) st h cs ss <;> rfl
  case ldc_w idx => exact n_use9 n_ldc9 hh
  case ldc2_w idx => exact n_use9 n_ldc9 hh
  all_goals cases hh

end
section
set_option maxHeartbeats 1600000
/-! ChanceWorks.program: its run, with what it catches -/
theorem n_us09 {x y : Option dG} (e : x = y.map fg9) (h : y = none) : x = none := by
  rw [e, h]; rfl
theorem n_hea9 {E : dE} {b d : Nat} {r : dM} {i : Instr} {len : Nat} {st : List Value} {h : dH} {cs ss : Nat} (hh : dheap E b d r i len st h cs ss = none) : dheap E b d r i len st (none, h.2) cs ss = none := by
  cases i
  case getfield idx => exact n_us09 (show dor _ _ = (dor _ _).map fg9 by rw [n_getf9, n_gets9, n_or9]) hh
  case putfield idx => exact n_us09 n_putf9 hh
  case iaload => exact n_us09 n_aldI9 hh
  case baload => exact n_us09 (show dor _ (dor _ _) = (dor _ (dor _ _)).map fg9 by rw [n_aldI9, n_aldI9, n_sld9, n_or9, n_or9]) hh
  case laload => exact n_us09 n_aldL9 hh
  case iastore => exact n_us09 n_astI9 hh
  case bastore =>
    refine n_us09 ?_ hh
    show (match dastI b 1 len (vp_nar .byte) st (none, h.2) cs ss with | some g => some g | none => dastI b 3 len (vp_nar .boolean) st (none, h.2) cs ss) = Option.map fg9 (match dastI b 1 len (vp_nar .byte) st h cs ss with | some g => some g | none => dastI b 3 len (vp_nar .boolean) st h cs ss)
    rw [n_astI9 (h := h), n_astI9 (h := h)]
    cases dastI b 1 len (vp_nar .byte) st h cs ss <;> rfl
  case lastore => exact n_us09 n_astL9 hh
  case arraylength => exact n_us09 (show dor _ _ = (dor _ _).map fg9 by rw [n_alen9, n_slen9, n_or9]) hh
  case newarray at0 =>
    show dnewa len at0 st (none, h.2) cs ss = none
    unfold dnewa
    repeat' split
    all_goals first | rfl | contradiction
  case new idx =>
    show dnewo E r.2.2.2.2.2.1 len idx st (none, h.2) cs ss = none
    unfold dnewo
    repeat' split
    all_goals first | rfl | contradiction
  case anewarray idx =>
    show dnewq E r.2.2.2.2.2.1 len idx st (none, h.2) cs ss = none
    unfold dnewq
    repeat' split
    all_goals first | rfl | contradiction
  case aaload => exact n_us09 n_aldQ9 hh
  case aastore => exact n_us09 n_astQ9 hh
  case invokestatic idx => exact n_us09 n_bi9 hh
  case invokespecial idx => exact n_us09 n_oi9 hh
  case getstatic idx => exact n_us09 n_ldc9 hh
  case ldc idx =>
    refine n_us09 ?_ hh
    show (match dldc len 2 ((eCN E r.2.2.2.2.2.1 idx).map Value.int) st (none, h.2) cs ss with | some g => some g | none => dldc len 2 ((eSR E r.2.2.2.2.2.1 idx).map Value.ref) st (none, h.2) cs ss) = Option.map fg9 (match dldc len 2 ((eCN E r.2.2.2.2.2.1 idx).map Value.int) st h cs ss with | some g => some g | none => dldc len 2 ((eSR E r.2.2.2.2.2.1 idx).map Value.ref) st h cs ss)
    rw [n_ldc9 (h := h), n_ldc9 (h := h)]
    cases dldc len 2 ((eCN E r.2.2.2.2.2.1 idx).map Value.int) st h cs ss <;> rfl
  case ldc_w idx => exact n_us09 n_ldc9 hh
  case ldc2_w idx => exact n_us09 n_ldc9 hh
  all_goals rfl
theorem n_inv9 {E : dE} {o : Nat} {i : Instr} {len : Nat} {st : List Value} {h : dH} : dinv E o i len st (none, h.2) = dinv E o i len st h := by
  cases i <;> rfl
/-- a run that makes nothing goes the same way where the number of cells isn't known -/
theorem drun_none9 {E : dE} {b : Nat} : ∀ (n d : Nat) (r : dM) (pc : Nat) (lo : dL0) (st : List Value) (h : dH) (cs ss : Nat) (z : dZ), drun E b n d r pc lo st h cs ss = some z → z.2.2.1 = cs → drun E b n d r pc lo st (none, h.2) cs ss = some (z.1, (none, z.2.1.2), z.2.2) := by
  intro n
  induction n with
  | zero => intro d r pc lo st h cs ss z hh; cases hh
  | succ n ih =>
    intro d r pc lo st h cs ss z hh hc
    obtain ⟨i, len, hd, hs⟩ := drun_split hh
    rw [drun, hd]
    dsimp only
    rcases hs with ⟨w, g1, g2⟩ | ⟨g, g0, g1, g2⟩ | ⟨v, g0, g1, g2, g3⟩ | ⟨d', y, w, rfl, g0, g1, g2, g3, g4, g5⟩
    · rw [g1]
      exact ih _ _ _ _ _ _ _ _ _ g2 hc
    · rw [g0]
      dsimp only
      have m1 := (drun_mono _ _ _ _ _ _ _ _ _ _ g2).1
      have m2 := (dheap_mono g1).1
      have e : g.2.2.1 = cs := by omega
      rw [n_heap9 g1 e]
      have k : z.2.2.1 = g.2.2.1 := by omega
      exact ih _ _ _ _ _ _ _ _ _ g2 k
    · rw [g0]
      dsimp only
      rw [n_hea9 g1]
      dsimp only
      rw [g2, g3]
    · rw [g0]
      dsimp only
      rw [n_hea9 g1]
      dsimp only
      rw [g2]
      dsimp only
      rw [n_inv9, g3]
      dsimp only
      have m1 := (drun_mono _ _ _ _ _ _ _ _ _ _ g5).1
      rw [ih _ _ _ _ _ _ _ _ _ g4 (by omega)]
      have k : z.2.2.1 = cs + w.2.2.1 := by omega
      exact ih _ _ _ _ _ _ _ _ _ g5 k
/-- a run that catches nothing -/
theorem drunC_of9 {E : dE} {X : dX} {XH : Nat → Option String} {hx : dHH} {b : Nat} : ∀ (n d : Nat) (r : dM) (pc : Nat) (lo : dL0) (st : List Value) (h : dH) (cs ss : Nat) (z : dZ), drun E b n d r pc lo st h cs ss = some z → drunC E X XH hx b n d r pc lo st h cs ss = some z := by
  intro n
  induction n with
  | zero => intro d r pc lo st h cs ss z hh; cases hh
  | succ n ih =>
    intro d r pc lo st h cs ss z hh
    obtain ⟨i, len, hd, hs⟩ := drun_split hh
    rw [drunC, hd]
    dsimp only
    rcases hs with ⟨w, g1, g2⟩ | ⟨g, g0, g1, g2⟩ | ⟨v, g0, g1, g2, g3⟩ | ⟨d', y, w, rfl, g0, g1, g2, g3, g4, g5⟩
    · rw [g1]
      exact ih _ _ _ _ _ _ _ _ _ g2
    · rw [g0]
      dsimp only
      rw [g1]
      exact ih _ _ _ _ _ _ _ _ _ g2
    · rw [g0]
      dsimp only
      rw [g1]
      dsimp only
      rw [g2, g3]
    · rw [g0]
      dsimp only
      rw [g1]
      dsimp only
      rw [g2]
      dsimp only
      rw [g3]
      dsimp only
      rw [g4]
      exact ih _ _ _ _ _ _ _ _ _ g5

end
section
set_option maxHeartbeats 1600000
/-! ChanceWorks.program: its run -/
theorem dX12_program_16 : decode cX12_program 16 = .ok (.astore_n 2, 1) := by decide +kernel
theorem dX12_program_17 : decode cX12_program 17 = .ok (.iconst 0, 1) := by decide +kernel
theorem dX12_program_18 : decode cX12_program 18 = .ok (.istore_n 1, 1) := by decide +kernel
theorem gc_p9 {E : dE} {X : dX} {XH : Nat → Option String} {hx : dHH} {b n d : Nat} {r : dM} {pc : Nat} {lo : dL0} {st : List Value} {h : dH} {cs ss : Nat} {z : dZ} {i : Instr} {len : Nat} {w : Nat × dL0 × List Value} (hd : decode r.2.1 pc = .ok (i, len)) (hp : dpure i len pc r.2.2.1 lo st = some w) (K : drunC E X XH hx b n d r w.1 w.2.1 w.2.2 h cs ss = some z) : drunC E X XH hx b (n + 1) d r pc lo st h cs ss = some z := by
  rw [drunC, hd]
  dsimp only
  rw [hp]
  exact K
theorem gc_h9 {E : dE} {X : dX} {XH : Nat → Option String} {hx : dHH} {b n d : Nat} {r : dM} {pc : Nat} {lo : dL0} {st : List Value} {h : dH} {cs ss : Nat} {z : dZ} {i : Instr} {len : Nat} {g : dG} (hd : decode r.2.1 pc = .ok (i, len)) (hp : dpure i len pc r.2.2.1 lo st = none) (hg : dheap E b d r i len st h cs ss = some g) (K : drunC E X XH hx b n d r (pc + len) lo g.1 g.2.1 g.2.2.1 g.2.2.2 = some z) : drunC E X XH hx b (n + 1) d r pc lo st h cs ss = some z := by
  rw [drunC, hd]
  dsimp only
  rw [hp]
  dsimp only
  rw [hg]
  exact K
/-- a call that returns -/
theorem gc_r9 {E : dE} {X : dX} {XH : Nat → Option String} {hx : dHH} {b n d : Nat} {r : dM} {pc : Nat} {lo : dL0} {st : List Value} {h : dH} {cs ss : Nat} {z w : dZ} {i : Instr} {len : Nat} {y : dV} (hd : decode r.2.1 pc = .ok (i, len)) (hp : dpure i len pc r.2.2.1 lo st = none) (hg : dheap E b (d + 1) r i len st h cs ss = none) (hy : dinv E r.2.2.2.2.2.1 i len st h = some y) (hr : drun E b n d y.1 0 (dent y.2.1) [] h 0 0 = some w) (K : drunC E X XH hx b n (d + 1) r (pc + 3) lo (w.1.toList ++ y.2.2) w.2.1 (cs + w.2.2.1) (ss + w.2.2.2) = some z) : drunC E X XH hx b (n + 1) (d + 1) r pc lo st h cs ss = some z := by
  rw [drunC, hd]
  dsimp only
  rw [hp]
  dsimp only
  rw [hg]
  dsimp only
  rw [dinv_ret (r := r) hy]
  dsimp only
  rw [hy]
  dsimp only
  rw [hr]
  exact K
/-- a call that throws, and is caught -/
theorem gc_x9 {E : dE} {X : dX} {XH : Nat → Option String} {hx : dHH} {b n d idx hp0 : Nat} {k : Fin 4} {r : dM} {pc : Nat} {lo : dL0} {st : List Value} {h : dH} {cs ss : Nat} {z : dZ} {w : dY} {len : Nat} {y : dV} (hd : decode r.2.1 pc = .ok (.invokevirtual idx, len)) (hp : dpure (.invokevirtual idx) len pc r.2.2.1 lo st = none) (hg : dheap E b (d + 1) r (.invokevirtual idx) len st h cs ss = none) (hy : dinv E r.2.2.2.2.2.1 (.invokevirtual idx) len st h = some y) (hn : drun E b n d y.1 0 (dent y.2.1) [] h 0 0 = none) (hr : drunX E X b n d y.1 0 (dent y.2.1) [] h 0 0 = some w) (hf : dfind XH pc w.1 hx = some hp0) (hd2 : decode r.2.1 hp0 = .ok (.astore_n k, 1)) (hk : (k : Nat) < r.2.2.1) (K : drunC E X XH hx b n (d + 1) r (hp0 + 1) (dclr lo (k : Nat)) [] w.2.1 (cs + w.2.2.1) (ss + w.2.2.2) = some z) : drunC E X XH hx b (n + 1) (d + 1) r pc lo st h cs ss = some z := by
  rw [drunC, hd]
  try dsimp only
  rw [hp]
  try dsimp only
  rw [hg]
  try dsimp only
  rw [dinv_ret (r := r) hy]
  try dsimp only
  rw [hy]
  try dsimp only
  rw [hn]
  try dsimp only
  rw [hr]
  try dsimp only
  rw [hf]
  try dsimp only
  rw [hd2]
  exact (if_pos hk).trans K

end
