section
set_option maxHeartbeats 1600000
/-! the class: weights by what is asked, by their values -/
def al16 (n : Nat) (kind v : Int32) : Int := if n = 0 then shN16 0 kind v 1 0 else 0
noncomputable def wK16 (κ : zS) (a : Nat) (σ : rS) (V : Nat → Rat) (kind v : Int32) (n : Nat) : Rat := smQ (fun k => un15 κ a V k * ((uV16 σ V kind v k : Int) : Rat)) n
theorem un_f16 {C : zC} {n0 a ca : Nat} {ρ : Nat → Nat} {R : Nat → Prop} {κ τ : zS} (W : zW C n0 κ) (Ta : zT κ a = 12) (Z : zF (soF ρ R ca) κ τ) (V : Nat → Rat) (s : Nat) : un15 τ a V s = un15 κ a V s := by
  have e2 : zR τ soAtlas a = zR κ soAtlas a := (soF_r9 Z (f := soAtlas) (by decide)).1
  unfold un15 dvN9
  rw [e2, dvA_f9 W soF_fr Z (ty_soAtlas W Ta)]
theorem wK_s16 {κ : zS} {a : Nat} {σ : rS} {V : Nat → Rat} {kind v : Int32} {n : Nat} : wK16 κ a σ V kind v (n + 1) = wK16 κ a σ V kind v n + un15 κ a V n * ((uV16 σ V kind v n : Int) : Rat) := rfl
/-- nothing below 0 where shares aren't -/
theorem sh_n16 {l kind v s n : Int32} (h0 : 0 ≤ kind.toInt) (h7 : kind.toInt ≤ 7) : 0 ≤ shN16 l kind v s n := by
  have k : kind = 0 ∨ kind = 1 ∨ kind = 2 ∨ kind = 3 ∨ kind = 4 ∨ kind = 5 ∨ kind = 6 ∨ kind = 7 := by
    have e : ∀ k : Int32, kind.toInt = k.toInt → kind = k := fun k => ik_16
    have : kind.toInt = 0 ∨ kind.toInt = 1 ∨ kind.toInt = 2 ∨ kind.toInt = 3 ∨ kind.toInt = 4 ∨ kind.toInt = 5 ∨ kind.toInt = 6 ∨ kind.toInt = 7 := by omega
    rcases this with z | z | z | z | z | z | z | z
    · exact Or.inl (e 0 z)
    · exact Or.inr (Or.inl (e 1 z))
    · exact Or.inr (Or.inr (Or.inl (e 2 z)))
    · exact Or.inr (Or.inr (Or.inr (Or.inl (e 3 z))))
    · exact Or.inr (Or.inr (Or.inr (Or.inr (Or.inl (e 4 z)))))
    · exact Or.inr (Or.inr (Or.inr (Or.inr (Or.inr (Or.inl (e 5 z))))))
    · exact Or.inr (Or.inr (Or.inr (Or.inr (Or.inr (Or.inr (Or.inl (e 6 z)))))))
    · exact Or.inr (Or.inr (Or.inr (Or.inr (Or.inr (Or.inr (Or.inr (e 7 z)))))))
  rcases k with z | z | z | z | z | z | z | z <;> subst z
  · rw [sh_016]; split <;> decide
  · rw [sh_116]; split <;> decide
  · rw [sh_216]; split <;> decide
  · rw [sh_316]; split <;> decide
  · rw [sh_416]; split <;> decide
  · rw [sh_516]; split <;> decide
  · rw [sh_616]; split <;> decide
  · rw [sh_716]; split <;> decide
theorem tn_016 {x : Rat} {t b D : Nat} {u : Int} (x0 : 0 ≤ x) (ht : t = x.num.natAbs) (hb : b = x.den) (d : b ∣ D) : (0 < u → (((t * u.natAbs * (D / b) : Nat)) : Rat) = x * (u : Rat) * (D : Rat)) ∧ (¬ 0 < u → (((t * u.natAbs * (D / b) : Nat)) : Rat) = -(x * (u : Rat) * (D : Rat))) := by
  have k := tn_15 (w := u.natAbs) x0 ht hb d
  constructor
  · intro z
    rw [k, ← Rat.intCast_natCast u.natAbs, Int.natAbs_of_nonneg (by omega)]
  · intro z
    have e : ((u.natAbs : Nat) : Int) = -u := by omega
    rw [k, ← Rat.intCast_natCast u.natAbs, e, Rat.intCast_neg]
    grind
theorem so_h16 {ρ : Nat → Nat} {R : Nat → Prop} {ca f h : Nat} (hf : f / 100 = 6) : ¬ soF ρ R ca f h := fun z => by
  rcases z with ⟨_, z | z | z⟩ | ⟨_, z | z | z | z⟩ <;> rw [z] at hf <;> exact absurd hf (by decide)
theorem pV_f16 {C : zC} {n0 h ca : Nat} {ρ : Nat → Nat} {R : Nat → Prop} {κ τ : zS} (W : zW C n0 κ) (Th : zT κ h = 6) (Z : zF (soF ρ R ca) κ τ) (e i : Int32) : pV9 τ h e i = pV9 κ h e i := by
  have s := (Z.row W (show zr hoStarts = some 20 by decide +kernel) (by decide) Th (so_h16 (by decide))).1
  have p := (Z.row W (show zr hoPool = some 20 by decide +kernel) (by decide) Th (so_h16 (by decide))).1
  unfold pV9
  rw [(soF_r9 Z (f := hoTotal) (by decide)).2, s, p]
theorem ls_f16 {C : zC} {n0 b ca : Nat} {ρ : Nat → Nat} {R : Nat → Prop} {κ τ : zS} {σ : rS} (W : zW C n0 κ) (Tb : zT κ b = 3) (Z : zF (soF ρ R ca) κ τ) (h : lst16 κ b σ) : lst16 τ b σ := by
  intro e i e0 e1 hi
  rw [(soF_r9 Z (f := atCode) (by decide)).1, (soF_r9 Z (f := coVars) (by decide)).2, (soF_r9 Z (f := coCells) (by decide)).2] at hi
  rw [(soF_r9 Z (f := atEndings) (by decide)).1, pV_f16 W (ty_atEndings W Tb) Z]
  exact h e i e0 e1 hi
/-- where there is no state the one ending has the number 0 -/
def lz16 (κ : zS) (b n : Nat) : Prop := n = 0 → ∀ i : Int32, i.toInt = (zI κ coVars (zR κ atCode b)).toInt + (zI κ coCells (zR κ atCode b)).toInt → pV9 κ (zR κ atEndings b) 0 i = 0
theorem lz_f16 {C : zC} {n0 b n ca : Nat} {ρ : Nat → Nat} {R : Nat → Prop} {κ τ : zS} (W : zW C n0 κ) (Tb : zT κ b = 3) (Z : zF (soF ρ R ca) κ τ) (h : lz16 κ b n) : lz16 τ b n := by
  intro z i hi
  rw [(soF_r9 Z (f := atCode) (by decide)).1, (soF_r9 Z (f := coVars) (by decide)).2, (soF_r9 Z (f := coCells) (by decide)).2] at hi
  rw [(soF_r9 Z (f := atEndings) (by decide)).1, pV_f16 W (ty_atEndings W Tb) Z]
  exact h z i hi
theorem wK_f16 {C : zC} {n0 a ca n : Nat} {ρ : Nat → Nat} {R : Nat → Prop} {κ τ : zS} {σ : rS} {V : Nat → Rat} {kind v : Int32} (W : zW C n0 κ) (Ta : zT κ a = 12) (Z : zF (soF ρ R ca) κ τ) : wK16 τ a σ V kind v n = wK16 κ a σ V kind v n := smQ_c (fun k _ => by rw [un_f16 W Ta Z])
theorem Od_weigh_q6 {C : zC} {n0 : Nat} {a0 : Nat} {a1 : Int32} {a2 : Int32} {κ : zS} {Q : zS → Prop} (W : zW C n0 κ) (Ta0 : zT κ a0 = 9) (ρ : Nat → Nat) (n9 P9 : Nat) (σ9 : rS) (V9 : Nat → Rat) (hT9 : tbl15 κ (zR κ odAtlas a0) n9 σ9) (hL9 : lst16 κ (zR κ odAtlas a0) σ9) (hV9 : vV15 κ (zR κ odSolver a0) n9 V9) (hZ9 : lz16 κ (zR κ odAtlas a0) n9) (hB9 : ∀ k, k < n9 → uV16 σ9 V9 a1 a2 k ≠ 0 → (un15 κ (zR κ odSolver a0) V9 k).den ∣ nuN κ (zR κ soWhole (zR κ odSolver a0))) (hp : (nmI ρ κ ∧ soI ρ κ (zR κ odSolver a0)) ∧ odX9 ρ κ a0 n9 P9 ∧ nuN κ (zR κ soWhole (zR κ odSolver a0)) < pB9 1490) (h : ∀ (κ' : zS), (((zF (soF ρ wgR9 (zR κ odCalc a0)) κ κ' ∧ nmI ρ κ' ∧ soI ρ κ' (zR κ odSolver a0)) ∧ nuN κ' (zR κ soSum (zR κ odSolver a0)) < pB9 1502 ∧ nuN κ' (zR κ soLess (zR κ odSolver a0)) < pB9 1502) ∧ (((nuN κ' (zR κ soSum (zR κ odSolver a0)) : Nat) : Rat) - ((nuN κ' (zR κ soLess (zR κ odSolver a0)) : Nat) : Rat) = ((al16 n9 a1 a2 : Int) : Rat) + wK16 κ (zR κ odSolver a0) σ9 V9 a1 a2 n9 * ((nuN κ (zR κ soWhole (zR κ odSolver a0)) : Nat) : Rat) ∧ (0 ≤ a1.toInt → a1.toInt ≤ 7 → nuN κ' (zR κ soLess (zR κ odSolver a0)) = 0))) → Q κ') : zRun C 5 mOd_weigh [.ref a0, .int a1, .int a2] κ (oV Q noX) := by
  refine Od_weigh_run W Ta0 ?_
  replace W := W.lo (Nat.le_trans W.1.2.1 W.1.2.2) (Nat.le_refl (zn κ))
  unfold w_Od_weigh_0
  obtain ⟨⟨N0, S0⟩, X0, W0⟩ := hp
  have ts := ty_odSolver W Ta0
  have A0 := X0.2.2.1.1
  have hn := A0.2.2.1
  have tot := A0.2.2.2.1
  have h8 := S0.1.2.2.2.2.2.1
  have h7 := S0.1.2.2.2.2.1
  have g7 := nm_g N0 (w := (zR κ soSum (zR κ odSolver a0))) h7 (Or.inl ⟨by decide, by decide⟩) (by decide)
  have hj34 : ∀ (l0 : Nat) (l1 : Int32) (l2 : Int32) (l3 : Int32) (s0 : Nat) (s1 : Int64) (τ : zS), zW C (zn κ) τ → zT τ l0 = 9 → zT τ s0 = 8 → ((κ = τ ∧ a0 = l0 ∧ a1 = l1 ∧ a2 = l2 ∧ l3.toInt = (n9 : Int) ∧ s0 = (zR κ soSum (zR κ odSolver a0)) ∧ 0 ≤ s1.toInt ∧ s1.toInt ≤ 2147483648) ∧ s1.toInt = al16 n9 a1 a2) → w_Od_weigh_34 C (zn κ) Q  l0 l1 l2 l3 s0 s1 τ := by
    rintro _ _ _ y34_3 y34_s0 y34_s1 _ W34 T34_0 T34_1 ⟨⟨rfl, rfl, rfl, rfl, j34⟩, hE⟩
    unfold w_Od_weigh_34
    intro T1
    obtain ⟨t3, rfl, p0, p1⟩ := j34
    refine Nu_put_c W34 T1 6500 ?_ (fun κ_2 q3 => ?_)
    · exact ⟨⟨p0, by omega⟩, g7.2.2⟩  -- p1
    obtain ⟨Fs, ⟨Rs, Ns⟩, Is, Vs⟩ := q3
    have Zs : zF (soF ρ wgR9 (zR κ odCalc a0)) κ κ_2 := soF_1 (by rw [h7]; exact Or.inl ⟨by decide, by decide⟩) Fs
    have N2 : nmI ρ κ_2 := nm_1 W N0 Fs (by rw [h7]; exact Is)
    have S2 : soI ρ κ_2 (zR κ odSolver a0) := so_1 W ts S0 Fs
    have gl := nm_g N2 (w := (zR κ soLess (zR κ odSolver a0))) h8 (Or.inl ⟨by decide, by decide⟩) (by decide)
    have el2 : zR κ_2 soLess (zR κ_2 odSolver a0) = (zR κ soLess (zR κ odSolver a0)) := by rw [Rs]
    intro W4
    intro M5
    intro T6
    refine Nu_put_c W4 T6 6500 ?_ (fun κ_7 q8 => ?_)
    · rw [el2]
      exact ⟨by decide, gl.2.2⟩
    intro W9
    intro M10
    rw [el2] at q8
    obtain ⟨Fl, ⟨Rl, Nl⟩, Il, Vl⟩ := q8
    have Zl0 : zF (soF ρ (fun r => r = 8) (zR κ odCalc a0)) κ_2 κ_7 := soF_1 h8 Fl
    have Zl : zF (soF ρ wgR9 (zR κ odCalc a0)) κ κ_7 := Zs.tr (soF_m (fun r z => Or.inl (by omega)) Zl0)
    have ts2 : zT κ_2 (zR κ odSolver a0) = 12 := Fs.t ts (by decide)
    have s7 := (soF_B (c := 0) (w := (zR κ soSum (zR κ odSolver a0))) W4 (Fs.t (ty_soSum W ts) (by decide)) Zl0 (by rw [h7]; decide)).2.1
    unfold w_Od_weigh_51
    refine ⟨fun n l0 l1 l2 l3 l4 τ => n = (l3.toInt - l4.toInt).toNat ∧ ((a0 = l0 ∧ a1 = l1 ∧ a2 = l2 ∧ (zF (soF ρ wgR9 (zR κ odCalc a0)) κ τ ∧ nmI ρ τ ∧ soI ρ τ (zR κ odSolver a0)) ∧ l3.toInt = (n9 : Int) ∧ (0 ≤ l4.toInt ∧ l4.toInt ≤ l3.toInt) ∧ nuN τ (zR κ soSum (zR κ odSolver a0)) ≤ uB9 (nuN κ (zR κ soWhole (zR κ odSolver a0))) l4.toNatClampNeg ∧ nuN τ (zR κ soLess (zR κ odSolver a0)) ≤ uB9 (nuN κ (zR κ soWhole (zR κ odSolver a0))) l4.toNatClampNeg) ∧ ((nuN τ (zR κ soSum (zR κ odSolver a0)) : Nat) : Rat) - ((nuN τ (zR κ soLess (zR κ odSolver a0)) : Nat) : Rat) = ((al16 n9 a1 a2 : Int) : Rat) + wK16 κ (zR κ odSolver a0) σ9 V9 a1 a2 l4.toNatClampNeg * ((nuN κ (zR κ soWhole (zR κ odSolver a0)) : Nat) : Rat) ∧ (0 ≤ a1.toInt → a1.toInt ≤ 7 → nuN τ (zR κ soLess (zR κ odSolver a0)) = 0)), ⟨_, rfl, ?_⟩, ?_⟩
    · refine and_5 ?_ (fun o9 => ?_)  -- j3
      · refine ⟨rfl, rfl, rfl, ⟨Zl, nm_1 W4 N2 Fl (by rw [h8]; exact Il), so_1 W4 ts2 S2 Fl⟩, t3, ⟨by decide, by rw [t0i]; omega⟩, ?_, ?_⟩
        · rw [s7, Vs]; exact uB_0 (by omega)
        · rw [Vl]; exact uB_0 (by decide)
      · have e : ((y34_s1.toInt.toNat : Nat) : Rat) = ((y34_s1.toInt : Int) : Rat) := by rw [← Rat.intCast_natCast, Int.toNat_of_nonneg p0]
        have z0 : (((0 : Int64).toInt.toNat : Nat) : Rat) = 0 := rfl
        have w0 : wK16 κ (zR κ odSolver a0) σ9 V9 a1 a2 (0 : Int32).toNatClampNeg = 0 := rfl
        refine ⟨?_, fun _ _ => by rw [Vl]; rfl⟩
        rw [s7, Vs, Vl, ← hE, e, z0, w0, Rat.zero_mul]
        grind
    rintro n51 _ _ _ x51_3 x51_4 κ51 W51 T51_0 ⟨hn51, ⟨rfl, rfl, rfl, i51⟩, hE⟩
    obtain ⟨⟨Z1, N1, S1⟩, e3, l4, B1, B2⟩ := i51
    obtain ⟨X1, e1, _, _⟩ := odX9_f W Ta0 N0 Z1 wgR9_l X0
    have kl := cnk l4.1
    have es : zR κ51 odSolver a0 = (zR κ odSolver a0) := e1 odSolver (Or.inl (by decide)) a0
    have ec : zR κ51 odCalc a0 = (zR κ odCalc a0) := e1 odCalc (Or.inl (by decide)) a0
    have ew : zR κ51 soWhole (zR κ odSolver a0) = (zR κ soWhole (zR κ odSolver a0)) := e1 soWhole (Or.inr (by decide)) _
    have eu : zR κ51 soSum (zR κ odSolver a0) = (zR κ soSum (zR κ odSolver a0)) := e1 soSum (Or.inr (by decide)) _
    have el : zR κ51 soLess (zR κ odSolver a0) = (zR κ soLess (zR κ odSolver a0)) := e1 soLess (Or.inr (by decide)) _
    have ep : zR κ51 soPart (zR κ odSolver a0) = (zR κ soPart (zR κ odSolver a0)) := e1 soPart (Or.inr (by decide)) _
    have nW := (soF_B (c := 0) W (ty_soWhole W ts) Z1 (by rw [S0.1.1]; exact wgR9_n.1)).2.1
    refine ⟨fun c11 => ?_, fun c11 => ?_⟩
    · skip
      refine h _ ?_
      · refine and_5 ?_ (fun o9 => ?_)  -- q4
        · exact ⟨⟨Z1, N1, S1⟩, uB_l W0 (by omega) B1, uB_l W0 (by omega) B2⟩
        · rw [lei] at c11
          have e : x51_4.toNatClampNeg = n9 := by omega
          have y := hE
          rw [e] at y
          exact y
    · skip
      intro T12
      rw [lei] at c11
      have ix := cn1 (x := x51_4) l4.1 (by omega)
      have Tb := ty_odAtlas W Ta0
      have ea : zR κ51 odAtlas a0 = zR κ odAtlas a0 := e1 odAtlas (Or.inl (by decide)) a0
      have hT51 : tbl15 κ51 (zR κ51 odAtlas a0) n9 σ9 := by rw [ea]; exact tb_f15 W soF_fr Z1 Tb hT9
      have hL51 : lst16 κ51 (zR κ51 odAtlas a0) σ9 := by rw [ea]; exact ls_f16 W Tb Z1 hL9
      have V51' : vV15 κ51 (zR κ odSolver a0) n9 V9 := vV_f15 W ts N0 Z1 hn wgR9_l X0.2.2.2.1 hV9
      have V51 : vV15 κ51 (zR κ51 odSolver a0) n9 V9 := by rw [es]; exact V51'
      refine Od_unitsOf_q6 W51 T12 ρ n9 P9 σ9 V9 hT51 hL51 V51 ?_ (fun r13 q15 => ?_)
      · exact ⟨X1, l4.1, by omega⟩  -- p5
      obtain ⟨q15, z9⟩ := q15
      have zo := z9
      intro W16
      intro M17
      refine ⟨fun c18 => ?_, fun c18 => ?_⟩
      · skip
        intro x19 hx19
        refine lp_b5 ?_ (fun d9 => ⟨rfl, ?_⟩)
        · rw [hn51, hx19, ix.2]; omega  -- d6
        · refine and_5 ?_ (fun o9 => ?_)  -- i7
          · exact ⟨rfl, rfl, rfl, ⟨Z1, N1, S1⟩, e3, ⟨by rw [hx19, ix.2]; omega, by rw [hx19, ix.2]; omega⟩, by rw [hx19, ix.1]; exact uB_m B1, by rw [hx19, ix.1]; exact uB_m B2⟩
          · have u0 : uV16 σ9 V9 a1 a2 x51_4.toNatClampNeg = 0 := by rw [← zo, (lg_cmp_eq _ _).mp c18]; rfl
            have i0 : ((0 : Int) : Rat) = 0 := rfl
            rw [hx19, ix.1, wK_s16, u0, i0, Rat.mul_zero, Rat.add_zero]
            exact hE
      · skip
        intro T20
        have sg := q15.2.2 (fun z => c18 ((lg_cmp_eq _ _).mpr z))
        have S1' : soI ρ κ51 (zR κ51 odSolver a0) := by rw [es]; exact S1
        refine So_unit_q6 W16 T20 ρ (vU9 κ51 (zR κ51 odSolver a0) x51_4.toNatClampNeg) ?_ (fun κ_21 q22 => ?_)
        · exact od_u9 N1 S1' X1 l4.1 (by omega) sg  -- p8
        obtain ⟨q22, z9⟩ := q22
        have zu := z9
        rw [es] at zu
        rw [ep] at zu
        have ru := zu _ (V51' _ (show x51_4.toNatClampNeg < n9 by omega)).1
        have eu' : V9 x51_4.toNatClampNeg * mkRat 1 (dvN9 κ51 (zR κ51 soAtlas (zR κ odSolver a0)) x51_4.toNatClampNeg) = un15 κ (zR κ odSolver a0) V9 x51_4.toNatClampNeg := un_f16 W ts Z1 V9 _
        rw [eu'] at ru
        obtain ⟨⟨Zu, Nu9, Su9⟩, tu, bu, _⟩ := od_v9 X1 l4.1 (by omega) sg q22
        rw [ec] at Zu
        rw [es] at Su9 tu bu
        rw [ep] at tu bu
        obtain ⟨X2, e2, _, _⟩ := odX9_f W51 T51_0 N1 Zu (fun r h z => by rcases z with z | z | z <;> omega) X1
        have es2 : zR κ_21 odSolver a0 = (zR κ odSolver a0) := (e2 odSolver (Or.inl (by decide)) a0).trans es
        have ew2 : zR κ_21 soWhole (zR κ odSolver a0) = (zR κ soWhole (zR κ odSolver a0)) := (e2 soWhole (Or.inr (by decide)) _).trans ew
        have eu2 : zR κ_21 soSum (zR κ odSolver a0) = (zR κ soSum (zR κ odSolver a0)) := (e2 soSum (Or.inr (by decide)) _).trans eu
        have el2 : zR κ_21 soLess (zR κ odSolver a0) = (zR κ soLess (zR κ odSolver a0)) := (e2 soLess (Or.inr (by decide)) _).trans el
        have ep2 : zR κ_21 soPart (zR κ odSolver a0) = (zR κ soPart (zR κ odSolver a0)) := (e2 soPart (Or.inr (by decide)) _).trans ep
        have eca2 : zR κ_21 soCalc (zR κ odSolver a0) = (zR κ odCalc a0) := by
          have y := X2.1.2
          rw [es2] at y
          rw [y]
          exact (e2 odCalc (Or.inl (by decide)) a0).trans ec
        have ts1 : zT κ51 (zR κ odSolver a0) = 12 := Z1.t ts (by decide)
        have u1 : zT κ51 (zR κ soWhole (zR κ odSolver a0)) = 8 := Z1.t (ty_soWhole W ts) (by decide)
        have u2 : zT κ51 (zR κ soSum (zR κ odSolver a0)) = 8 := Z1.t (ty_soSum W ts) (by decide)
        have u3 : zT κ51 (zR κ soLess (zR κ odSolver a0)) = 8 := Z1.t (ty_soLess W ts) (by decide)
        have w2 := (soF_B (c := 0) W51 u1 Zu (by rw [S0.1.1]; unfold unR9; decide)).2.1
        have s2 := (soF_B (c := 0) W51 u2 Zu (by rw [h7]; unfold unR9; decide)).2.1
        have l2 := (soF_B (c := 0) W51 u3 Zu (by rw [h8]; unfold unR9; decide)).2.1
        have et2 : zR κ_21 raTop (zR κ soPart (zR κ odSolver a0)) = zR κ51 raTop (zR κ soPart (zR κ odSolver a0)) := (soF_r9 Zu (by decide)).1
        have b4 : pB9 1502 ≤ pB9 4000 := pB9_l (by decide)
        intro W23
        intro M24
        intro T25
        refine So_addTerm_c W23 T25 ρ ?_ (fun κ_26 q27 => ?_)
        · rw [es2, ew2, eu2, el2, ep2]
          exact ⟨⟨Nu9, Su9⟩, ⟨by omega, by omega⟩, ⟨by rw [w2, nW]; exact Nat.lt_of_lt_of_le W0 (pB9_l (by decide)), by rw [et2]; exact Nat.lt_of_lt_of_le tu (by unfold pB9; decide), by rw [ru.2.2]; exact Nat.pos_of_ne_zero (Rat.den_nz _)⟩, by rw [s2]; exact Nat.lt_of_lt_of_le (uB_l W0 (by omega) B1) b4, by rw [l2]; exact Nat.lt_of_lt_of_le (uB_l W0 (by omega) B2) b4⟩
        intro W28
        intro M29
        intro x30 hx30
        rw [es2, ew2, eu2, el2, ep2, eca2, et2, w2, s2, l2, nW] at q27
        obtain ⟨Za, Na, A1, A2⟩ := q27
        have Zf : zF (soF ρ wgR9 (zR κ odCalc a0)) κ κ_26 := (Z1.tr (soF_m (fun r z => by unfold wgR9; rcases z with z | z | z <;> omega) Zu)).tr (soF_m (fun r z => by unfold wgR9; rcases z with z | z | z | z | z | z <;> omega) Za)
        have tmb : nuN κ_21 (zR κ51 raTop (zR κ soPart (zR κ odSolver a0))) * r13.toInt.natAbs * (nuN κ (zR κ soWhole (zR κ odSolver a0)) + 1) ≤ (nuN κ (zR κ soWhole (zR κ odSolver a0)) + 1) * sU9 := tm_u9 tu (by omega)
        refine lp_b5 ?_ (fun d9 => ⟨rfl, ?_⟩)
        · rw [hn51, hx30, ix.2]; omega  -- d10
        · refine and_5 ?_ (fun o9 => ?_)  -- i11
          · refine ⟨rfl, rfl, rfl, ⟨Zf, Na⟩, e3, ⟨by rw [hx30, ix.2]; omega, by rw [hx30, ix.2]; omega⟩, ?_, ?_⟩
            · rw [hx30, ix.1]
              by_cases z : 0 < r13.toInt
              · exact Nat.le_trans (Nat.le_of_eq (A1 z).1) (Nat.le_trans (Nat.add_le_add_left (Nat.mul_le_mul_left _ (Nat.le_succ_of_le (Nat.div_le_self _ _))) _) (uB_s B1 tmb))
              · rw [(A2 z).2]; exact uB_m B1
            · rw [hx30, ix.1]
              by_cases z : 0 < r13.toInt
              · rw [(A1 z).2]; exact uB_m B2
              · exact Nat.le_trans (Nat.le_of_eq (A2 z).1) (Nat.le_trans (Nat.add_le_add_left (Nat.mul_le_mul_left _ (Nat.le_succ_of_le (Nat.div_le_self _ _))) _) (uB_s B2 tmb))
          · have ne : r13.toInt ≠ 0 := fun e => c18 ((lg_cmp_eq _ _).mpr (Int64.toInt_inj.mp e))
            have dv := hB9 x51_4.toNatClampNeg (by omega) (by rw [← zo]; exact ne)
            have x0 : 0 ≤ un15 κ (zR κ odSolver a0) V9 x51_4.toNatClampNeg := un_p15 (hV9 _ (by omega)).2
            have T := tn_016 (u := r13.toInt) x0 rfl rfl dv
            have tn : nuN κ_21 (zR κ51 raTop (zR κ soPart (zR κ odSolver a0))) = (un15 κ (zR κ odSolver a0) V9 x51_4.toNatClampNeg).num.natAbs := by rw [← et2]; exact ru.2.1
            have y := hE.1
            rw [hx30, ix.1, wK_s16, ← zo, Rat.add_mul]
            by_cases z : 0 < r13.toInt
            · obtain ⟨C1, C2⟩ := A1 z
              rw [C1, C2, tn, ru.2.2, Rat.natCast_add, T.1 z]
              exact ⟨by grind, hE.2⟩
            · obtain ⟨C1, C2⟩ := A2 z
              rw [C1, C2, tn, ru.2.2, Rat.natCast_add, T.2 z]
              exact ⟨by grind, fun h0 h7 => absurd (q15.2.1 h0 h7) (by omega)⟩
  intro x31 hx31
  refine ⟨fun c32 => ?_, fun c32 => ?_⟩
  · skip
    refine hj34 _ _ _ _ _ _ _ W ?_ ?_ ?_
    · exact Ta0  -- t12
    · exact ty_soSum W ts  -- t13
    · refine and_5 ?_ (fun o9 => ?_)  -- k14
      · exact ⟨rfl, rfl, rfl, rfl, by rw [hx31]; exact tot, rfl, by decide, by decide⟩
      · unfold al16
        rw [if_neg (fun z => c32 (Int32.toInt_inj.mp (by rw [hx31, tot, z]; rfl)))]
        rfl
  · skip
    intro T33
    refine Od_share_q6 W T33 0 (fun _ => hZ9 (by have y := congrArg Int32.toInt c32; rw [hx31, t0i] at y; omega)) ?_ (fun r34 q36 => ?_)
    · exact ⟨X0.2.2.2.2.1.1, X0.2.2.2.2.2⟩  -- p15
    obtain ⟨q36, z9⟩ := q36
    intro W37
    intro M38
    refine hj34 _ _ _ _ _ _ _ W37 ?_ ?_ ?_
    · exact Ta0  -- t16
    · exact ty_soSum W ts  -- t17
    · refine and_5 ?_ (fun o9 => ?_)  -- k18
      · have z9 : n9 = 0 := by
          have y := congrArg Int32.toInt c32
          rw [hx31, t0i] at y
          omega
        exact ⟨rfl, rfl, rfl, rfl, by rw [hx31]; exact tot, rfl, q36.2.2 rfl (X0.2.2.2.2.1.2 z9), by omega⟩
      · unfold al16
        rw [if_pos (by have y := congrArg Int32.toInt c32; rw [hx31, t0i] at y; omega)]
        exact z9

end
section
set_option maxHeartbeats 1600000
/-! the class: show of weights, by its value -/
def aK16 (a : Int32) : Int32 := if (1 : Int32) < a then (if a = 10 then 7 else a) else 6
noncomputable def sK16 (κ : zS) (a : Nat) (σ : rS) (V : Nat → Rat) (kind v : Int32) (n : Nat) : Rat := ((al16 n kind v : Int) : Rat) + wK16 κ a σ V kind v n
noncomputable def tK16 (κ : zS) (a : Nat) (σ : rS) (V : Nat → Rat) (kind v : Int32) (n : Nat) : Rat := if kind = 5 then 1 - sK16 κ a σ V kind v n else sK16 κ a σ V kind v n
noncomputable def dK16 (κ : zS) (a : Nat) (σ : rS) (V : Nat → Rat) (kind v : Int32) (n : Nat) : Rat := if aK16 kind = kind then 1 else sK16 κ a σ V (aK16 kind) v n
theorem sK_w16 {κ : zS} {a n W : Nat} {σ : rS} {V : Nat → Rat} {kind v : Int32} (h : n = 0 → W = 1) : ((al16 n kind v : Int) : Rat) + wK16 κ a σ V kind v n * (W : Rat) = sK16 κ a σ V kind v n * (W : Rat) := by
  unfold sK16
  by_cases z : n = 0
  · have e : ((W : Nat) : Rat) = 1 := by rw [h z]; rfl
    rw [e, Rat.mul_one, Rat.mul_one]
  · have e : al16 n kind v = 0 := if_neg z
    have i0 : ((0 : Int) : Rat) = 0 := rfl
    rw [e, i0, Rat.zero_add, Rat.zero_add]
theorem iv_116 : (1 : Rat)⁻¹ = 1 := by
  have m := Rat.mul_inv_cancel (1 : Rat) (by decide)
  rwa [Rat.one_mul] at m
theorem fr_16 {S L B : Nat} {T D W : Rat} (hW : 0 < W) (h : (S : Rat) - (L : Rat) = T * W) (g : (B : Rat) = D * W) : mkRat ((S : Int) - (L : Int)) B = T * D⁻¹ := by
  have e : (((S : Int) - (L : Int) : Int) : Rat) = T * W := by rw [Rat.intCast_sub, Rat.intCast_natCast, Rat.intCast_natCast]; exact h
  have w := Rat.mul_inv_cancel W (by grind)
  rw [mk_d, e, g]
  by_cases z : D = 0
  · rw [z, Rat.zero_mul, Rat.inv_zero, Rat.mul_zero, Rat.mul_zero]
  · have d := Rat.mul_inv_cancel D z
    have x := Rat.mul_inv_cancel (D * W) (fun y => by rcases Rat.mul_eq_zero.mp y with q | q <;> grind)
    have k : (D * W)⁻¹ = D⁻¹ * W⁻¹ := by grind
    rw [k]
    grind
theorem aK_16 {a : Int32} (h : 0 ≤ a.toInt) (ne : aK16 a ≠ a) : ((a = 0 ∨ a = 1) ∧ aK16 a = 6) ∨ (a = 10 ∧ aK16 a = 7) := by
  unfold aK16 at ne ⊢
  have o : (1 : Int32).toInt = 1 := rfl
  by_cases c : (1 : Int32) < a
  · rw [if_pos c] at ne ⊢
    by_cases d : a = 10
    · rw [if_pos d]; exact Or.inr ⟨d, rfl⟩
    · rw [if_neg d] at ne; exact absurd rfl ne
  · rw [if_neg c]
    rw [lti, o] at c
    have y : a.toInt = 0 ∨ a.toInt = 1 := by omega
    exact Or.inl ⟨y.imp (fun z => ik_16 (k := 0) z) (fun z => ik_16 (k := 1) z), rfl⟩
theorem sI_n16 {f : Nat → Int} : ∀ {n : Nat}, (∀ i, i < n → 0 ≤ f i) → 0 ≤ sI f n
  | 0, _ => Int.le_refl 0
  | n + 1, h => by
    have a := sI_n16 (f := f) (n := n) (fun i hi => h i (by omega))
    have b := h n (by omega)
    show 0 ≤ sI f n + f n
    omega
theorem sI_g16 {f : Nat → Int} : ∀ {n : Nat}, (∀ i, i < n → 0 ≤ f i) → (∃ i, i < n ∧ 0 < f i) → 0 < sI f n
  | 0, _, ⟨i, hi, _⟩ => absurd hi (Nat.not_lt_zero i)
  | n + 1, h, ⟨i, hi, p⟩ => by
    have a := sI_n16 (f := f) (n := n) (fun i hi => h i (by omega))
    have b := h n (by omega)
    show 0 < sI f n + f n
    by_cases e : i = n
    · rw [e] at p; omega
    · have c := sI_g16 (f := f) (n := n) (fun i hi => h i (by omega)) ⟨i, by omega, p⟩
      omega
theorem sI_x16 {f : Nat → Int} : ∀ {n : Nat}, sI f n ≠ 0 → ∃ i, i < n ∧ f i ≠ 0
  | 0, h => absurd rfl h
  | n + 1, h => by
    by_cases c : f n = 0
    · have h : sI f n + f n ≠ 0 := h
      obtain ⟨i, i1, i2⟩ := sI_x16 (f := f) (n := n) (by omega)
      exact ⟨i, by omega, i2⟩
    · exact ⟨n, by omega, c⟩
theorem tw_n16 {κ : zS} {b n : Nat} {σ : rS} (h : tbl15 κ b n σ) {k d : Nat} (hk : k < n) (hd : d < leN σ k) : 0 ≤ twI σ k (loN σ k + d) := by
  have w := (st_z8 h.1.1.1 (x := k) (by rw [← h.1.2.1]; exact hk)).1 (loN σ k + d) (Nat.le_add_right _ _) (by unfold leN at hd; omega)
  rw [lei, t1i] at w
  unfold twI
  split
  · omega
  · split <;> decide
theorem kd_16 {κ : zS} {b n : Nat} {σ : rS} {V : Nat → Rat} {a v : Int32} (h : tbl15 κ b n σ) {k : Nat} (hk : k < n) (h0 : 0 ≤ a.toInt) (ne : aK16 a ≠ a) (u : uV16 σ V a v k ≠ 0) : uV16 σ V (aK16 a) v k ≠ 0 := by
  unfold uV16 at u ⊢
  by_cases z : V k = 0
  · rw [if_pos z] at u; exact absurd rfl u
  · rw [if_neg z] at u ⊢
    obtain ⟨d, d1, d2⟩ := sI_x16 u
    have w := tw_n16 h hk d1
    have s : si16 σ (aK16 a) v (loN σ k + d) = 1 := by
      have y : si16 σ a v (loN σ k + d) ≠ 0 := fun e => d2 (by rw [e, Int.mul_zero])
      unfold si16 at y ⊢
      rcases aK_16 h0 ne with ⟨e | e, e2⟩ | ⟨e, e2⟩ <;> rw [e2] <;> subst e
      · rw [sh_016] at y
        rw [sh_616, if_pos (Or.inl (Decidable.byContradiction (fun q => y (if_neg (fun p => q p.1)))))]
      · rw [sh_116] at y
        rw [sh_616, if_pos (Or.inr (Decidable.byContradiction (fun q => y (if_neg (fun p => q p.1)))))]
      · rw [sh_e16 (Or.inr (by decide))] at y
        rw [sh_716, if_pos (Decidable.byContradiction (fun q => y (if_neg q)))]
    have g : 0 < uI16 σ (si16 σ (aK16 a) v) k (leN σ k) := by
      refine sI_g16 (fun i hi => ?_) ⟨d, d1, ?_⟩
      · have q : 0 ≤ si16 σ (aK16 a) v (loN σ k + i) := by
          unfold si16
          rcases aK_16 h0 ne with ⟨_, e2⟩ | ⟨_, e2⟩ <;> rw [e2]
          · exact sh_n16 (by decide) (by decide)
          · exact sh_n16 (by decide) (by decide)
        exact Int.mul_nonneg (tw_n16 h hk hi) q
      · have q : twI σ k (loN σ k + d) ≠ 0 := fun e => d2 (by rw [e, Int.zero_mul])
        rw [s, Int.mul_one]
        omega
    omega
theorem Od_showWeight_q6 {C : zC} {n0 : Nat} {a0 : Nat} {a1 : Int32} {a2 : Int32} {a3 : Nat} {κ : zS} {Q : zS → Prop} (W : zW C n0 κ) (Ta0 : zT κ a0 = 9) (Ta3 : zT κ a3 = 11) (ρ : Nat → Nat) (n9 P9 : Nat) (σ9 : rS) (V9 : Nat → Rat) (hT9 : tbl15 κ (zR κ odAtlas a0) n9 σ9) (hL9 : lst16 κ (zR κ odAtlas a0) σ9) (hV9 : vV15 κ (zR κ odSolver a0) n9 V9) (hZ9 : lz16 κ (zR κ odAtlas a0) n9) (h09 : 0 ≤ a1.toInt) (hD9 : 0 < dK16 κ (zR κ odSolver a0) σ9 V9 a1 a2 n9) (hp : (nmI ρ κ ∧ soI ρ κ (zR κ odSolver a0)) ∧ odX9 ρ κ a0 n9 P9 ∧ (0 < P9 ∧ P9 < pB9 1490) ∧ ρ a3 = 30) (h : ∀ (κ' : zS), (((zF (soF ρ shR9 (zR κ odCalc a0)) κ κ' ∧ nmI ρ κ' ∧ soI ρ κ' (zR κ odSolver a0)) ∧ nuN κ' (zR κ soLess (zR κ odSolver a0)) < pB9 4000) ∧ (rqW8 κ' a3 (tK16 κ (zR κ odSolver a0) σ9 V9 a1 a2 n9 * (dK16 κ (zR κ odSolver a0) σ9 V9 a1 a2 n9)⁻¹))) → Q κ') : zRun C 7 mOd_showWeight [.ref a0, .int a1, .int a2, .ref a3] κ (oV Q noX) := by
  refine Od_showWeight_run W Ta0 Ta3 ?_
  replace W := W.lo (Nat.le_trans W.1.2.1 W.1.2.2) (Nat.le_refl (zn κ))
  unfold w_Od_showWeight_0
  obtain ⟨⟨N0, S0⟩, X0, ⟨P0, P1⟩, r30⟩ := hp
  have ts := ty_odSolver W Ta0
  have hn := X0.2.2.1.1.2.2.1
  have h1 := S0.1.1
  have h7 := S0.1.2.2.2.2.1
  have h8 := S0.1.2.2.2.2.2.1
  have h20 := S0.1.2.2.2.2.2.2
  have h15 := X0.2.1
  have g1 := nm_g N0 (w := (zR κ soWhole (zR κ odSolver a0))) h1 (Or.inl ⟨by decide, by decide⟩) (by decide)
  have o1 : (1 : Int64).toInt.toNat = 1 := rfl
  have b4 : pB9 1502 ≤ pB9 4000 := pB9_l (by decide)
  have b0 : pB9 1490 ≤ pB9 1502 := pB9_l (by decide)
  have tW := ty_soWhole W ts
  have tS := ty_soSum W ts
  have tL := ty_soLess W ts
  have tH := ty_odHeld W Ta0
  have hj192 : ∀ (l0 : Nat) (l3 : Nat) (τ : zS), zW C (zn κ) τ → zT τ l0 = 9 → zT τ l3 = 11 → ((a0 = l0 ∧ a3 = l3 ∧ (zF (soF ρ shR9 (zR κ odCalc a0)) κ τ ∧ nmI ρ τ ∧ soI ρ τ (zR κ odSolver a0)) ∧ nuN τ (zR κ odHeld a0) < pB9 1502 ∧ nuN τ (zR κ soSum (zR κ odSolver a0)) < pB9 1502 ∧ nuN τ (zR κ soLess (zR κ odSolver a0)) < pB9 1502) ∧ ∃ W9 : Rat, 0 < W9 ∧ ((nuN τ (zR κ soSum (zR κ odSolver a0)) : Nat) : Rat) - ((nuN τ (zR κ soLess (zR κ odSolver a0)) : Nat) : Rat) = tK16 κ (zR κ odSolver a0) σ9 V9 a1 a2 n9 * W9 ∧ ((nuN τ (zR κ odHeld a0) : Nat) : Rat) = dK16 κ (zR κ odSolver a0) σ9 V9 a1 a2 n9 * W9) → w_Od_showWeight_192 C (zn κ) Q  l0 l3 τ := by
    rintro _ _ τ192 W192 T192_0 T192_1 ⟨⟨rfl, rfl, j192⟩, hE⟩
    unfold w_Od_showWeight_192
    intro T1
    intro T2
    obtain ⟨⟨Z1, N1, S1⟩, B0, B1, B2⟩ := j192
    obtain ⟨X1, e1, _, _⟩ := odX9_f W Ta0 N0 Z1 shR9_l X0
    have es : zR τ192 odSolver a0 = (zR κ odSolver a0) := e1 odSolver (Or.inl (by decide)) a0
    have ec : zR τ192 odCalc a0 = (zR κ odCalc a0) := e1 odCalc (Or.inl (by decide)) a0
    have eh : zR τ192 odHeld a0 = (zR κ odHeld a0) := e1 odHeld (Or.inl (by decide)) a0
    have eu : zR τ192 soSum (zR κ odSolver a0) = (zR κ soSum (zR κ odSolver a0)) := e1 soSum (Or.inr (by decide)) _
    have el : zR τ192 soLess (zR κ odSolver a0) = (zR κ soLess (zR κ odSolver a0)) := e1 soLess (Or.inr (by decide)) _
    have ep : zR τ192 soPart (zR κ odSolver a0) = (zR κ soPart (zR κ odSolver a0)) := e1 soPart (Or.inr (by decide)) _
    have eca : zR τ192 soCalc (zR κ odSolver a0) = (zR κ odCalc a0) := by
      have y := X1.1.2
      rw [es, ec] at y
      exact y
    have ts1 : zT τ192 (zR κ odSolver a0) = 12 := Z1.t ts (by decide)
    refine So_settle_q6 W192 T1 T2 ρ 15 ?_ (fun κ_3 q4 => ?_)
    · rw [es, eh, eu, el]
      exact ⟨⟨N1, S1⟩, ⟨h15, Or.inr rfl⟩, Nat.lt_of_lt_of_le B0 b4, Nat.lt_of_lt_of_le B1 b4, Nat.lt_of_lt_of_le B2 b4⟩
    obtain ⟨q4, z9⟩ := q4
    have zs := z9
    rw [es, eh, eu, el, ep, eca] at q4
    obtain ⟨Zt, ⟨Nt, St⟩, O⟩ := q4
    have et := fun f (hf : f / 100 = 9 ∨ f / 100 = 12) b => (odX9_f W192 T192_0 N1 Zt (fun r h z => by rcases z with z | z | z | z <;> omega) X1).2.1 f hf b
    have es3 : zR κ_3 odSolver a0 = (zR κ odSolver a0) := (et odSolver (Or.inl (by decide)) a0).trans es
    have ep3 : zR κ_3 soPart (zR κ odSolver a0) = (zR κ soPart (zR κ odSolver a0)) := (et soPart (Or.inr (by decide)) _).trans ep
    have gp := ra_t9 Nt h20 (Or.inl rfl)
    have go := ra_t9 Nt r30 (Or.inr rfl)
    have lt4 : nuN κ_3 (zR κ_3 raTop (zR κ soPart (zR κ odSolver a0))) < pB9 4000 ∧ nuN κ_3 (zR κ_3 raBottom (zR κ soPart (zR κ odSolver a0))) < pB9 4000 := by
      rw [(soF_r9 Zt (f := raTop) (by decide)).1, (soF_r9 Zt (f := raBottom) (by decide)).1]
      have p4 : 1 < pB9 4000 := Nat.lt_of_lt_of_le (show 1 < pB9 1 by unfold pB9; decide) (pB9_l (by decide))
      rcases O with ⟨_, _, o1', o2'⟩ | ⟨_, _, o1', o2'⟩
      · rw [o1', o2']
        exact ⟨pB9_p, p4⟩
      · rw [o1', o2']
        refine ⟨Nat.lt_of_le_of_lt (Nat.div_le_self _ _) ?_, Nat.lt_of_le_of_lt (Nat.div_le_self _ _) (Nat.lt_of_lt_of_le B0 b4)⟩
        generalize pB9 1502 = B at *
        generalize pB9 4000 = B' at *
        omega
    have kt := nuK_lt gp.2.2.1 lt4.1
    have kb := nuK_lt gp.2.2.2.1 lt4.2
    intro W5
    intro M6
    intro T7
    intro T8
    refine Ra_copy_c W5 T7 T8 6500 ?_ (fun κ_9 q10 => ?_)
    · rw [es3, ep3]
      exact ⟨go.2.1, ⟨nuI_mono (by decide) gp.2.2.1, nuI_mono (by decide) gp.2.2.2.1, gp.2.2.2.2⟩, ⟨ro_n go.1.1 gp.1.1 (by decide), ro_n go.1.1 gp.1.2 (by decide), ro_n go.1.2 gp.1.1 (by decide), ro_n go.1.2 gp.1.2 (by decide)⟩, ⟨by omega, by omega⟩, by decide⟩
    intro W11
    intro M12
    refine h _ ?_
    · refine and_5 ?_ (fun o9 => ?_)  -- q3
      · rw [es3, ep3] at q10
        obtain ⟨Zc, Jc, Vc⟩ := q10
        have R5 := ra_s9 W5 (Zt.t ts1 (by decide)) Nt St r30 (Or.inr rfl) Zc Jc
        have Z5 := R5.2 (zR κ odCalc a0)
        have l3 := soF_B (c := 0) (w := (zR κ soLess (zR κ odSolver a0))) W192 (Z1.t tL (by decide)) Zt (by rw [h8]; unfold stR9; decide)
        have l9 := soF_B (c := 0) (w := (zR κ soLess (zR κ odSolver a0))) W5 (Zt.t (Z1.t tL (by decide)) (by decide)) Z5 (by rw [h8]; decide)
        refine ⟨⟨(Z1.tr (soF_m (fun r z => by unfold shR9; rcases z with z | z | z | z <;> omega) Zt)).tr (soF_m (fun r z => by unfold shR9; omega) Z5), R5.1⟩, ?_⟩
        rw [l9.2.1, l3.2.1]
        exact Nat.lt_of_lt_of_le B2 b4
      · rw [es3, ep3] at q10
        obtain ⟨Zc, Jc, Vc⟩ := q10
        obtain ⟨W9, w1, w2, w3⟩ := hE
        rw [es, eu, el, ep] at zs
        have p := Rat.mul_pos hD9 w1
        rw [← w3] at p
        have Bp : 0 < nuN τ192 (zR κ odHeld a0) := Nat.pos_of_ne_zero (fun z => by rw [z] at p; exact Rat.lt_irrefl p)
        have O' : stO τ192 κ_3 (zR κ soPart (zR κ odSolver a0)) (zR κ_3 raTop (zR κ soPart (zR κ odSolver a0))) (zR κ_3 raBottom (zR κ soPart (zR κ odSolver a0))) (nuN τ192 (zR κ soSum (zR κ odSolver a0))) (nuN τ192 (zR κ soLess (zR κ odSolver a0))) (nuN τ192 (zR κ odHeld a0)) := by
          rw [(soF_r9 Zt (f := raTop) (by decide)).1, (soF_r9 Zt (f := raBottom) (by decide)).1]
          exact O
        have R := st_q8 Bp O' zs
        rw [fr_16 w1 w2 w3] at R
        exact ⟨Vc.1.trans R.1, Vc.2.1.trans R.2.1, Vc.2.2.trans R.2.2⟩
  have hj147 : ∀ (l0 : Nat) (l1 : Int32) (l2 : Int32) (l3 : Nat) (τ : zS), zW C (zn κ) τ → zT τ l0 = 9 → zT τ l3 = 11 → ((a0 = l0 ∧ a1 = l1 ∧ a2 = l2 ∧ a3 = l3 ∧ (zF (soF ρ shR9 (zR κ odCalc a0)) κ τ ∧ nmI ρ τ ∧ soI ρ τ (zR κ odSolver a0)) ∧ nuN τ (zR κ soWhole (zR κ odSolver a0)) < pB9 1490 ∧ nuN τ (zR κ odHeld a0) < pB9 1502) ∧ (n9 = 0 → nuN τ (zR κ soWhole (zR κ odSolver a0)) = 1) ∧ 0 < nuN τ (zR κ soWhole (zR κ odSolver a0)) ∧ (∀ k, k < n9 → uV16 σ9 V9 a1 a2 k ≠ 0 → (un15 κ (zR κ odSolver a0) V9 k).den ∣ nuN τ (zR κ soWhole (zR κ odSolver a0))) ∧ ((nuN τ (zR κ odHeld a0) : Nat) : Rat) = dK16 κ (zR κ odSolver a0) σ9 V9 a1 a2 n9 * ((nuN τ (zR κ soWhole (zR κ odSolver a0)) : Nat) : Rat)) → w_Od_showWeight_147 C (zn κ) Q  l0 l1 l2 l3 τ := by
    rintro _ _ _ _ τ147 W147 T147_0 T147_1 ⟨⟨rfl, rfl, rfl, rfl, j147⟩, hE⟩
    unfold w_Od_showWeight_147
    intro T13
    obtain ⟨⟨Z1, N1, S1⟩, Bw, B0⟩ := j147
    obtain ⟨X1, e1, _, _⟩ := odX9_f W Ta0 N0 Z1 shR9_l X0
    have es : zR τ147 odSolver a0 = (zR κ odSolver a0) := e1 odSolver (Or.inl (by decide)) a0
    have ec : zR τ147 odCalc a0 = (zR κ odCalc a0) := e1 odCalc (Or.inl (by decide)) a0
    have eu : zR τ147 soSum (zR κ odSolver a0) = (zR κ soSum (zR κ odSolver a0)) := e1 soSum (Or.inr (by decide)) _
    have el : zR τ147 soLess (zR κ odSolver a0) = (zR κ soLess (zR κ odSolver a0)) := e1 soLess (Or.inr (by decide)) _
    have ew : zR τ147 soWhole (zR κ odSolver a0) = (zR κ soWhole (zR κ odSolver a0)) := e1 soWhole (Or.inr (by decide)) _
    refine Od_weigh_q6 W147 T13 ρ n9 P9 σ9 V9 (by rw [e1 odAtlas (Or.inl (by decide)) a0]; exact tb_f15 W soF_fr Z1 (ty_odAtlas W Ta0) hT9) (by rw [e1 odAtlas (Or.inl (by decide)) a0]; exact ls_f16 W (ty_odAtlas W Ta0) Z1 hL9) (by rw [es]; exact vV_f15 W ts N0 Z1 hn shR9_l X0.2.2.2.1 hV9) (by rw [e1 odAtlas (Or.inl (by decide)) a0]; exact lz_f16 W (ty_odAtlas W Ta0) Z1 hZ9) (by rw [es, ew]; intro k hk u; rw [un_f16 W ts Z1]; exact hE.2.2.1 k hk u) ?_ (fun κ_14 q15 => ?_)
    · rw [es, ew]
      exact ⟨⟨N1, S1⟩, X1, Bw⟩
    obtain ⟨q15, z9⟩ := q15
    have zg := z9
    rw [es, eu, el, ew, wK_f16 W ts Z1] at zg
    rw [es, ec, eu, el] at q15
    obtain ⟨⟨Zg, Ng, Sg⟩, Bs, Bl⟩ := q15
    have Z14 : zF (soF ρ shR9 (zR κ odCalc a0)) κ κ_14 := Z1.tr (soF_m (fun r z => by unfold shR9; unfold wgR9 at z; omega) Zg)
    have h14 := (soF_B (c := 0) W147 (Z1.t tH (by decide)) Zg (by rw [h15]; exact wgR9_n.2.1)).2.1
    have w14 := (soF_B (c := 0) W147 (Z1.t tW (by decide)) Zg (by rw [h1]; exact wgR9_n.1)).2.1
    have T14 : zT κ_14 a0 = 9 := Z14.t Ta0 (by decide)
    have e2 := (odX9_f W Ta0 N0 Z14 shR9_l X0).2.1
    have es2 : zR κ_14 odSolver a0 = (zR κ odSolver a0) := e2 odSolver (Or.inl (by decide)) a0
    have eu2 : zR κ_14 soSum (zR κ odSolver a0) = (zR κ soSum (zR κ odSolver a0)) := e2 soSum (Or.inr (by decide)) _
    have el2 : zR κ_14 soLess (zR κ odSolver a0) = (zR κ soLess (zR κ odSolver a0)) := e2 soLess (Or.inr (by decide)) _
    have ts14 : zT κ_14 (zR κ odSolver a0) = 12 := Z14.t ts (by decide)
    intro W16
    intro M17
    refine ⟨fun c18 => ?_, fun c18 => ?_⟩
    · skip
      refine hj192 _ _ _ W16 ?_ ?_ ?_
      · exact T14  -- t5
      · exact Z14.t Ta3 (by decide)  -- t6
      · refine and_5 ?_ (fun o9 => ?_)  -- k7
        · exact ⟨rfl, rfl, ⟨Z14, Ng, Sg⟩, by rw [h14]; exact B0, Bs, Bl⟩
        · refine ⟨((nuN τ147 (zR κ soWhole (zR κ odSolver a0)) : Nat) : Rat), nq0 hE.2.1, ?_, ?_⟩
          · rw [zg.1, sK_w16 hE.1]
            unfold tK16
            rw [if_neg c18]
          · rw [h14]; exact hE.2.2.2
    · skip
      intro T19
      intro T20
      refine Nu_copy_c W16 T19 T20 6500 6500 ?_ (fun κ_21 q22 => ?_)
      · rw [es2, eu2, el2]
        exact cp_p9 Ng h8 h7 ⟨nmR_s9.1.2.2, by decide, by decide⟩ ⟨nmR_s9.1.2.1, by decide, by decide⟩ (by decide) (Nat.lt_of_lt_of_le Bs b4)
      rw [es2, eu2, el2] at q22
      obtain ⟨⟨Na, Sa⟩, Va, Za⟩ := cp_q9 W16 ts14 Ng Sg h8 h7 (by decide) ⟨nmR_s9.1.2.1, by decide⟩ q22
      have Za0 := Za (zR κ odCalc a0)
      have Z21 : zF (soF ρ shR9 (zR κ odCalc a0)) κ κ_21 := Z14.tr (soF_m (fun r z => by unfold shR9; omega) Za0)
      have e3 := (odX9_f W Ta0 N0 Z21 shR9_l X0).2.1
      have es3 : zR κ_21 odSolver a0 = (zR κ odSolver a0) := e3 odSolver (Or.inl (by decide)) a0
      have eu3 : zR κ_21 soSum (zR κ odSolver a0) = (zR κ soSum (zR κ odSolver a0)) := e3 soSum (Or.inr (by decide)) _
      have ew3 : zR κ_21 soWhole (zR κ odSolver a0) = (zR κ soWhole (zR κ odSolver a0)) := e3 soWhole (Or.inr (by decide)) _
      have w21 := (soF_B (c := 0) W16 (Z14.t tW (by decide)) Za0 (by rw [h1]; decide)).2.1
      have h21 := (soF_B (c := 0) W16 (Z14.t tH (by decide)) Za0 (by rw [h15]; decide)).2.1
      intro W23
      intro M24
      intro T25
      intro T26
      refine Nu_copy_c W23 T25 T26 6500 6500 ?_ (fun κ_27 q28 => ?_)
      · rw [es3, eu3, ew3]
        exact cp_p9 Na h7 h1 ⟨nmR_s9.1.2.1, by decide, by decide⟩ ⟨nmR_s9.1.1, by decide, by decide⟩ (by decide) (by rw [w21, w14]; exact Nat.lt_of_lt_of_le Bw (pB9_l (by decide)))
      intro W29
      intro M30
      rw [es3, eu3, ew3] at q28
      obtain ⟨⟨Nb, Sb⟩, Vb, Zb⟩ := cp_q9 W23 (Z21.t ts (by decide)) Na Sa h7 h1 (by decide) ⟨nmR_s9.1.1, by decide⟩ q28
      have Zb0 := Zb (zR κ odCalc a0)
      have Z27 : zF (soF ρ shR9 (zR κ odCalc a0)) κ κ_27 := Z21.tr (soF_m (fun r z => by unfold shR9; omega) Zb0)
      have l27 := (soF_B (c := 0) W23 (Z21.t tL (by decide)) Zb0 (by rw [h8]; decide)).2.1
      have h27 := (soF_B (c := 0) W23 (Z21.t tH (by decide)) Zb0 (by rw [h15]; decide)).2.1
      refine hj192 _ _ _ W29 ?_ ?_ ?_
      · exact Z27.t Ta0 (by decide)  -- t10
      · exact Z27.t Ta3 (by decide)  -- t11
      · refine and_5 ?_ (fun o9 => ?_)  -- k12
        · exact ⟨rfl, rfl, ⟨Z27, Nb, Sb⟩, by rw [h27, h21, h14]; exact B0, by rw [Vb, w21, w14]; exact Nat.lt_of_lt_of_le Bw b0, by rw [l27, Va]; exact Bs⟩
        · have y := zg.1
          have y2 := zg.2 h09 (by rw [c18]; decide)
          have z0 : ((0 : Nat) : Rat) = 0 := rfl
          rw [y2, sK_w16 hE.1, z0] at y
          refine ⟨((nuN τ147 (zR κ soWhole (zR κ odSolver a0)) : Nat) : Rat), nq0 hE.2.1, ?_, ?_⟩
          · rw [Vb, w21, w14, l27, Va]
            unfold tK16
            rw [if_pos c18]
            grind
          · rw [h27, h21, h14]; exact hE.2.2.2
  have hj22 : ∀ (l0 : Nat) (l1 : Int32) (l2 : Int32) (l3 : Nat) (s0 : Int32) (τ : zS), zW C (zn κ) τ → zT τ l0 = 9 → zT τ l3 = 11 → ((κ = τ ∧ a0 = l0 ∧ a1 = l1 ∧ a2 = l2 ∧ a3 = l3 ∧ True) ∧ s0 = aK16 a1) → w_Od_showWeight_22 C (zn κ) Q  l0 l1 l2 l3 s0 τ := by
    rintro _ _ _ _ y22_s0 _ W22 T22_0 T22_1 ⟨⟨rfl, rfl, rfl, rfl, rfl, j22⟩, hE⟩
    unfold w_Od_showWeight_22
    intro T31
    refine Nu_put_c W22 T31 6500 ?_ (fun κ_32 q33 => ?_)
    · exact ⟨by decide, g1.2.2⟩  -- p13
    intro W34
    intro M35
    obtain ⟨Fp, ⟨Rp, Np⟩, Ip, Vp⟩ := q33
    have Zp : zF (soF ρ shR9 (zR κ odCalc a0)) κ κ_32 := soF_1 (by rw [h1]; unfold shR9; decide) Fp
    unfold w_Od_showWeight_38
    refine ⟨fun n l0 l1 l2 l3 l4 l5 τ => n = ((n9 : Int) - l5.toInt).toNat ∧ ((a0 = l0 ∧ a1 = l1 ∧ a2 = l2 ∧ a3 = l3 ∧ (zF (soF ρ shR9 (zR κ odCalc a0)) κ τ ∧ nmI ρ τ ∧ soI ρ τ (zR κ odSolver a0)) ∧ dz9 (nuN τ (zR κ soWhole (zR κ odSolver a0))) P9 ∧ (0 ≤ l5.toInt ∧ l5.toInt ≤ n9)) ∧ l4 = aK16 a1 ∧ (n9 = 0 → nuN τ (zR κ soWhole (zR κ odSolver a0)) = 1) ∧ 0 < nuN τ (zR κ soWhole (zR κ odSolver a0)) ∧ ∀ k, k < l5.toNatClampNeg → uV16 σ9 V9 l4 a2 k ≠ 0 → (un15 κ (zR κ odSolver a0) V9 k).den ∣ nuN τ (zR κ soWhole (zR κ odSolver a0))), ⟨_, rfl, ?_⟩, ?_⟩
    · refine and_5 ?_ (fun o9 => ⟨hE, fun _ => by rw [Vp, o1], by rw [Vp, o1]; decide, fun k hk => absurd hk (Nat.not_lt_zero k)⟩)  -- j14
      exact ⟨rfl, rfl, rfl, rfl, ⟨Zp, nm_1 W N0 Fp (by rw [h1]; exact Ip), so_1 W ts S0 Fp⟩, by rw [Vp, o1]; exact Or.inr (Nat.one_dvd _), ⟨by decide, by rw [t0i]; omega⟩⟩
    rintro n38 _ _ _ _ x38_4 x38_5 κ38 W38 T38_0 T38_1 ⟨hn38, ⟨rfl, rfl, rfl, rfl, i38⟩, hE⟩
    obtain ⟨⟨Z1, N1, S1⟩, D1, l5⟩ := i38
    obtain ⟨X1, e1, _, _⟩ := odX9_f W Ta0 N0 Z1 shR9_l X0
    have es : zR κ38 odSolver a0 = (zR κ odSolver a0) := e1 odSolver (Or.inl (by decide)) a0
    have ec : zR κ38 odCalc a0 = (zR κ odCalc a0) := e1 odCalc (Or.inl (by decide)) a0
    have eh : zR κ38 odHeld a0 = (zR κ odHeld a0) := e1 odHeld (Or.inl (by decide)) a0
    have ew : zR κ38 soWhole (zR κ odSolver a0) = (zR κ soWhole (zR κ odSolver a0)) := e1 soWhole (Or.inr (by decide)) _
    have ep : zR κ38 soPart (zR κ odSolver a0) = (zR κ soPart (zR κ odSolver a0)) := e1 soPart (Or.inr (by decide)) _
    have tot1 := X1.2.2.1.1.2.2.2.1
    have lw1 : nuN κ38 (zR κ soWhole (zR κ odSolver a0)) < pB9 1490 := Nat.lt_of_le_of_lt (dz9_le D1 P0) P1
    have ts1 : zT κ38 (zR κ odSolver a0) = 12 := Z1.t ts (by decide)
    have kl := cnk l5.1
    refine ⟨fun c36 => ?_, fun c36 => ?_⟩
    · skip
      intro T37
      intro T38
      refine Nu_copy_c W38 T37 T38 6500 6500 ?_ (fun κ_39 q40 => ?_)
      · rw [es, eh, ew]
        exact cp_p9 N1 h15 h1 ⟨nmR_s9.2.1, by decide, by decide⟩ ⟨nmR_s9.1.1, by decide, by decide⟩ (by decide) (Nat.lt_of_lt_of_le lw1 (pB9_l (by decide)))
      have nk38 : x38_5.toNatClampNeg = n9 := by have y := c36; rw [lei, tot1] at y; omega
      rw [es, eh, ew] at q40
      obtain ⟨⟨Na, Sa⟩, Va, Za⟩ := cp_q9 W38 ts1 N1 S1 h15 h1 (by decide) ⟨nmR_s9.1.1, by decide⟩ q40
      have Za0 := Za (zR κ odCalc a0)
      have Z39 : zF (soF ρ shR9 (zR κ odCalc a0)) κ κ_39 := Z1.tr (soF_m (fun r z => by unfold shR9; omega) Za0)
      obtain ⟨X2, e2, _, _⟩ := odX9_f W Ta0 N0 Z39 shR9_l X0
      have w39 := (soF_B (c := 0) W38 (Z1.t tW (by decide)) Za0 (by rw [h1]; decide)).2.1
      have T39 : zT κ_39 a0 = 9 := Z39.t Ta0 (by decide)
      have es2 : zR κ_39 odSolver a0 = (zR κ odSolver a0) := e2 odSolver (Or.inl (by decide)) a0
      have ec2 : zR κ_39 odCalc a0 = (zR κ odCalc a0) := e2 odCalc (Or.inl (by decide)) a0
      have ew2 : zR κ_39 soWhole (zR κ odSolver a0) = (zR κ soWhole (zR κ odSolver a0)) := e2 soWhole (Or.inr (by decide)) _
      have eu2 : zR κ_39 soSum (zR κ odSolver a0) = (zR κ soSum (zR κ odSolver a0)) := e2 soSum (Or.inr (by decide)) _
      have el2 : zR κ_39 soLess (zR κ odSolver a0) = (zR κ soLess (zR κ odSolver a0)) := e2 soLess (Or.inr (by decide)) _
      intro W41
      intro M42
      refine ⟨fun c43 => ?_, fun c43 => ?_⟩
      · skip
        refine hj147 _ _ _ _ _ W41 ?_ ?_ ?_
        · exact T39  -- t16
        · exact Z39.t Ta3 (by decide)  -- t17
        · refine and_5 ?_ (fun o9 => ?_)  -- k18
          · exact ⟨rfl, rfl, rfl, rfl, ⟨Z39, Na, Sa⟩, by rw [w39]; exact lw1, by rw [Va]; exact Nat.lt_of_lt_of_le lw1 b0⟩
          · refine ⟨fun z => by rw [w39]; exact hE.2.1 z, by rw [w39]; exact hE.2.2.1, fun k hk u => by rw [w39]; exact hE.2.2.2 k (by omega) (by rw [c43]; exact u), ?_⟩
            rw [Va, w39]
            unfold dK16
            rw [if_pos (hE.1.symm.trans c43), Rat.one_mul]
      · skip
        intro T44
        refine Od_weigh_q6 W41 T44 ρ n9 P9 σ9 V9 (by rw [e2 odAtlas (Or.inl (by decide)) a0]; exact tb_f15 W soF_fr Z39 (ty_odAtlas W Ta0) hT9) (by rw [e2 odAtlas (Or.inl (by decide)) a0]; exact ls_f16 W (ty_odAtlas W Ta0) Z39 hL9) (by rw [es2]; exact vV_f15 W ts N0 Z39 hn shR9_l X0.2.2.2.1 hV9) (by rw [e2 odAtlas (Or.inl (by decide)) a0]; exact lz_f16 W (ty_odAtlas W Ta0) Z39 hZ9) (by rw [es2, ew2, w39]; intro k hk u; rw [un_f16 W ts Z39]; exact hE.2.2.2 k (by omega) u) ?_ (fun κ_45 q46 => ?_)
        · rw [es2, ew2, w39]
          exact ⟨⟨Na, Sa⟩, X2, lw1⟩
        obtain ⟨q46, z9⟩ := q46
        have zh := z9
        rw [es2, eu2, el2, ew2, w39, wK_f16 W ts Z39] at zh
        rw [es2, ec2, eu2, el2] at q46
        obtain ⟨⟨Zg, Ng, Sg⟩, Bs, Bl⟩ := q46
        have Z45 : zF (soF ρ shR9 (zR κ odCalc a0)) κ κ_45 := Z39.tr (soF_m (fun r z => by unfold shR9; unfold wgR9 at z; omega) Zg)
        have e3 := (odX9_f W Ta0 N0 Z45 shR9_l X0).2.1
        have es3 : zR κ_45 odSolver a0 = (zR κ odSolver a0) := e3 odSolver (Or.inl (by decide)) a0
        have eu3 : zR κ_45 soSum (zR κ odSolver a0) = (zR κ soSum (zR κ odSolver a0)) := e3 soSum (Or.inr (by decide)) _
        have eh3 : zR κ_45 odHeld a0 = (zR κ odHeld a0) := e3 odHeld (Or.inl (by decide)) a0
        have w45 := (soF_B (c := 0) W41 (Z39.t tW (by decide)) Zg (by rw [h1]; exact wgR9_n.1)).2.1
        intro W47
        intro M48
        intro T49
        intro T50
        refine Nu_copy_c W47 T49 T50 6500 6500 ?_ (fun κ_51 q52 => ?_)
        · rw [es3, eu3, eh3]
          exact cp_p9 Ng h15 h7 ⟨nmR_s9.2.1, by decide, by decide⟩ ⟨nmR_s9.1.2.1, by decide, by decide⟩ (by decide) (Nat.lt_of_lt_of_le Bs b4)
        intro W53
        intro M54
        rw [es3, eu3, eh3] at q52
        obtain ⟨⟨Nb, Sb⟩, Vb, Zb⟩ := cp_q9 W47 (Z45.t ts (by decide)) Ng Sg h15 h7 (by decide) ⟨nmR_s9.1.2.1, by decide⟩ q52
        have Zb0 := Zb (zR κ odCalc a0)
        have Z51 : zF (soF ρ shR9 (zR κ odCalc a0)) κ κ_51 := Z45.tr (soF_m (fun r z => by unfold shR9; omega) Zb0)
        have w51 := (soF_B (c := 0) W47 (Z45.t tW (by decide)) Zb0 (by rw [h1]; decide)).2.1
        refine hj147 _ _ _ _ _ W53 ?_ ?_ ?_
        · exact Z51.t Ta0 (by decide)  -- t21
        · exact Z51.t Ta3 (by decide)  -- t22
        · refine and_5 ?_ (fun o9 => ?_)  -- k23
          · exact ⟨rfl, rfl, rfl, rfl, ⟨Z51, Nb, Sb⟩, by rw [w51, w45, w39]; exact lw1, by rw [Vb]; exact Bs⟩
          · have ne : aK16 a1 ≠ a1 := fun e => c43 (hE.1.trans e)
            have r := aK_16 h09 ne
            have l0 := zh.2 (by rw [hE.1]; rcases r with ⟨_, e⟩ | ⟨_, e⟩ <;> rw [e] <;> decide) (by rw [hE.1]; rcases r with ⟨_, e⟩ | ⟨_, e⟩ <;> rw [e] <;> decide)
            have y := zh.1
            have z0 : ((0 : Nat) : Rat) = 0 := rfl
            rw [l0, sK_w16 hE.2.1, z0] at y
            refine ⟨fun z => by rw [w51, w45, w39]; exact hE.2.1 z, by rw [w51, w45, w39]; exact hE.2.2.1, fun k hk u => by rw [w51, w45, w39]; exact hE.2.2.2 k (by omega) (by rw [hE.1]; exact kd_16 hT9 hk h09 ne u), ?_⟩
            rw [Vb, w51, w45, w39]
            unfold dK16
            rw [if_neg ne, ← hE.1]
            grind
    · skip
      intro T55
      rw [lei, tot1] at c36
      have ix := cn1 (x := x38_5) l5.1 (by omega)
      refine Od_unitsOf_q6 W38 T55 ρ n9 P9 σ9 V9 (by rw [e1 odAtlas (Or.inl (by decide)) a0]; exact tb_f15 W soF_fr Z1 (ty_odAtlas W Ta0) hT9) (by rw [e1 odAtlas (Or.inl (by decide)) a0]; exact ls_f16 W (ty_odAtlas W Ta0) Z1 hL9) (by rw [es]; exact vV_f15 W ts N0 Z1 hn shR9_l X0.2.2.2.1 hV9) ?_ (fun r56 q58 => ?_)
      · exact ⟨X1, l5.1, by omega⟩  -- p24
      obtain ⟨q58, z9⟩ := q58
      have zo := z9
      intro W59
      intro M60
      refine ⟨fun c61 => ?_, fun c61 => ?_⟩
      · skip
        intro x62 hx62
        refine lp_b5 ?_ (fun d9 => ⟨rfl, ?_⟩)
        · rw [hn38, hx62, ix.2]; omega  -- d25
        · refine and_5 ?_ (fun o9 => ?_)  -- i26
          · exact ⟨rfl, rfl, rfl, rfl, ⟨Z1, N1, S1⟩, D1, ⟨by rw [hx62, ix.2]; omega, by rw [hx62, ix.2]; omega⟩⟩
          · refine ⟨hE.1, hE.2.1, hE.2.2.1, fun k hk u => ?_⟩
            rw [hx62, ix.1] at hk
            by_cases e : k = x38_5.toNatClampNeg
            · rw [e, ← zo, (lg_cmp_eq _ _).mp c61] at u
              exact absurd rfl u
            · exact hE.2.2.2 k (by omega) u
      · skip
        intro T63
        have sg := q58.2.2 (fun z => c61 ((lg_cmp_eq _ _).mpr z))
        have S1' : soI ρ κ38 (zR κ38 odSolver a0) := by rw [es]; exact S1
        refine So_unit_q6 W59 T63 ρ (vU9 κ38 (zR κ38 odSolver a0) x38_5.toNatClampNeg) ?_ (fun κ_64 q65 => ?_)
        · exact od_u9 N1 S1' X1 l5.1 (by omega) sg  -- p27
        obtain ⟨q65, z9⟩ := q65
        have zu := z9
        obtain ⟨⟨Zu, Nu9, Su9⟩, tu, bu, du⟩ := od_v9 X1 l5.1 (by omega) sg q65
        rw [ec] at Zu
        rw [es] at Su9 tu bu du
        rw [ep] at tu bu du
        have Z64 : zF (soF ρ shR9 (zR κ odCalc a0)) κ κ_64 := Z1.tr (soF_m (fun r z => by unfold shR9; rcases z with z | z | z <;> omega) Zu)
        obtain ⟨X2, e2, _, _⟩ := odX9_f W Ta0 N0 Z64 shR9_l X0
        have es2 : zR κ_64 odSolver a0 = (zR κ odSolver a0) := e2 odSolver (Or.inl (by decide)) a0
        have ec2 : zR κ_64 odCalc a0 = (zR κ odCalc a0) := e2 odCalc (Or.inl (by decide)) a0
        have ew2 : zR κ_64 soWhole (zR κ odSolver a0) = (zR κ soWhole (zR κ odSolver a0)) := e2 soWhole (Or.inr (by decide)) _
        have ep2 : zR κ_64 soPart (zR κ odSolver a0) = (zR κ soPart (zR κ odSolver a0)) := e2 soPart (Or.inr (by decide)) _
        have eca : zR κ_64 soCalc (zR κ odSolver a0) = (zR κ odCalc a0) := by
          have y := X2.1.2
          rw [es2, ec2] at y
          exact y
        have eb2 : zR κ_64 raBottom (zR κ soPart (zR κ odSolver a0)) = zR κ38 raBottom (zR κ soPart (zR κ odSolver a0)) := (soF_r9 Zu (by decide)).1
        have w64 := (soF_B (c := 0) W38 (Z1.t tW (by decide)) Zu (by rw [h1]; unfold unR9; decide)).2.1
        have b22 : ρ (zR κ_64 raBottom (zR κ soPart (zR κ odSolver a0))) = 22 := (ra_t9 Nu9 h20 (Or.inl rfl)).1.2
        intro W66
        intro M67
        intro T68
        intro T69
        intro T70
        refine Ca_join_c W66 T68 T69 T70 6500 2000 6500 6500 ?_ (fun κ_71 q72 => ?_)
        · have J := jn_p (w := zR κ_64 raBottom (zR κ soPart (zR κ odSolver a0))) Nu9 Su9 b22 (Or.inr (Or.inr (Or.inl rfl))) ⟨by decide, by decide, by decide⟩ (by rw [ew2, w64]; exact Nat.lt_of_lt_of_le lw1 (pB9_l (by decide))) (by rw [eb2]; exact bu)
          rw [es2, ec2, ep2, ← eca]
          exact J
        intro W73
        intro M74
        intro x75 hx75
        rw [es2, ec2, ep2, ← eca] at q72
        have J := jn_q W66 Nu9 Su9 q72
        have Vj := q72.2.2.2
        rw [ew2, w64, eb2] at Vj
        rw [eca] at J
        refine lp_b5 ?_ (fun d9 => ⟨rfl, ?_⟩)
        · rw [hn38, hx75, ix.2]; omega  -- d29
        · refine and_5 ?_ (fun o9 => ?_)  -- i30
          · refine ⟨rfl, rfl, rfl, rfl, ⟨Z64.tr (soF_m (fun r z => by unfold shR9; rcases z with z | z | z <;> omega) J.2.1), J.1⟩, ?_, ⟨by rw [hx75, ix.2]; omega, by rw [hx75, ix.2]; omega⟩⟩
            rw [Vj]
            exact dz9_lcm D1 du
          · rw [es] at zu
            rw [ep] at zu
            have V38 : vV15 κ38 (zR κ odSolver a0) n9 V9 := vV_f15 W ts N0 Z1 hn shR9_l X0.2.2.2.1 hV9
            have ru := zu _ (V38 _ (show x38_5.toNatClampNeg < n9 by omega)).1
            have eu' : V9 x38_5.toNatClampNeg * mkRat 1 (dvN9 κ38 (zR κ38 soAtlas (zR κ odSolver a0)) x38_5.toNatClampNeg) = un15 κ (zR κ odSolver a0) V9 x38_5.toNatClampNeg := un_f16 W ts Z1 V9 _
            rw [eu'] at ru
            have dn := ru.2.2
            rw [eb2] at dn
            have dp : 0 < (un15 κ (zR κ odSolver a0) V9 x38_5.toNatClampNeg).den := Nat.pos_of_ne_zero (Rat.den_nz _)
            rw [dn] at Vj
            refine ⟨hE.1, fun z => by omega, by rw [Vj]; exact Nat.lcm_pos hE.2.2.1 dp, fun k hk u => ?_⟩
            rw [hx75, ix.1] at hk
            rw [Vj]
            by_cases e : k = x38_5.toNatClampNeg
            · rw [e]
              exact Nat.dvd_lcm_right _ _
            · exact Nat.dvd_trans (hE.2.2.2 k (by omega) u) (Nat.dvd_lcm_left _ _)
  refine ⟨fun c76 => ?_, fun c76 => ?_⟩
  · skip
    refine ⟨fun c77 => ?_, fun c77 => ?_⟩
    · skip
      refine hj22 _ _ _ _ _ _ W ?_ ?_ ?_
      · exact Ta0  -- t31
      · exact Ta3  -- t32
      · refine and_5 ?_ (fun o9 => ?_)  -- k33
        · exact ⟨rfl, rfl, rfl, rfl, rfl, trivial⟩
        · unfold aK16
          rw [if_pos c76, if_neg c77]
    · skip
      refine hj22 _ _ _ _ _ _ W ?_ ?_ ?_
      · exact Ta0  -- t34
      · exact Ta3  -- t35
      · refine and_5 ?_ (fun o9 => ?_)  -- k36
        · exact ⟨rfl, rfl, rfl, rfl, rfl, trivial⟩
        · unfold aK16
          rw [if_pos c76, if_pos c77]
  · skip
    refine hj22 _ _ _ _ _ _ W ?_ ?_ ?_
    · exact Ta0  -- t37
    · exact Ta3  -- t38
    · refine and_5 ?_ (fun o9 => ?_)  -- k39
      · exact ⟨rfl, rfl, rfl, rfl, rfl, trivial⟩
      · unfold aK16
        rw [if_neg c76]

end
section
set_option maxHeartbeats 1600000
/-! the class: show of visits, by its value -/
def gv16 (g : Nat → Int32) (kind : Int32) (k : Nat) : Int := if kind = 9 then 1 else (g k).toInt
noncomputable def vs16 (V : Nat → Rat) (g : Nat → Int32) (kind : Int32) (n : Nat) : Rat := smQ (fun k => V k * ((gv16 g kind k : Int) : Rat)) n
theorem vs_s16 {V : Nat → Rat} {g : Nat → Int32} {kind : Int32} {n : Nat} : vs16 V g kind (n + 1) = vs16 V g kind n + V n * ((gv16 g kind n : Int) : Rat) := rfl
/-- gains stay -/
abbrev gg16 (κ : zS) (a : Nat) : Nat → Int32 := zA κ (zR κ atGains (zR κ soAtlas a))
theorem gg_f16 {C : zC} {n0 a ca : Nat} {ρ : Nat → Nat} {R : Nat → Prop} {κ τ : zS} (W : zW C n0 κ) (Ta : zT κ a = 12) (Z : zF (soF ρ R ca) κ τ) : gg16 τ a = gg16 κ a := by
  unfold gg16
  rw [(soF_r9 Z (f := soAtlas) (by decide)).1, (at_f9 W soF_fr Z (ty_soAtlas W Ta) (f := atGains) (by decide)).2.1]
theorem So_showVisits_q6 {C : zC} {n0 : Nat} {a0 : Nat} {a1 : Int32} {a2 : Int32} {a3 : Nat} {κ : zS} {Q : zS → Prop} (W : zW C n0 κ) (Ta0 : zT κ a0 = 12) (Ta3 : zT κ a3 = 11) (ρ : Nat → Nat) (n9 P9 : Nat) (V9 : Nat → Rat) (hV9 : vV15 κ a0 n9 V9) (hp : (nmI ρ κ ∧ soI ρ κ a0) ∧ suX9 κ a0 n9 ∧ vsI9 ρ κ a0 n9 P9 ∧ (0 < P9 ∧ P9 < pB9 1490) ∧ ρ a3 = 30 ∧ (a1 = 8 → 0 ≤ a2.toInt ∧ a2.toInt < n9)) (h : ∀ (κ' : zS), (((zF (soF ρ shR9 (zR κ soCalc a0)) κ κ' ∧ nmI ρ κ' ∧ soI ρ κ' a0) ∧ (nuN κ' (zR κ soLess a0) < pB9 4000 ∨ nuN κ' (zR κ soLess a0) = nuN κ (zR κ soLess a0))) ∧ (rqW8 κ' a3 (if a1 = 8 then V9 a2.toNatClampNeg else vs16 V9 (gg16 κ a0) a1 n9))) → Q κ') : zRun C 7 mSo_showVisits [.ref a0, .int a1, .int a2, .ref a3] κ (oV Q noX) := by
  refine So_showVisits_run W Ta0 Ta3 ?_
  replace W := W.lo (Nat.le_trans W.1.2.1 W.1.2.2) (Nat.le_refl (zn κ))
  unfold w_So_showVisits_0
  obtain ⟨⟨N0, S0⟩, X0, V0, ⟨P0, P1⟩, r30, p8⟩ := hp
  have hn := X0.1.2.2.1
  have xv0 := X0.2
  have g1 := nm_g N0 S0.1.1 (Or.inl ⟨by decide, by decide⟩) (by decide)
  have o1 : (1 : Int64).toInt.toNat = 1 := rfl
  have h8 := S0.1.2.2.2.2.2.1
  have h7 := S0.1.2.2.2.2.1
  have h20 := S0.1.2.2.2.2.2.2
  have h256 : 2 ^ 256 ≤ pB9 100 := by unfold pB9; decide
  have l20 : pB9 1490 ≤ pB9 2000 := pB9_l (by decide)
  refine ⟨fun c1 => ?_, fun c1 => ?_⟩
  · skip
    intro T2
    refine Nu_put_c W T2 6500 ?_ (fun κ_3 q4 => ?_)
    · exact ⟨by decide, g1.2.2⟩  -- p1
    intro W5
    intro M6
    intro x7 hx7
    obtain ⟨Fp, ⟨Rp, Np⟩, Ip, Vp⟩ := q4
    have Zp : zF (soF ρ shR9 (zR κ soCalc a0)) κ κ_3 := soF_1 (by rw [S0.1.1]; unfold shR9; decide) Fp
    have X3 := suX9_f W Ta0 Zp X0
    have tot : x7.toInt = (n9 : Int) := by rw [hx7]; exact X3.1.1.2.2.2.1
    unfold w_So_showVisits_40
    refine ⟨fun n l0 l1 l3 l4 l5 τ => n = (l4.toInt - l5.toInt).toNat ∧ ((a0 = l0 ∧ a1 = l1 ∧ a3 = l3 ∧ (zF (soF ρ shR9 (zR κ soCalc a0)) κ τ ∧ nmI ρ τ ∧ soI ρ τ a0) ∧ (dz9 (nuN τ (zR κ soWhole a0)) P9) ∧ l4.toInt = (n9 : Int) ∧ (0 ≤ l5.toInt ∧ l5.toInt ≤ l4.toInt)) ∧ 0 < nuN τ (zR κ soWhole a0) ∧ ∀ k, k < l5.toNatClampNeg → V9 k ≠ 0 → gv16 (gg16 κ a0) a1 k ≠ 0 → (V9 k).den ∣ nuN τ (zR κ soWhole a0)), ⟨_, rfl, ?_⟩, ?_⟩
    · refine and_5 ?_ (fun o9 => ⟨by rw [Vp, o1]; decide, fun k hk => absurd hk (Nat.not_lt_zero k)⟩)  -- j2
      exact ⟨rfl, rfl, rfl, ⟨Zp, nm_1 W N0 Fp (by rw [S0.1.1]; exact Ip), so_1 W Ta0 S0 Fp⟩, by rw [Vp, o1]; exact Or.inr (Nat.one_dvd _), tot, ⟨by decide, by rw [t0i]; omega⟩⟩
    rintro n40 _ _ _ x40_4 x40_5 κ40 W40 T40_0 T40_1 ⟨hn40, ⟨rfl, rfl, rfl, i40⟩, hE⟩
    obtain ⟨⟨Z1, N1, S1⟩, D1, e4, l5⟩ := i40
    have X1 := suX9_f W Ta0 Z1 X0
    have V1 := vsI9_f W Ta0 N0 Z1 hn shR9_l V0
    have kc := cnk l5.1
    have ew1 : zR κ40 soWhole a0 = (zR κ soWhole a0) := (soF_r9 Z1 (by decide)).1
    have es1 : zR κ40 soSum a0 = (zR κ soSum a0) := (soF_r9 Z1 (by decide)).1
    have ec1 : zR κ40 soCalc a0 = (zR κ soCalc a0) := (soF_r9 Z1 (by decide)).1
    have xv1 := X1.1.2
    have gM1 := X1.1.1.1
    have lw1 : nuN κ40 (zR κ soWhole a0) < pB9 1490 := Nat.lt_of_le_of_lt (dz9_le D1 P0) P1
    have hj79 : ∀ (l0 : Nat) (l1 : Int32) (l3 : Nat) (l4 : Int32) (l5 : Int32) (τ : zS), zW C (zn κ) τ → zT τ l0 = 12 → zT τ l3 = 11 → ((a0 = l0 ∧ a1 = l1 ∧ a3 = l3 ∧ (zF (soF ρ shR9 (zR κ soCalc a0)) κ τ ∧ nmI ρ τ ∧ soI ρ τ a0) ∧ (κ40 = τ ∧ x40_5 = l5 ∧ x40_4 = l4) ∧ l5.toInt < l4.toInt ∧ zI τ raSign (vU9 τ a0 l5.toNatClampNeg) ≠ 0) ∧ 0 < nuN τ (zR κ soWhole a0) ∧ ∀ k, k < l5.toNatClampNeg → V9 k ≠ 0 → gv16 (gg16 κ a0) a1 k ≠ 0 → (V9 k).den ∣ nuN τ (zR κ soWhole a0)) → w_So_showVisits_79 C (zn κ) Q (fun (l0' : Nat) (l1' : Int32) (l3' : Nat) (l4' : Int32) (l5' : Int32) (τ : zS) => ∃ k < n40, (fun (n : Nat) (l0 : Nat) (l1 : Int32) (l3 : Nat) (l4 : Int32) (l5 : Int32) (τ : zS) => n = (l4.toInt - l5.toInt).toNat ∧ ((a0 = l0 ∧ a1 = l1 ∧ a3 = l3 ∧ (zF (soF ρ shR9 (zR κ soCalc a0)) κ τ ∧ nmI ρ τ ∧ soI ρ τ a0) ∧ (dz9 (nuN τ (zR κ soWhole a0)) P9) ∧ l4.toInt = (n9 : Int) ∧ (0 ≤ l5.toInt ∧ l5.toInt ≤ l4.toInt)) ∧ 0 < nuN τ (zR κ soWhole a0) ∧ ∀ k, k < l5.toNatClampNeg → V9 k ≠ 0 → gv16 (gg16 κ a0) a1 k ≠ 0 → (V9 k).den ∣ nuN τ (zR κ soWhole a0))) k l0' l1' l3' l4' l5' τ) l0 l1 l3 l4 l5 τ := by
      rintro _ _ _ y79_4 y79_5 τ79 W79 T79_0 T79_1 ⟨⟨rfl, rfl, rfl, j79⟩, hE⟩
      unfold w_So_showVisits_79
      obtain ⟨_, ⟨e79, e795, e794⟩, lt79, sg79⟩ := j79
      subst e79
      subst e795
      subst e794
      obtain ⟨v1, v2, v3⟩ := V1 x40_5.toNatClampNeg (by omega)
      obtain ⟨v5, v6, v7⟩ := v3 sg79
      refine ⟨?_, ?_⟩
      · rw [inb_iff]; omega  -- b3
      refine ex_some ?_ (fun u8 hu8 => ?_)
      · exact ⟨_, v1⟩  -- e4
      intro T9
      intro T10
      intro T11
      have eu : u8 = vU9 κ40 a0 x40_5.toNatClampNeg := Option.some.inj (hu8.symm.trans v1)
      subst eu
      have gs := ra_g9 N1 v2 (by omega) (by omega) (by omega)
      have bz : dz9 (nuN κ40 (zR κ40 raBottom (vU9 κ40 a0 x40_5.toNatClampNeg))) P9 := dz9_of v7 (Nat.dvd_mul_right _ _) (Nat.le_mul_of_pos_right _ dvN9_p)
      refine Ca_join_c W79 T9 T10 T11 6500 2000 6500 6500 ?_ (fun κ_12 q13 => ?_)
      · exact jn_p N1 S1 gs.2.1.2 (raR_n gs.1.2).2 ⟨by omega, by omega, by omega⟩ (by rw [ew1]; exact Nat.lt_of_lt_of_le lw1 l20) (Nat.lt_of_lt_of_le v6 h256)  -- p5
      intro W14
      intro M15
      intro x16 hx16
      have J := jn_q W40 N1 S1 q13
      have Vj := q13.2.2.2
      rw [ew1] at Vj
      rw [ec1] at J
      have ix := cn1 (x := x40_5) (by omega) (by omega)
      refine lp_b5 ?_ (fun d9 => ⟨rfl, ?_⟩)
      · rw [hn40, hx16, ix.2]; omega  -- d6
      · refine and_5 ?_ (fun o9 => ?_)  -- i7
        · refine ⟨rfl, rfl, rfl, ⟨Z1.tr (soF_m (fun r z => by unfold shR9; rcases z with z | z | z <;> omega) J.2.1), J.1⟩, ?_, e4, ⟨by rw [hx16, ix.2]; omega, by rw [hx16, ix.2]; omega⟩⟩
          rw [Vj]
          exact dz9_lcm D1 bz
        · have V40 := vV_f15 W Ta0 N0 Z1 hn shR9_l V0 hV9
          have dn := (V40 _ (show x40_5.toNatClampNeg < n9 by omega)).1.2.2
          rw [dn] at Vj
          rw [Vj]
          refine ⟨Nat.lcm_pos hE.1 (Nat.pos_of_ne_zero (Rat.den_nz _)), fun k hk n1 n2 => ?_⟩
          rw [hx16, ix.1] at hk
          by_cases e : k = x40_5.toNatClampNeg
          · rw [e]
            exact Nat.dvd_lcm_right _ _
          · exact Nat.dvd_trans (hE.2 k (by omega) n1 n2) (Nat.dvd_lcm_left _ _)
    have gs1 := nm_g N1 (w := (zR κ soSum a0)) h7 (Or.inl ⟨by decide, by decide⟩) (by decide)
    refine ⟨fun c17 => ?_, fun c17 => ?_⟩
    · skip
      intro T18
      refine Nu_put_c W40 T18 6500 ?_ (fun κ_19 q20 => ?_)
      · rw [es1]
        exact ⟨by decide, gs1.2.2⟩
      rw [es1] at q20
      obtain ⟨Fs, ⟨Rs, Ns⟩, Is, Vs⟩ := q20
      have Zs0 : zF (soF ρ (fun r => r = 7) (zR κ soCalc a0)) κ40 κ_19 := soF_1 h7 Fs
      have Zs : zF (soF ρ shR9 (zR κ soCalc a0)) κ κ_19 := Z1.tr (soF_m (fun r z => by unfold shR9; omega) Zs0)
      have N19 : nmI ρ κ_19 := nm_1 W40 N1 Fs (by rw [h7]; exact Is)
      have S19 : soI ρ κ_19 a0 := so_1 W40 T40_0 S1 Fs
      have el19 : zR κ_19 soLess a0 = (zR κ soLess a0) := (soF_r9 Zs (by decide)).1
      have gl19 := nm_g N19 (w := (zR κ soLess a0)) h8 (Or.inl ⟨by decide, by decide⟩) (by decide)
      have T19 : zT κ_19 a0 = 12 := Fs.t T40_0 (by decide)
      intro W21
      intro M22
      intro T23
      refine Nu_put_c W21 T23 6500 ?_ (fun κ_24 q25 => ?_)
      · rw [el19]
        exact ⟨by decide, gl19.2.2⟩
      intro W26
      intro M27
      rw [el19] at q25
      obtain ⟨Fl, ⟨Rl, Nl⟩, Il, Vl⟩ := q25
      have Zl0 : zF (soF ρ (fun r => r = 8) (zR κ soCalc a0)) κ_19 κ_24 := soF_1 h8 Fl
      have Zl : zF (soF ρ shR9 (zR κ soCalc a0)) κ κ_24 := Zs.tr (soF_m (fun r z => by unfold shR9; omega) Zl0)
      have w19 := soF_B (c := 0) (w := (zR κ soWhole a0)) W40 (by rw [← ew1]; exact ty_soWhole W40 T40_0) Zs0 (by rw [S0.1.1]; decide)
      have w24 := soF_B (c := 0) (w := (zR κ soWhole a0)) W21 (Fs.t (by rw [← ew1]; exact ty_soWhole W40 T40_0) (by decide)) Zl0 (by rw [S0.1.1]; decide)
      have s24 := soF_B (c := 0) (w := (zR κ soSum a0)) W21 (Fs.t (by rw [← es1]; exact ty_soSum W40 T40_0) (by decide)) Zl0 (by rw [h7]; decide)
      unfold w_So_showVisits_125
      refine ⟨fun n l0 l1 l3 l4 l5 τ => n = (l4.toInt - l5.toInt).toNat ∧ ((a0 = l0 ∧ a1 = l1 ∧ a3 = l3 ∧ (zF (soF ρ shR9 (zR κ soCalc a0)) κ τ ∧ nmI ρ τ ∧ soI ρ τ a0) ∧ (nuN τ (zR κ soWhole a0) < pB9 1490 ∧ l4.toInt = (n9 : Int)) ∧ (0 ≤ l5.toInt ∧ l5.toInt ≤ l4.toInt) ∧ nuN τ (zR κ soSum a0) ≤ (nuN τ (zR κ soWhole a0) + 1) * (1 + l5.toNatClampNeg * sM9) ∧ nuN τ (zR κ soLess a0) ≤ (nuN τ (zR κ soWhole a0) + 1) * (1 + l5.toNatClampNeg * sM9)) ∧ 0 < nuN τ (zR κ soWhole a0) ∧ (∀ k, k < n9 → V9 k ≠ 0 → gv16 (gg16 κ a0) a1 k ≠ 0 → (V9 k).den ∣ nuN τ (zR κ soWhole a0)) ∧ ((nuN τ (zR κ soSum a0) : Nat) : Rat) - ((nuN τ (zR κ soLess a0) : Nat) : Rat) = vs16 V9 (gg16 κ a0) a1 l5.toNatClampNeg * ((nuN τ (zR κ soWhole a0) : Nat) : Rat)), ⟨_, rfl, ?_⟩, ?_⟩
      · refine and_5 ?_ (fun o9 => ?_)  -- j10
        · refine ⟨rfl, rfl, rfl, ⟨Zl, nm_1 W21 N19 Fl (by rw [h8]; exact Il), so_1 W21 T19 S19 Fl⟩, ⟨by rw [w24.2.1, w19.2.1]; exact lw1, e4⟩, ⟨by decide, by rw [t0i]; omega⟩, ?_, ?_⟩
          · rw [s24.2.1, Vs]; exact Nat.zero_le _
          · rw [Vl]; exact Nat.zero_le _
        · have e : x40_5.toNatClampNeg = n9 := by
            have y := c17
            rw [lei] at y
            omega
          have z0 : (((0 : Int64).toInt.toNat : Nat) : Rat) = 0 := rfl
          have w0 : vs16 V9 (gg16 κ a0) a1 (0 : Int32).toNatClampNeg = 0 := rfl
          refine ⟨by rw [w24.2.1, w19.2.1]; exact hE.1, fun k hk n1 n2 => by rw [w24.2.1, w19.2.1]; exact hE.2 k (by omega) n1 n2, ?_⟩
          rw [s24.2.1, Vs, Vl, z0, w0, Rat.zero_mul]
          grind
      rintro n125 _ _ _ x125_4 x125_5 κ125 W125 T125_0 T125_1 ⟨hn125, ⟨rfl, rfl, rfl, i125⟩, hE⟩
      obtain ⟨⟨Z2, N2, S2⟩, ⟨lw2, e42⟩, l52, B1, B2⟩ := i125
      have X2 := suX9_f W Ta0 Z2 X0
      have V2 := vsI9_f W Ta0 N0 Z2 hn shR9_l V0
      have kd := cnk l52.1
      have ew2 : zR κ125 soWhole a0 = (zR κ soWhole a0) := (soF_r9 Z2 (by decide)).1
      have es2 : zR κ125 soSum a0 = (zR κ soSum a0) := (soF_r9 Z2 (by decide)).1
      have el2 : zR κ125 soLess a0 = (zR κ soLess a0) := (soF_r9 Z2 (by decide)).1
      have ep2 : zR κ125 soPart a0 = (zR κ soPart a0) := (soF_r9 Z2 (by decide)).1
      have ec2 : zR κ125 soCalc a0 = (zR κ soCalc a0) := (soF_r9 Z2 (by decide)).1
      have xv2 := X2.1.2
      have gM2 := X2.1.1.1
      have b11 : ∀ x, x ≤ (nuN κ125 (zR κ soWhole a0) + 1) * (1 + x125_5.toNatClampNeg * sM9) → x < pB9 4000 := fun x h => sB_9 lw2 (by omega) h
      have hj153 : ∀ (l0 : Nat) (l1 : Int32) (l3 : Nat) (l4 : Int32) (l5 : Int32) (s0 : Int64) (τ : zS), zW C (zn κ) τ → zT τ l0 = 12 → zT τ l3 = 11 → ((a0 = l0 ∧ a1 = l1 ∧ a3 = l3 ∧ (zF (soF ρ shR9 (zR κ soCalc a0)) κ τ ∧ nmI ρ τ ∧ soI ρ τ a0) ∧ (κ125 = τ ∧ x125_5 = l5 ∧ x125_4 = l4) ∧ l5.toInt < l4.toInt ∧ (-2147483648 ≤ s0.toInt ∧ s0.toInt < 2147483648)) ∧ s0.toInt = gv16 (gg16 κ a0) a1 l5.toNatClampNeg ∧ 0 < nuN τ (zR κ soWhole a0) ∧ (∀ k, k < n9 → V9 k ≠ 0 → gv16 (gg16 κ a0) a1 k ≠ 0 → (V9 k).den ∣ nuN τ (zR κ soWhole a0)) ∧ ((nuN τ (zR κ soSum a0) : Nat) : Rat) - ((nuN τ (zR κ soLess a0) : Nat) : Rat) = vs16 V9 (gg16 κ a0) a1 l5.toNatClampNeg * ((nuN τ (zR κ soWhole a0) : Nat) : Rat)) → w_So_showVisits_153 C (zn κ) Q (fun (l0' : Nat) (l1' : Int32) (l3' : Nat) (l4' : Int32) (l5' : Int32) (τ : zS) => ∃ k < n125, (fun (n : Nat) (l0 : Nat) (l1 : Int32) (l3 : Nat) (l4 : Int32) (l5 : Int32) (τ : zS) => n = (l4.toInt - l5.toInt).toNat ∧ ((a0 = l0 ∧ a1 = l1 ∧ a3 = l3 ∧ (zF (soF ρ shR9 (zR κ soCalc a0)) κ τ ∧ nmI ρ τ ∧ soI ρ τ a0) ∧ (nuN τ (zR κ soWhole a0) < pB9 1490 ∧ l4.toInt = (n9 : Int)) ∧ (0 ≤ l5.toInt ∧ l5.toInt ≤ l4.toInt) ∧ nuN τ (zR κ soSum a0) ≤ (nuN τ (zR κ soWhole a0) + 1) * (1 + l5.toNatClampNeg * sM9) ∧ nuN τ (zR κ soLess a0) ≤ (nuN τ (zR κ soWhole a0) + 1) * (1 + l5.toNatClampNeg * sM9)) ∧ 0 < nuN τ (zR κ soWhole a0) ∧ (∀ k, k < n9 → V9 k ≠ 0 → gv16 (gg16 κ a0) a1 k ≠ 0 → (V9 k).den ∣ nuN τ (zR κ soWhole a0)) ∧ ((nuN τ (zR κ soSum a0) : Nat) : Rat) - ((nuN τ (zR κ soLess a0) : Nat) : Rat) = vs16 V9 (gg16 κ a0) a1 l5.toNatClampNeg * ((nuN τ (zR κ soWhole a0) : Nat) : Rat))) k l0' l1' l3' l4' l5' τ) l0 l1 l3 l4 l5 s0 τ := by
        rintro _ _ _ y153_4 y153_5 y153_s0 τ153 W153 T153_0 T153_1 ⟨⟨rfl, rfl, rfl, j153⟩, hE⟩
        unfold w_So_showVisits_153
        obtain ⟨_, ⟨e153, e1535, e1534⟩, lt153, ⟨s01, s02⟩⟩ := j153
        subst e153
        subst e1535
        subst e1534
        obtain ⟨v1, v2, v3⟩ := V2 x125_5.toNatClampNeg (by omega)
        have ix := cn1 (x := x125_5) (by omega) (by omega)
        refine ⟨?_, ?_⟩
        · rw [inb_iff]; omega  -- b11
        refine ex_some ?_ (fun u28 hu28 => ?_)
        · exact ⟨_, v1⟩  -- e12
        refine ⟨fun c29 => ?_, fun c29 => ?_⟩
        · skip
          intro x30 hx30
          refine lp_b5 ?_ (fun d9 => ⟨rfl, ?_⟩)
          · rw [hn125, hx30, ix.2]; omega  -- d13
          · refine and_5 ?_ (fun o9 => ?_)  -- i14
            · exact ⟨rfl, rfl, rfl, ⟨Z2, N2, S2⟩, ⟨lw2, e42⟩, ⟨by rw [hx30, ix.2]; omega, by rw [hx30, ix.2]; omega⟩, by rw [hx30, ix.1]; exact sm_m9 B1, by rw [hx30, ix.1]; exact sm_m9 B2⟩
            · have V125 := vV_f15 W Ta0 N0 Z2 hn shR9_l V0 hV9
              have ev : u28 = vU9 κ125 a0 x125_5.toNatClampNeg := Option.some.inj (hu28.symm.trans v1)
              rw [ev] at c29
              have z : V9 x125_5.toNatClampNeg = 0 := Decidable.byContradiction (fun ne => (rq_015 (V125 _ (show x125_5.toNatClampNeg < n9 by omega)).1).mpr ne c29)
              refine ⟨hE.2.1, hE.2.2.1, ?_⟩
              rw [hx30, ix.1, vs_s16, z, Rat.zero_mul, Rat.add_zero]
              exact hE.2.2.2
        · skip
          refine ⟨fun c31 => ?_, fun c31 => ?_⟩
          · skip
            intro x32 hx32
            refine lp_b5 ?_ (fun d9 => ⟨rfl, ?_⟩)
            · rw [hn125, hx32, ix.2]; omega  -- d15
            · refine and_5 ?_ (fun o9 => ?_)  -- i16
              · exact ⟨rfl, rfl, rfl, ⟨Z2, N2, S2⟩, ⟨lw2, e42⟩, ⟨by rw [hx32, ix.2]; omega, by rw [hx32, ix.2]; omega⟩, by rw [hx32, ix.1]; exact sm_m9 B1, by rw [hx32, ix.1]; exact sm_m9 B2⟩
              · have u0 : gv16 (gg16 κ a0) a1 x125_5.toNatClampNeg = 0 := by rw [← hE.1, (lg_cmp_eq _ _).mp c31]; rfl
                have i0 : ((0 : Int) : Rat) = 0 := rfl
                refine ⟨hE.2.1, hE.2.2.1, ?_⟩
                rw [hx32, ix.1, vs_s16, u0, i0, Rat.mul_zero, Rat.add_zero]
                exact hE.2.2.2
          · skip
            refine ⟨?_, ?_⟩
            · rw [inb_iff]; omega  -- b17
            refine ex_some ?_ (fun u33 hu33 => ?_)
            · exact ⟨_, v1⟩  -- e18
            intro T34
            intro T35
            have eu : u33 = vU9 κ125 a0 x125_5.toNatClampNeg := Option.some.inj (hu33.symm.trans v1)
            subst eu
            have ev : u28 = vU9 κ125 a0 x125_5.toNatClampNeg := Option.some.inj (hu28.symm.trans v1)
            rw [ev] at c29
            obtain ⟨v5, v6, v7⟩ := v3 c29
            have gs := ra_g9 N2 v2 (by omega) (by omega) (by omega)
            have h20' : ρ (zR κ125 soPart a0) = 20 := by rw [ep2]; exact h20
            have gp := ra_t9 N2 h20' (Or.inl rfl)
            have kt := k256 gs.2.2.2.1 v5
            have kb := k256 gs.2.2.2.2.1 v6
            refine Ra_copy_c W153 T34 T35 6500 ?_ (fun κ_36 q37 => ?_)
            · exact ⟨gp.2.1, ⟨nuI_mono (by decide) gs.2.2.2.1, nuI_mono (by decide) gs.2.2.2.2.1, gs.2.2.2.2.2⟩, ⟨ro_n gp.1.1 gs.2.1.1 (by omega), ro_n gp.1.1 gs.2.1.2 (by omega), ro_n gp.1.2 gs.2.1.1 (by omega), ro_n gp.1.2 gs.2.1.2 (by omega)⟩, ⟨by omega, by omega⟩, by decide⟩  -- p19
            obtain ⟨Zc, Jc, Vc⟩ := q37
            have R6 := ra_s9 W125 T125_0 N2 S2 h20' (Or.inl rfl) Zc Jc
            have Z6 := R6.2 (zR κ soCalc a0)
            have T36 : zT κ_36 a0 = 12 := Z6.t T125_0 (by decide)
            have ep6 : zR κ_36 soPart a0 = zR κ125 soPart a0 := (soF_r9 Z6 (by decide)).1
            have ew6 : zR κ_36 soWhole a0 = (zR κ soWhole a0) := (soF_r9 Z6 (by decide)).1.trans ew2
            have es6 : zR κ_36 soSum a0 = (zR κ soSum a0) := (soF_r9 Z6 (by decide)).1.trans es2
            have el6 : zR κ_36 soLess a0 = (zR κ soLess a0) := (soF_r9 Z6 (by decide)).1.trans el2
            have ec6 : zR κ_36 soCalc a0 = (zR κ soCalc a0) := (soF_r9 Z6 (by decide)).1.trans ec2
            have w6 := soF_B (c := 0) (w := (zR κ soWhole a0)) W125 (by rw [← ew2]; exact ty_soWhole W125 T125_0) Z6 (by rw [S0.1.1]; decide)
            have s6 := soF_B (c := 0) (w := (zR κ soSum a0)) W125 (by rw [← es2]; exact ty_soSum W125 T125_0) Z6 (by rw [h7]; decide)
            have l6 := soF_B (c := 0) (w := (zR κ soLess a0)) W125 (by rw [← el2]; exact ty_soLess W125 T125_0) Z6 (by rw [h8]; decide)
            intro W38
            intro M39
            intro T40
            refine So_addTerm_c W38 T40 ρ ?_ (fun κ_41 q42 => ?_)
            · have V125 := vV_f15 W Ta0 N0 Z2 hn shR9_l V0 hV9
              rw [ep6, ew6, es6, el6, w6.2.1, s6.2.1, l6.2.1, Vc.2.1, Vc.2.2]
              exact ⟨R6.1, ⟨by omega, by omega⟩, ⟨Nat.lt_of_lt_of_le lw2 l20, Nat.lt_of_lt_of_le v5 h256, by rw [(V125 _ (show x125_5.toNatClampNeg < n9 by omega)).1.2.2]; exact Nat.pos_of_ne_zero (Rat.den_nz _)⟩, b11 _ B1, b11 _ B2⟩
            intro W43
            intro M44
            intro x45 hx45
            rw [ep6, ew6, es6, el6, ec6, w6.2.1, s6.2.1, l6.2.1, Vc.2.1] at q42
            obtain ⟨Za, Na, A1, A2⟩ := q42
            have Zf : zF (soF ρ shR9 (zR κ soCalc a0)) κ κ_41 := (Z2.tr (soF_m (fun r z => by unfold shR9; omega) Z6)).tr (soF_m (fun r z => by unfold shR9; rcases z with z | z | z | z | z | z <;> omega) Za)
            have w41 := soF_B (c := 0) (w := (zR κ soWhole a0)) W38 (by rw [← ew6]; exact ty_soWhole W38 T36) Za (by rw [S0.1.1]; unfold adR9; decide)
            have tmb : nuN κ125 (zR κ125 raTop (vU9 κ125 a0 x125_5.toNatClampNeg)) * y153_s0.toInt.natAbs * (nuN κ125 (zR κ soWhole a0) + 1) ≤ (nuN κ125 (zR κ soWhole a0) + 1) * sM9 := tm_c9 v5 (by omega)
            refine lp_b5 ?_ (fun d9 => ⟨rfl, ?_⟩)
            · rw [hn125, hx45, ix.2]; omega  -- d21
            · refine and_5 ?_ (fun o9 => ?_)  -- i22
              · refine ⟨rfl, rfl, rfl, ⟨Zf, Na⟩, ⟨by rw [w41.2.1, w6.2.1]; exact lw2, e42⟩, ⟨by rw [hx45, ix.2]; omega, by rw [hx45, ix.2]; omega⟩, ?_, ?_⟩
                · rw [hx45, ix.1, w41.2.1, w6.2.1]
                  by_cases z : 0 < y153_s0.toInt
                  · exact Nat.le_trans (Nat.le_of_eq (A1 z).1) (Nat.le_trans (Nat.add_le_add_left (Nat.mul_le_mul_left _ (Nat.le_succ_of_le (Nat.div_le_self _ _))) _) (sm_s9 B1 tmb))
                  · rw [(A2 z).2]; exact sm_m9 B1
                · rw [hx45, ix.1, w41.2.1, w6.2.1]
                  by_cases z : 0 < y153_s0.toInt
                  · rw [(A1 z).2]; exact sm_m9 B2
                  · exact Nat.le_trans (Nat.le_of_eq (A2 z).1) (Nat.le_trans (Nat.add_le_add_left (Nat.mul_le_mul_left _ (Nat.le_succ_of_le (Nat.div_le_self _ _))) _) (sm_s9 B2 tmb))
              · have V125 := vV_f15 W Ta0 N0 Z2 hn shR9_l V0 hV9
                have H := V125 _ (show x125_5.toNatClampNeg < n9 by omega)
                have vn : V9 x125_5.toNatClampNeg ≠ 0 := (rq_015 H.1).mp c29
                have ne : y153_s0.toInt ≠ 0 := fun e => c31 ((lg_cmp_eq _ _).mpr (Int64.toInt_inj.mp e))
                have dv := hE.2.2.1 x125_5.toNatClampNeg (by omega) vn (by rw [← hE.1]; exact ne)
                have dv' : nuN κ_36 (zR κ_36 raBottom (zR κ125 soPart a0)) ∣ nuN κ125 (zR κ soWhole a0) := by
                  rw [Vc.2.2, H.1.2.2]
                  exact dv
                have T := tn_016 (u := y153_s0.toInt) H.2 H.1.2.1 (Vc.2.2.trans H.1.2.2) dv'
                have y := hE.2.2.2
                refine ⟨by rw [w41.2.1, w6.2.1]; exact hE.2.1, fun k hk n1 n2 => by rw [w41.2.1, w6.2.1]; exact hE.2.2.1 k hk n1 n2, ?_⟩
                rw [hx45, ix.1, vs_s16, w41.2.1, w6.2.1, Rat.add_mul, ← hE.1]
                by_cases z : 0 < y153_s0.toInt
                · obtain ⟨C1, C2⟩ := A1 z
                  rw [C1, C2, Rat.natCast_add, T.1 z]
                  grind
                · obtain ⟨C1, C2⟩ := A2 z
                  rw [C1, C2, Rat.natCast_add, T.2 z]
                  grind
      refine ⟨fun c46 => ?_, fun c46 => ?_⟩
      · skip
        intro T47
        intro T48
        refine So_settle_q6 W125 T47 T48 ρ 1 ?_ (fun κ_49 q50 => ?_)
        · rw [ew2, es2, el2]
          exact ⟨⟨N2, S2⟩, ⟨S0.1.1, Or.inl rfl⟩, Nat.lt_of_lt_of_le lw2 (pB9_l (by decide)), b11 _ B1, b11 _ B2⟩
        obtain ⟨q50, z9⟩ := q50
        have zs := z9
        rw [ew2, es2, el2, ec2] at q50
        obtain ⟨Zt, ⟨Nt, St⟩, O⟩ := q50
        have T49 : zT κ_49 a0 = 12 := Zt.t T125_0 (by decide)
        have ep49 : zR κ_49 soPart a0 = zR κ125 soPart a0 := (soF_r9 Zt (by decide)).1
        have h20' : ρ (zR κ_49 soPart a0) = 20 := by rw [ep49, ep2]; exact h20
        have gp := ra_t9 Nt h20' (Or.inl rfl)
        have go := ra_t9 Nt r30 (Or.inr rfl)
        have et49 : zR κ_49 raTop (zR κ_49 soPart a0) = zR κ125 raTop (zR κ125 soPart a0) := by rw [ep49, (soF_r9 Zt (f := raTop) (by decide)).1]
        have eb49 : zR κ_49 raBottom (zR κ_49 soPart a0) = zR κ125 raBottom (zR κ125 soPart a0) := by rw [ep49, (soF_r9 Zt (f := raBottom) (by decide)).1]
        have lt4 : nuN κ_49 (zR κ_49 raTop (zR κ_49 soPart a0)) < pB9 4000 ∧ nuN κ_49 (zR κ_49 raBottom (zR κ_49 soPart a0)) < pB9 4000 := by
          rw [et49, eb49]
          have p4 : 1 < pB9 4000 := Nat.lt_of_lt_of_le (show 1 < pB9 1 by unfold pB9; decide) (pB9_l (by decide))
          rcases O with ⟨_, _, o1', o2'⟩ | ⟨_, _, o1', o2'⟩
          · rw [o1', o2']
            exact ⟨pB9_p, p4⟩
          · rw [o1', o2']
            refine ⟨Nat.lt_of_le_of_lt (Nat.div_le_self _ _) ?_, Nat.lt_of_le_of_lt (Nat.div_le_self _ _) (Nat.lt_of_lt_of_le lw2 (pB9_l (by decide)))⟩
            have q1 := b11 _ B1
            have q2 := b11 _ B2
            generalize pB9 4000 = B at *
            omega
        have kt := nuK_lt gp.2.2.1 lt4.1
        have kb := nuK_lt gp.2.2.2.1 lt4.2
        intro W51
        intro M52
        intro T53
        intro T54
        refine Ra_copy_c W51 T53 T54 6500 ?_ (fun κ_55 q56 => ?_)
        · exact ⟨go.2.1, ⟨nuI_mono (by decide) gp.2.2.1, nuI_mono (by decide) gp.2.2.2.1, gp.2.2.2.2⟩, ⟨ro_n go.1.1 gp.1.1 (by decide), ro_n go.1.1 gp.1.2 (by decide), ro_n go.1.2 gp.1.1 (by decide), ro_n go.1.2 gp.1.2 (by decide)⟩, ⟨by omega, by omega⟩, by decide⟩  -- p24
        intro W57
        intro M58
        refine h _ ?_
        · refine and_5 ?_ (fun o9 => ?_)  -- q25
          · obtain ⟨Zc, Jc, Vc⟩ := q56
            have R5 := ra_s9 W51 T49 Nt St r30 (Or.inr rfl) Zc Jc
            have Z5 := R5.2 (zR κ soCalc a0)
            have l49 := soF_B (c := 0) (w := (zR κ soLess a0)) W125 (by rw [← el2]; exact ty_soLess W125 T125_0) Zt (by rw [h8]; unfold stR9; decide)
            have l55 := soF_B (c := 0) (w := (zR κ soLess a0)) W51 (Zt.t (by rw [← el2]; exact ty_soLess W125 T125_0) (by decide)) Z5 (by rw [h8]; decide)
            refine ⟨⟨(Z2.tr (soF_m (fun r z => by unfold shR9; rcases z with z | z | z | z <;> omega) Zt)).tr (soF_m (fun r z => by unfold shR9; omega) Z5), R5.1⟩, Or.inl ?_⟩
            rw [l55.2.1, l49.2.1]
            exact b11 _ B2
          · obtain ⟨Zc, Jc, Vc⟩ := q56
            rw [es2, el2] at zs
            rw [ep49] at Vc
            have e : x125_5.toNatClampNeg = n9 := by
              have y := c46
              rw [lei] at y
              omega
            have O' : stO κ125 κ_49 (zR κ125 soPart a0) (zR κ_49 raTop (zR κ125 soPart a0)) (zR κ_49 raBottom (zR κ125 soPart a0)) (nuN κ125 (zR κ soSum a0)) (nuN κ125 (zR κ soLess a0)) (nuN κ125 (zR κ soWhole a0)) := by
              rw [(soF_r9 Zt (f := raTop) (by decide)).1, (soF_r9 Zt (f := raBottom) (by decide)).1]
              exact O
            have R := st_q8 hE.1 O' zs
            have i1 := iv_116
            rw [fr_16 (D := 1) (nq0 hE.1) hE.2.2 (by rw [Rat.one_mul]), i1, Rat.mul_one, e] at R
            rw [if_neg c1]
            exact ⟨Vc.1.trans R.1, Vc.2.1.trans R.2.1, Vc.2.2.trans R.2.2⟩
      · skip
        refine ⟨fun c59 => ?_, fun c59 => ?_⟩
        · skip
          refine ⟨?_, ?_⟩
          · rw [lei] at c46
            rw [inb_iff, gM2.2.2.1]; omega
          refine hj153 _ _ _ _ _ _ _ W125 ?_ ?_ ?_
          · assumption  -- t27
          · assumption  -- t28
          · refine and_5 ?_ (fun o9 => ?_)  -- k29
            · rw [lei] at c46
              have e := Int32.toInt_toInt64 (zA κ125 (zR κ125 atGains (zR κ125 soAtlas a0)) x125_5.toNatClampNeg)
              have e1 := ilo (zA κ125 (zR κ125 atGains (zR κ125 soAtlas a0)) x125_5.toNatClampNeg)
              have e2 := ihi (zA κ125 (zR κ125 atGains (zR κ125 soAtlas a0)) x125_5.toNatClampNeg)
              exact ⟨rfl, rfl, rfl, ⟨Z2, N2, S2⟩, ⟨rfl, rfl, rfl⟩, by omega, by omega, by omega⟩
            · refine ⟨?_, hE⟩
              have eg := gg_f16 W Ta0 Z2
              unfold gv16
              rw [if_neg c59, Int32.toInt_toInt64, ← eg]
        · skip
          refine hj153 _ _ _ _ _ _ _ W125 ?_ ?_ ?_
          · assumption  -- t30
          · assumption  -- t31
          · refine and_5 ?_ (fun o9 => ?_)  -- k32
            · rw [lei] at c46
              exact ⟨rfl, rfl, rfl, ⟨Z2, N2, S2⟩, ⟨rfl, rfl, rfl⟩, by omega, by decide⟩
            · refine ⟨?_, hE⟩
              unfold gv16
              rw [if_pos c59]
              rfl
    · skip
      rw [lei] at c17
      obtain ⟨v1, v2, v3⟩ := V1 x40_5.toNatClampNeg (by omega)
      have ix := cn1 (x := x40_5) (by omega) (by omega)
      refine ⟨?_, ?_⟩
      · rw [inb_iff]; omega  -- b33
      refine ex_some ?_ (fun u60 hu60 => ?_)
      · exact ⟨_, v1⟩  -- e34
      have eu : u60 = vU9 κ40 a0 x40_5.toNatClampNeg := Option.some.inj (hu60.symm.trans v1)
      subst eu
      refine ⟨fun c61 => ?_, fun c61 => ?_⟩
      · skip
        intro x62 hx62
        refine lp_b5 ?_ (fun d9 => ⟨rfl, ?_⟩)
        · rw [hn40, hx62, ix.2]; omega  -- d35
        · refine and_5 ?_ (fun o9 => ?_)  -- i36
          · exact ⟨rfl, rfl, rfl, ⟨Z1, N1, S1⟩, D1, e4, ⟨by rw [hx62, ix.2]; omega, by rw [hx62, ix.2]; omega⟩⟩
          · have V40 := vV_f15 W Ta0 N0 Z1 hn shR9_l V0 hV9
            have z : V9 x40_5.toNatClampNeg = 0 := Decidable.byContradiction (fun ne => (rq_015 (V40 _ (show x40_5.toNatClampNeg < n9 by omega)).1).mpr ne c61)
            refine ⟨hE.1, fun k hk n1 n2 => ?_⟩
            rw [hx62, ix.1] at hk
            by_cases e : k = x40_5.toNatClampNeg
            · rw [e] at n1; exact absurd z n1
            · exact hE.2 k (by omega) n1 n2
      · skip
        refine ⟨fun c63 => ?_, fun c63 => ?_⟩
        · skip
          refine hj79 _ _ _ _ _ _ W40 ?_ ?_ ?_
          · assumption  -- t37
          · assumption  -- t38
          · refine and_5 ?_ (fun o9 => hE)  -- k39
            exact ⟨rfl, rfl, rfl, ⟨Z1, N1, S1⟩, ⟨rfl, rfl, rfl⟩, by omega, c61⟩
        · skip
          refine ⟨?_, ?_⟩
          · rw [inb_iff, gM1.2.2.1]; omega  -- b40
          refine ⟨fun c64 => ?_, fun c64 => ?_⟩
          · skip
            intro x65 hx65
            refine lp_b5 ?_ (fun d9 => ⟨rfl, ?_⟩)
            · rw [hn40, hx65, ix.2]; omega  -- d41
            · refine and_5 ?_ (fun o9 => ?_)  -- i42
              · exact ⟨rfl, rfl, rfl, ⟨Z1, N1, S1⟩, D1, e4, ⟨by rw [hx65, ix.2]; omega, by rw [hx65, ix.2]; omega⟩⟩
              · have eg := gg_f16 W Ta0 Z1
                refine ⟨hE.1, fun k hk n1 n2 => ?_⟩
                rw [hx65, ix.1] at hk
                by_cases e : k = x40_5.toNatClampNeg
                · rw [e] at n2
                  unfold gv16 at n2
                  rw [if_neg c63, ← eg] at n2
                  exact absurd (by rw [show gg16 κ40 a0 x40_5.toNatClampNeg = 0 from c64]; rfl) n2
                · exact hE.2 k (by omega) n1 n2
          · skip
            refine hj79 _ _ _ _ _ _ W40 ?_ ?_ ?_
            · assumption  -- t43
            · assumption  -- t44
            · refine and_5 ?_ (fun o9 => hE)  -- k45
              exact ⟨rfl, rfl, rfl, ⟨Z1, N1, S1⟩, ⟨rfl, rfl, rfl⟩, by omega, c61⟩
  · skip
    refine ⟨?_, ?_⟩
    · have q := p8 c1
      rw [inb_iff]; omega
    refine ex_some ?_ (fun u66 hu66 => ?_)
    · have q := p8 c1
      have k := cnk q.1
      exact ⟨_, (V0 a2.toNatClampNeg (by omega)).1⟩
    intro T67
    intro T68
    have q := p8 c1
    have k := cnk q.1
    obtain ⟨v1, v2, v3⟩ := V0 a2.toNatClampNeg (by omega)
    have eu : u66 = vU9 κ a0 a2.toNatClampNeg := Option.some.inj (hu66.symm.trans v1)
    subst eu
    have gs := ra_g9 N0 v2 (by omega) (by omega) (by omega)
    have go := ra_t9 N0 r30 (Or.inr rfl)
    have kt := nuK_c9 gs.2.2.2.1
    have kb := nuK_c9 gs.2.2.2.2.1
    refine Ra_copy_c W T67 T68 6500 ?_ (fun κ_69 q70 => ?_)
    · exact ⟨go.2.1, ⟨nuI_mono (by decide) gs.2.2.2.1, nuI_mono (by decide) gs.2.2.2.2.1, gs.2.2.2.2.2⟩, ⟨ro_n go.1.1 gs.2.1.1 (by omega), ro_n go.1.1 gs.2.1.2 (by omega), ro_n go.1.2 gs.2.1.1 (by omega), ro_n go.1.2 gs.2.1.2 (by omega)⟩, ⟨by omega, by omega⟩, by decide⟩  -- p48
    intro W71
    intro M72
    refine h _ ?_
    · refine and_5 ?_ (fun o9 => ?_)  -- q49
      · obtain ⟨Zc, Jc, Vc⟩ := q70
        have R5 := ra_s9 W Ta0 N0 S0 r30 (Or.inr rfl) Zc Jc
        have Z5 := R5.2 (zR κ soCalc a0)
        have l5 := soF_B (c := 0) W (ty_soLess W Ta0) Z5 (by rw [h8]; decide)
        exact ⟨⟨soF_m (fun r z => by unfold shR9; omega) Z5, R5.1⟩, Or.inr l5.2.1⟩
      · obtain ⟨Zc, Jc, Vc⟩ := q70
        have H := (hV9 a2.toNatClampNeg (by omega)).1
        rw [if_pos c1]
        exact ⟨Vc.1.trans H.1, Vc.2.1.trans H.2.1, Vc.2.2.trans H.2.2⟩

end
section
set_option maxHeartbeats 1600000
/-! the class: odds of what was drawn; what can be shown -/
def pd16 (w t : Nat → Int32) : Nat → Rat
  | 0 => 1
  | n + 1 => pd16 w t n * mkRat (w n).toInt (t n).toInt.toNat
theorem pd_n16 {w t : Nat → Int32} : ∀ {n : Nat}, (∀ m : Nat, m < n → 0 ≤ (w m).toInt ∧ 0 < (t m).toInt) → 0 ≤ pd16 w t n
  | 0, _ => by
    show (0 : Rat) ≤ 1
    decide
  | n + 1, h => Rat.mul_nonneg (pd_n16 (fun m hm => h m (by omega))) (mk_nn (by have := (h n (by omega)).2; omega) (h n (by omega)).1)
abbrev dW16 (κ : zS) (a : Nat) : Nat → Int32 := zA κ (zR κ chDrawnWeights a)
abbrev dT16 (κ : zS) (a : Nat) : Nat → Int32 := zA κ (zR κ chDrawnTotals a)
abbrev dC16 (κ : zS) (a : Nat) : Int := (zJ κ (zR κ chRecord a) 3).toInt
def dO16 (κ : zS) (a : Nat) : Prop := (0 ≤ dC16 κ a ∧ dC16 κ a ≤ (zN κ (zR κ chDrawnWeights a) : Int) ∧ zN κ (zR κ chDrawnTotals a) = zN κ (zR κ chDrawnWeights a)) ∧ ∀ n : Nat, (n : Int) < dC16 κ a → 0 ≤ (dW16 κ a n).toInt ∧ 0 < (dT16 κ a n).toInt
theorem rF_n16 {t b a f x : Nat} (h : f ≠ nuLimbs ∧ f ≠ nuLength ∧ f ≠ raSign) : ¬ raF t b a f x := fun z => by
  rcases z with ⟨_, z | z⟩ | ⟨_, z⟩
  · exact h.1 z
  · exact h.2.1 z
  · exact h.2.2 z
theorem rF_d16 {C : zC} {n0 t b u a : Nat} {κ τ : zS} (W : zW C n0 κ) (Ta : zT κ a = 15) (Z : zF (raF t b u) κ τ) : dW16 τ a = dW16 κ a ∧ dT16 τ a = dT16 κ a ∧ dC16 τ a = dC16 κ a := by
  refine ⟨?_, ?_, ?_⟩
  · unfold dW16
    rw [(Z.row W (show zr chDrawnWeights = some 20 by decide +kernel) (by decide) Ta (rF_n16 (by decide))).1]
  · unfold dT16
    rw [(Z.row W (show zr chDrawnTotals = some 20 by decide +kernel) (by decide) Ta (rF_n16 (by decide))).1]
  · unfold dC16
    rw [(Z.row W (show zr chRecord = some 22 by decide +kernel) (by decide) Ta (rF_n16 (by decide))).2.1]
theorem Ch_showPlay_q6 {C : zC} {n0 : Nat} {a0 : Nat} {κ : zS} {Q : zS → Prop} (W : zW C n0 κ) (Ta0 : zT κ a0 = 15) (hD9 : dO16 κ a0) (hp : raC κ (zR κ chShown a0) 6500 ∧ ((zN κ (zR κ chDrawnWeights a0)) ≤ 4000 ∧ (zN κ (zR κ chRecord a0)) = 5)) (h : ∀ (κ' : zS), ((zF (raF (zR κ raTop (zR κ chShown a0)) (zR κ raBottom (zR κ chShown a0)) (zR κ chShown a0)) κ κ' ∧ raJ κ' (zR κ chShown a0) 6500) ∧ (rqW8 κ' (zR κ chShown a0) (pd16 (dW16 κ a0) (dT16 κ a0) (dC16 κ a0).toNat))) → Q κ') : zRun C 5 mCh_showPlay [.ref a0] κ (oV Q noX) := by
  refine Ch_showPlay_run W Ta0 ?_
  replace W := W.lo (Nat.le_trans W.1.2.1 W.1.2.2) (Nat.le_refl (zn κ))
  unfold w_Ch_showPlay_0
  intro T1
  refine Ra_putOne_c W T1 6500 ?_ (fun κ_2 q3 => ?_)
  · exact hp.1  -- p1
  intro W4
  intro M5
  have r2 : ∀ f b, f ≠ nuLimbs → f ≠ nuLength → f ≠ raSign → zR κ_2 f b = zR κ f b := fun f b h1 h2 h3 => raF_r q3.1 h1 h2 h3
  refine ⟨?_, ?_⟩
  · have e3 : (3 : Int32).toInt = 3 := rfl
    rw [inb_iff, r2 chRecord _ (by decide) (by decide) (by decide), q3.1.l (ty_chRecord W Ta0), hp.2.2, e3]
    omega
  intro x6 hx6
  unfold w_Ch_showPlay_16
  refine ⟨fun n l0 l1 l3 τ => n = (4000 - l3.toInt).toNat ∧ ((a0 = l0 ∧ zF (raF (zR κ raTop (zR κ chShown a0)) (zR κ raBottom (zR κ chShown a0)) (zR κ chShown a0)) κ τ ∧ raJ τ (zR κ chShown a0) 6500 ∧ 0 ≤ l3.toInt ∧ nuN τ (zR κ raTop (zR κ chShown a0)) < pB9 (l3.toInt.toNat + 1) ∧ nuN τ (zR κ raBottom (zR κ chShown a0)) < pB9 (l3.toInt.toNat + 1)) ∧ l1.toInt = dC16 κ a0 ∧ l3.toInt ≤ l1.toInt ∧ rqW8 τ (zR κ chShown a0) (pd16 (dW16 κ a0) (dT16 κ a0) l3.toNatClampNeg)), ⟨_, rfl, ?_⟩, ?_⟩
  · refine and_5 ?_ (fun o9 => ?_)  -- j3
    · obtain ⟨v1, v2, v3⟩ := q3.2.2
      rw [r2 raTop _ (by decide) (by decide) (by decide)] at v2
      rw [r2 raBottom _ (by decide) (by decide) (by decide)] at v3
      have e : (0 : Int32).toInt.toNat + 1 = 1 := rfl
      have p1 : 1 < pB9 1 := by unfold pB9; decide
      exact ⟨rfl, q3.1, q3.2.1, by decide, by rw [e, v2]; exact p1, by rw [e, v3]; exact p1⟩
    · obtain ⟨v1, v2, v3⟩ := q3.2.2
      have d := (rF_d16 W Ta0 q3.1).2.2
      refine ⟨by rw [hx6]; exact d, ?_, ⟨v1, v2, v3⟩⟩
      have y := hD9.1.1
      rw [← d] at y
      rw [hx6, t0i]
      exact y
  rintro n16 _ x16_1 x16_3 κ16 W16 T16_0 ⟨hn16, ⟨rfl, i16⟩, hE⟩
  refine ⟨fun c7 => ?_, fun c7 => ?_⟩
  · skip
    refine h _ ?_
    · refine and_5 ?_ (fun o9 => ?_)  -- q4
      · exact ⟨i16.1, i16.2.1⟩
      · have c := Int64.le_iff_toInt_le.mp (lg_ge.mp c7)
        rw [Int32.toInt_toInt64] at c
        have e : (dC16 κ a0).toNat = x16_3.toNatClampNeg := by
          show (dC16 κ a0).toNat = x16_3.toInt.toNat
          have y := hE.1
          have y2 := hE.2.1
          omega
        rw [e]
        exact hE.2.2
  · skip
    refine ⟨fun c8 => ?_, fun c8 => ?_⟩
    · skip
      refine h _ ?_
      · refine and_5 ?_ (fun o9 => ?_)  -- q5
        · exact ⟨i16.1, i16.2.1⟩
        · have c : ¬ x16_1 ≤ Int32.toInt64 x16_3 := fun z => c7 (lg_ge.mpr z)
          rw [Int64.le_iff_toInt_le, Int32.toInt_toInt64] at c
          have nw : zN κ16 (zR κ16 chDrawnWeights a0) = zN κ (zR κ chDrawnWeights a0) := by
            rw [raF_r i16.1 (by decide) (by decide) (by decide)]
            exact i16.1.l (ty_chDrawnWeights W Ta0)
          rw [lei, ofn_i (W16.n (ty_chDrawnWeights W16 T16_0)), nw] at c8
          have y := hE.1
          have y2 := hD9.1.2.1
          exfalso
          omega
    · skip
      refine ⟨fun c9 => ?_, fun c9 => ?_⟩
      · skip
        refine h _ ?_
        · refine and_5 ?_ (fun o9 => ?_)  -- q6
          · exact ⟨i16.1, i16.2.1⟩
          · have c : ¬ x16_1 ≤ Int32.toInt64 x16_3 := fun z => c7 (lg_ge.mpr z)
            rw [Int64.le_iff_toInt_le, Int32.toInt_toInt64] at c
            have nw : zN κ16 (zR κ16 chDrawnTotals a0) = zN κ (zR κ chDrawnTotals a0) := by
              rw [raF_r i16.1 (by decide) (by decide) (by decide)]
              exact i16.1.l (ty_chDrawnTotals W Ta0)
            rw [lei, ofn_i (W16.n (ty_chDrawnTotals W16 T16_0)), nw, hD9.1.2.2] at c9
            have y := hE.1
            have y2 := hD9.1.2.1
            exfalso
            omega
      · skip
        obtain ⟨Z6, J6, l0, t6, b6⟩ := i16
        have r6 : ∀ f b, f ≠ nuLimbs → f ≠ nuLength → f ≠ raSign → zR κ16 f b = zR κ f b := fun f b h1 h2 h3 => raF_r Z6 h1 h2 h3
        have rs := r6 chShown a0 (by decide) (by decide) (by decide)
        have rt := r6 raTop (zR κ chShown a0) (by decide) (by decide) (by decide)
        have rb := r6 raBottom (zR κ chShown a0) (by decide) (by decide) (by decide)
        have nw : zN κ16 (zR κ16 chDrawnWeights a0) = zN κ (zR κ chDrawnWeights a0) := by
          rw [r6 chDrawnWeights a0 (by decide) (by decide) (by decide)]
          exact Z6.l (ty_chDrawnWeights W Ta0)
        have h40 := hp.2.1
        rw [lei, ofn_i (W16.n (ty_chDrawnWeights W16 T16_0)), nw] at c8
        rw [lei, ofn_i (W16.n (ty_chDrawnTotals W16 T16_0))] at c9
        have ix := cn1 (x := x16_3) l0 (by omega)
        refine ⟨?_, ?_⟩
        · rw [inb_iff, nw]; omega  -- b7
        refine ⟨?_, ?_⟩
        · rw [inb_iff]; omega  -- b8
        intro T10
        refine Ra_scale_q6 W16 T10 6500 ?_ (fun κ_11 q12 => ?_)
        · rw [rs, rt, rb]
          have I1 := J6.1
          have I2 := J6.2.1
          rw [rt] at I1
          rw [rb] at I2
          have k1 := nuK_lt I1 t6
          have k2 := nuK_lt I2 b6
          exact ⟨J6, ⟨by omega, by omega⟩, by decide⟩
        obtain ⟨q12, z9⟩ := q12
        intro W13
        intro M14
        intro x15 hx15
        rw [rs, rt, rb] at q12
        have r11 : ∀ f b, f ≠ nuLimbs → f ≠ nuLength → f ≠ raSign → zR κ_11 f b = zR κ16 f b := fun f b h1 h2 h3 => raF_r q12.1 h1 h2 h3
        refine lp_b5 ?_ (fun d9 => ⟨rfl, ?_⟩)
        · rw [hn16, hx15, ix.2]; omega  -- d10
        · refine and_5 ?_ (fun o9 => ?_)  -- i11
          · have ek : x15.toInt.toNat + 1 = (x16_3.toInt.toNat + 1) + 1 := by rw [hx15, ix.2]; omega
            have l31 : ∀ z : Int32, z.toInt.toNat < 2147483648 := fun z => by
              have := z.toInt_lt
              omega
            refine ⟨rfl, Z6.tr q12.1, q12.2.1, by rw [hx15, ix.2]; omega, ?_, ?_⟩
            · rw [ek]
              rcases q12.2.2 with ⟨_, y, _⟩ | y
              · rw [r11 raTop _ (by decide) (by decide) (by decide), rt] at y
                rw [y]
                exact pB9_p
              · exact pm_9 t6 y.2.2.1 (l31 _)
            · rw [ek]
              rcases q12.2.2 with ⟨_, _, y⟩ | y
              · rw [r11 raBottom _ (by decide) (by decide) (by decide), rb] at y
                rw [y]
                exact Nat.lt_of_lt_of_le (by unfold pB9; decide : 1 < pB9 1) (pB9_l (by omega))
              · exact pm_9 b6 y.2.2.2.2 (l31 _)
          · have c : ¬ x16_1 ≤ Int32.toInt64 x16_3 := fun z => c7 (lg_ge.mpr z)
            rw [Int64.le_iff_toInt_le, Int32.toInt_toInt64] at c
            have D6 := rF_d16 W Ta0 Z6
            have kx := cnk l0
            have y := hE.1
            have wt := hD9.2 x16_3.toNatClampNeg (by omega)
            have eW : zA κ16 (zR κ16 chDrawnWeights a0) = dW16 κ a0 := D6.1
            have eT : zA κ16 (zR κ16 chDrawnTotals a0) = dT16 κ a0 := D6.2.1
            rw [rs, eW, eT] at z9
            rw [eW, eT] at q12
            have p0 := pd_n16 (w := dW16 κ a0) (t := dT16 κ a0) (n := x16_3.toNatClampNeg) (fun m hm => hD9.2 m (by omega))
            refine ⟨hE.1, by rw [hx15, ix.2]; omega, ?_⟩
            rw [hx15, ix.1]
            show rqW8 κ_11 (zR κ chShown a0) (pd16 (dW16 κ a0) (dT16 κ a0) x16_3.toNatClampNeg * mkRat (dW16 κ a0 x16_3.toNatClampNeg).toInt (dT16 κ a0 x16_3.toNatClampNeg).toInt.toNat)
            by_cases w0 : 0 < (dW16 κ a0 x16_3.toNatClampNeg).toInt
            · exact z9 _ hE.2.2 p0 w0 wt.2
            · have w1 : (dW16 κ a0 x16_3.toNatClampNeg).toInt = 0 := by omega
              have m0 : mkRat 0 (dT16 κ a0 x16_3.toNatClampNeg).toInt.toNat = 0 := by
                have i0 : ((0 : Int) : Rat) = 0 := rfl
                rw [mk_d, i0, Rat.zero_mul]
              rw [w1, m0, Rat.mul_zero]
              rcases q12.2.2 with z | z
              · exact ⟨z.1, z.2.1, z.2.2⟩
              · exact absurd z.1.1 w0

theorem Ch_showsNow_q6 {C : zC} {n0 : Nat} {a0 : Nat} {a1 : Int32} {κ : zS} {Q : Int32 → zS → Prop} (W : zW C n0 κ) (Ta0 : zT κ a0 = 15) (ρ : Nat → Nat) (n9 P9 : Nat) (σ9 : rS) (V9 : Nat → Rat) (hY9 : zI κ soSolved (zR κ chSolver a0) ≠ 0 → tbl15 κ (zR κ odAtlas (zR κ chOdds a0)) n9 σ9 ∧ lst16 κ (zR κ odAtlas (zR κ chOdds a0)) σ9 ∧ vV15 κ (zR κ odSolver (zR κ chOdds a0)) n9 V9) (hp : zI κ soSolved (zR κ chSolver a0) ≠ 0 → odX9 ρ κ (zR κ chOdds a0) n9 P9) (h : ∀ (v : Int32), ((nb v ∧ (v ≠ 0 → (¬ a1 = 12 → ¬ a1 = 11 → zI κ soSolved (zR κ chSolver a0) ≠ 0) ∧ (a1 = 11 → zI κ soPlanned (zR κ chSolver a0) ≠ 0))) ∧ ((v ≠ 0 ↔ (a1 = 12 ∧ zI κ chPlayMade a0 ≠ 0) ∨ (a1 = 11 ∧ zI κ soPlanned (zR κ chSolver a0) ≠ 0) ∨ (¬ a1 = 12 ∧ ¬ a1 = 11 ∧ zI κ soSolved (zR κ chSolver a0) ≠ 0 ∧ (¬ 1 < a1 → n9 = 0 ∨ ∃ k, k < n9 ∧ uV16 σ9 V9 6 0 k ≠ 0) ∧ (a1 = 10 → n9 = 0 ∨ ∃ k, k < n9 ∧ uV16 σ9 V9 7 0 k ≠ 0))))) → Q v κ) : zRun C 6 mCh_showsNow [.ref a0, .int a1] κ (oI Q noX) := by
  refine Ch_showsNow_run W Ta0 ?_
  replace W := W.lo (Nat.le_trans W.1.2.1 W.1.2.2) (Nat.le_refl (zn κ))
  unfold w_Ch_showsNow_0
  have tS := ty_chSolver W Ta0
  refine ⟨fun c1 => ?_, fun c1 => ?_⟩
  · skip
    refine ⟨fun c2 => ?_, fun c2 => ?_⟩
    · skip
      refine ⟨fun c3 => ?_, fun c3 => ?_⟩
      · skip
        refine ⟨fun c4 => ?_, fun c4 => ?_⟩
        · skip
          refine ⟨fun c5 => ?_, fun c5 => ?_⟩
          · skip
            refine h _ ?_
            · refine and_5 ?_ (fun o9 => ⟨fun _ => Or.inr (Or.inr ⟨c1, c2, c3, fun z => absurd c4 z, fun z => absurd z c5⟩), fun _ => by decide⟩)  -- q1
              exact ⟨nb_1, fun _ => ⟨fun _ _ => c3, fun z => absurd z c2⟩⟩
          · skip
            intro T6
            refine Od_weighs_q6 W T6 ρ n9 P9 σ9 V9 (hY9 c3).1 (hY9 c3).2.1 (hY9 c3).2.2 ?_ (fun r7 q9 => ?_)
            · exact hp c3  -- p2
            obtain ⟨q9, z9⟩ := q9
            intro W10
            intro M11
            refine ⟨fun c12 => ?_, fun c12 => ?_⟩
            · skip
              refine h _ ?_
              · refine and_5 ?_ (fun o9 => ?_)  -- q3
                · exact ⟨nb_0, fun z => absurd rfl z⟩
                · refine ⟨fun z => absurd rfl z, fun z => ?_⟩
                  rcases z with ⟨z, _⟩ | ⟨z, _⟩ | ⟨_, _, _, _, z⟩
                  · exact absurd z c1
                  · exact absurd z c2
                  · exact absurd c12 (z9.mpr (z c5))
            · skip
              refine h _ ?_
              · refine and_5 ?_ (fun o9 => ⟨fun _ => Or.inr (Or.inr ⟨c1, c2, c3, fun z => absurd c4 z, fun _ => z9.mp c12⟩), fun _ => by decide⟩)  -- q4
                exact ⟨nb_1, fun _ => ⟨fun _ _ => c3, fun z => absurd z c2⟩⟩
        · skip
          intro T13
          refine Od_weighs_q6 W T13 ρ n9 P9 σ9 V9 (hY9 c3).1 (hY9 c3).2.1 (hY9 c3).2.2 ?_ (fun r14 q16 => ?_)
          · exact hp c3  -- p5
          obtain ⟨q16, z9⟩ := q16
          intro W17
          intro M18
          refine ⟨?_, h _ ?_⟩
          · exact q16  -- b6
          · refine and_5 ?_ (fun o9 => ?_)  -- q7
            · exact ⟨q16, fun _ => ⟨fun _ _ => c3, fun z => absurd z c2⟩⟩
            · refine ⟨fun z => Or.inr (Or.inr ⟨c1, c2, c3, fun _ => z9.mp z, fun e => absurd (by rw [e]; decide) c4⟩), fun z => ?_⟩
              rcases z with ⟨z, _⟩ | ⟨z, _⟩ | ⟨_, _, _, z, _⟩
              · exact absurd z c1
              · exact absurd z c2
              · exact z9.mpr (z c4)
      · skip
        refine h _ ?_
        · refine and_5 ?_ (fun o9 => ?_)  -- q8
          · exact ⟨nb_0, fun z => absurd rfl z⟩
          · refine ⟨fun z => absurd rfl z, fun z => ?_⟩
            rcases z with ⟨z, _⟩ | ⟨z, _⟩ | ⟨_, _, z, _⟩
            · exact absurd z c1
            · exact absurd z c2
            · exact absurd c3 z
    · skip
      refine ⟨?_, h _ ?_⟩
      · exact W.2.2.2.2.2.1 soPlanned _ (by decide) (tS.trans (by decide))  -- b9
      · refine and_5 ?_ (fun o9 => ?_)  -- q10
        · exact ⟨W.2.2.2.2.2.1 soPlanned _ (by decide) (tS.trans (by decide)), fun z => ⟨fun _ y => absurd c2 y, fun _ => z⟩⟩
        · refine ⟨fun z => Or.inr (Or.inl ⟨c2, z⟩), fun z => ?_⟩
          rcases z with ⟨z, _⟩ | ⟨_, z⟩ | ⟨_, z, _⟩
          · exact absurd z c1
          · exact z
          · exact absurd c2 z
  · skip
    refine ⟨?_, h _ ?_⟩
    · exact W.2.2.2.2.2.1 chPlayMade _ (by decide) (Ta0.trans (by decide))  -- b11
    · refine and_5 ?_ (fun o9 => ?_)  -- q12
      · exact ⟨W.2.2.2.2.2.1 chPlayMade _ (by decide) (Ta0.trans (by decide)), fun _ => ⟨fun y => absurd c1 y, fun y => by rw [y] at c1; exact absurd c1 (by decide)⟩⟩
      · refine ⟨fun z => Or.inl ⟨c1, z⟩, fun z => ?_⟩
        rcases z with ⟨_, z⟩ | ⟨z, _⟩ | ⟨z, _⟩
        · exact z
        · rw [z] at c1; exact absurd c1 (by decide)
        · exact absurd c1 z

end
section
set_option maxHeartbeats 1600000
/-! both sides' fractions are one -/
theorem mk_s16 {c : Rat} {f : Nat → Int} {T n : Nat} : smQ (fun d => c * mkRat (f d) T) n = c * mkRat (sI f n) T := by
  have a : smQ (fun d => c * mkRat (f d) T) n = smQ (fun d => ((f d : Int) : Rat) * (((T : Nat) : Rat)⁻¹ * c)) n := smQ_c (fun d _ => by
    rw [mk_d]
    grind)
  rw [a, smQ_mul, ← sI_cast, mk_d]
  grind
theorem sl_016 {σ : rS} {r o : Nat} (h : σ.2.2.1 r o ≤ 0) : slV σ r o = 0 := by
  have e : (σ.2.2.1 r o).toNatClampNeg = 0 := by
    rw [lei, t0i] at h
    show (σ.2.2.1 r o).toInt.toNat = 0
    omega
  unfold slV
  rw [e]
  rfl
theorem fV_16 {σ : rS} {k : Nat} {q : Rat} (h : vR15 σ k q) : fV σ k = q := by
  unfold fV
  rw [h.1, h.2.1, Int.natAbs_of_nonneg (Rat.num_nonneg.mpr h.2.2), Rat.mkRat_self]
theorem vt_16 {σ : rS} {k : Nat} {q : Rat} (h : vR15 σ k q) (o : σ.2.2.1 95 k ≠ 0 ↔ cnE σ k) (z : ¬ cnE σ k → q = 0) : vt16 σ k = q := by
  unfold vt16
  by_cases c : vsV σ k = 0
  · rw [if_pos c]
    unfold vsV at c
    by_cases c1 : σ.2.2.1 95 k = 0
    · exact (z (fun y => o.mpr y c1)).symm
    · rw [if_neg c1] at c
      by_cases c2 : σ.2.2.1 102 (34 * k) ≤ 0
      · have e := h.1
        rw [sl_016 c2] at e
        have n : q.num = 0 := by omega
        exact (Rat.num_eq_zero.mp n).symm
      · rw [if_neg c2] at c
        exact absurd c (by decide)
  · rw [if_neg c]
    exact fV_16 h
noncomputable def uS16 (σ : rS) (V : Nat → Rat) (sh : Nat → Int) (n : Nat) : Rat := smQ (fun k => V k * mkRat (uI16 σ sh k (leN σ k)) (tTI σ k).toNat) n
theorem tp_16 {κ : zS} {b n : Nat} {σ : rS} (h : tbl15 κ b n σ) {k : Nat} (hk : k < n) : 1 ≤ tTI σ k ∧ sI (fun d => twI σ k (loN σ k + d)) (leN σ k) = tTI σ k := by
  have B := tb_n15 h
  have ek : (Int32.ofNat k).toNatClampNeg = k := cl_5 (by omega)
  have ei : (Int32.ofNat k).toInt = (k : Int) := ofn_i (by omega)
  have a := tT_b h.1.1 (j := Int32.ofNat k) (by rw [lei, t0i, ei]; omega) (by rw [lti, ei]; omega)
  have s := tT_sum h.1.1 (j := Int32.ofNat k) (by rw [lei, t0i, ei]; omega) (by rw [lti, ei]; omega)
  rw [ek] at a s
  exact ⟨a.1, s⟩
theorem dv_16 {κ : zS} {b n : Nat} {σ : rS} (h : tbl15 κ b n σ) {k : Nat} (hk : k < n) : dvN9 κ b k = (tTI σ k).toNat := by
  have c := h.2.2.2.1 k hk
  have t := (tp_16 h hk).1
  have e : (dvA κ b k).toInt = tTI σ k := by
    unfold dvA tTI
    rw [c.1, c.2.1]
    split
    · rfl
    · rfl
  unfold dvN9
  rw [e]
  split
  · omega
  · rfl
theorem wq_16 {κ : zS} {a b n : Nat} {σ : rS} {V : Nat → Rat} {kind v : Int32} (h : tbl15 κ b n σ) (ea : zR κ soAtlas a = b) : wK16 κ a σ V kind v n = uS16 σ V (si16 σ kind v) n := smQ_c (fun k hk => by
  unfold un15 uV16
  rw [ea, dv_16 h hk]
  by_cases z : V k = 0
  · rw [z, Rat.zero_mul, Rat.zero_mul, Rat.zero_mul]
  · rw [if_neg z, mk_d, mk_d]
    have i1 : ((1 : Int) : Rat) = 1 := rfl
    rw [i1]
    grind)
theorem sw_16 {σ : rS} {n : Nat} {V : Nat → Rat} {how v b : Int32} (hv : ∀ k, k < n → vt16 σ k = V k) : swS σ how v b n = uS16 σ V (byI σ how v b) n := smQ_c (fun k hk => by
  have e := mk_s16 (c := vt16 σ k) (f := fun d => twI σ k (loN σ k + d) * byI σ how v b (loN σ k + d)) (T := (tTI σ k).toNat) (n := leN σ k)
  rw [hv k hk] at e
  refine Eq.trans ?_ e
  refine smQ_c (fun d _ => ?_)
  show vt16 σ k * _ = _
  rw [hv k hk])
theorem ib_16 {c : Prop} [Decidable c] {x : Int} : (if (if c then (1 : Int32) else 0) = 0 then (0 : Int) else x) = if c then x else 0 := by
  by_cases z : c
  · rw [if_pos z, if_pos z, if_neg (by decide)]
  · rw [if_neg z, if_neg z, if_pos rfl]
theorem mt_016 {σ : rS} {v : Int32} {i : Nat} : mtV σ 0 v i = if σ.2.2.1 77 i = 1 ∧ σ.2.2.1 75 (35 * σ.2.2.1 78 i).toNatClampNeg = v then 1 else 0 := if_pos rfl
theorem mt_116 {σ : rS} {v : Int32} {i : Nat} : mtV σ 1 v i = if σ.2.2.1 77 i = 2 ∧ σ.2.2.1 78 i = v then 1 else 0 := (if_neg (by decide)).trans (if_pos (by decide))
theorem mt_316 {σ : rS} {v : Int32} {i : Nat} : mtV σ 3 v i = if σ.2.2.1 77 i = 2 ∧ σ.2.2.1 78 i = v then 1 else 0 := (if_neg (by decide)).trans (if_pos (by decide))
theorem mt_216 {σ : rS} {v : Int32} {i : Nat} : mtV σ 2 v i = if σ.2.2.1 77 i = 1 ∧ σ.2.2.1 78 i = v then 1 else 0 := (if_neg (by decide)).trans ((if_neg (by decide)).trans (if_pos rfl))
theorem mt_416 {σ : rS} {v : Int32} {i : Nat} : mtV σ 4 v i = if σ.2.2.1 77 i = 3 then 1 else 0 := (if_neg (by decide)).trans ((if_neg (by decide)).trans ((if_neg (by decide)).trans (if_pos rfl)))
theorem mt_516 {σ : rS} {v : Int32} {i : Nat} : mtV σ 5 v i = if σ.2.2.1 77 i = 0 ∧ σ.2.2.1 95 (σ.2.2.1 78 i).toNatClampNeg = 0 then 1 else 0 := (if_neg (by decide)).trans ((if_neg (by decide)).trans ((if_neg (by decide)).trans ((if_neg (by decide)).trans (if_pos rfl))))
theorem mt_616 {σ : rS} {v : Int32} {i : Nat} : mtV σ 6 v i = if σ.2.2.1 77 i = 1 ∨ σ.2.2.1 77 i = 2 then 1 else 0 := (if_neg (by decide)).trans ((if_neg (by decide)).trans ((if_neg (by decide)).trans ((if_neg (by decide)).trans ((if_neg (by decide)).trans (if_pos rfl)))))
theorem mt_716 {σ : rS} {v : Int32} {i : Nat} : mtV σ 7 v i = if σ.2.2.1 77 i = 1 then 1 else 0 := (if_neg (by decide)).trans ((if_neg (by decide)).trans ((if_neg (by decide)).trans ((if_neg (by decide)).trans ((if_neg (by decide)).trans (if_neg (by decide))))))
theorem by_016 {σ : rS} {how v : Int32} {i : Nat} : byI σ how v 0 i = if mtV σ how v i = 0 then 0 else 1 := by
  unfold byI
  split
  · rfl
  · rw [if_pos rfl]
theorem si_b16 {σ : rS} {v : Int32} : si16 σ 0 v = byI σ 0 v 0 ∧ si16 σ 1 v = byI σ 1 v 0 ∧ si16 σ 2 v = byI σ 2 v 0 ∧ si16 σ 3 v = byI σ 3 v 0 ∧ si16 σ 4 v = byI σ 4 v 0 ∧ si16 σ 6 v = byI σ 6 v 0 ∧ si16 σ 7 v = byI σ 7 v 0 := by
  refine ⟨?_, ?_, ?_, ?_, ?_, ?_, ?_⟩
  · funext i; rw [by_016, mt_016, ib_16]; unfold si16; rw [sh_016]
  · funext i; rw [by_016, mt_116, ib_16]; unfold si16; rw [sh_116]
  · funext i; rw [by_016, mt_216, ib_16]; unfold si16; rw [sh_216]
  · funext i; rw [by_016, mt_316, ib_16]; unfold si16; rw [sh_316]
  · funext i; rw [by_016, mt_416, ib_16]; unfold si16; rw [sh_416]
  · funext i; rw [by_016, mt_616, ib_16]; unfold si16; rw [sh_616]
  · funext i; rw [by_016, mt_716, ib_16]; unfold si16; rw [sh_716]
theorem si_t16 {σ : rS} {v : Int32} : si16 σ 10 v = byI σ 7 0 1 := by
  funext i
  unfold byI
  rw [mt_716, ib_16, if_neg (by decide : ¬ (1 : Int32) = 0)]
  unfold si16
  rw [sh_e16 (Or.inr (by decide))]
theorem by_v16 {σ : rS} {v : Int32} : byI σ 6 v 0 = byI σ 6 0 0 ∧ byI σ 7 v 0 = byI σ 7 0 0 := by
  constructor
  · funext i; rw [by_016, by_016, mt_616, mt_616]
  · funext i; rw [by_016, by_016, mt_716, mt_716]
/-- LOST: what doesn't come to an end -/
theorem uI_a16 {σ : rS} {f g : Nat → Int} {k n : Nat} : uI16 σ (fun i => f i + g i) k n = uI16 σ f k n + uI16 σ g k n := by
  unfold uI16
  rw [← sI_ad]
  exact sI_c (fun d _ => by rw [Int.mul_add])
theorem mk_a16 {x y : Int} {T : Nat} : mkRat (x + y) T = mkRat x T + mkRat y T := by
  rw [mk_d, mk_d, mk_d, Rat.intCast_add]
  grind
def op16 (σ : rS) (i : Nat) : Int := if σ.2.2.1 77 i = 0 ∧ ¬ σ.2.2.1 95 (σ.2.2.1 78 i).toNatClampNeg = 0 then 1 else 0
theorem tr_16 {σ : rS} {v : Int32} (i : Nat) : si16 σ 5 v i + byI σ 5 v 0 i + op16 σ i = 1 := by
  rw [by_016, mt_516, ib_16]
  unfold si16 op16
  rw [sh_516]
  by_cases z : σ.2.2.1 77 i = 0
  · by_cases y : σ.2.2.1 95 (σ.2.2.1 78 i).toNatClampNeg = 0
    · rw [if_pos z, if_pos ⟨z, y⟩, if_neg (fun q => q.2 y)]; rfl
    · rw [if_pos z, if_neg (fun q => y q.2), if_pos ⟨z, y⟩]; rfl
  · rw [if_neg z, if_neg (fun q => z q.1), if_neg (fun q => z q.1)]; rfl
theorem us_116 {κ : zS} {b n : Nat} {σ : rS} {V : Nat → Rat} {v : Int32} (h : tbl15 κ b n σ) : uS16 σ V (si16 σ 5 v) n + uS16 σ V (byI σ 5 v 0) n + uS16 σ V (op16 σ) n = smQ V n := by
  unfold uS16
  rw [← smQ_add, ← smQ_add]
  refine smQ_c (fun k hk => ?_)
  have t := tp_16 h hk
  have e : uI16 σ (si16 σ 5 v) k (leN σ k) + uI16 σ (byI σ 5 v 0) k (leN σ k) + uI16 σ (op16 σ) k (leN σ k) = tTI σ k := by
    rw [← uI_a16, ← uI_a16, ← t.2]
    exact sI_c (fun d _ => by
      have q := tr_16 (σ := σ) (v := v) (loN σ k + d)
      show twI σ k (loN σ k + d) * (si16 σ 5 v (loN σ k + d) + byI σ 5 v 0 (loN σ k + d) + op16 σ (loN σ k + d)) = _
      rw [q, Int.mul_one])
  have m : mkRat (tTI σ k) (tTI σ k).toNat = 1 := by
    have c : (((tTI σ k).toNat : Nat) : Int) = tTI σ k := Int.toNat_of_nonneg (by omega)
    have p : (0 : Rat) < (((tTI σ k).toNat : Nat) : Rat) := nq0 (by omega)
    rw [mk_d]
    have c2 : ((tTI σ k : Int) : Rat) = (((tTI σ k).toNat : Nat) : Rat) := by rw [← Rat.intCast_natCast, c]
    rw [c2]
    exact Rat.mul_inv_cancel _ (by grind)
  rw [← Rat.mul_add, ← Rat.mul_add, ← mk_a16, ← mk_a16, e, m, Rat.mul_one]
theorem wp_16 {σ : rS} {k n : Nat} (nx : ∀ d, d < leN σ k → σ.2.2.1 77 (loN σ k + d) = 0 → 0 ≤ (σ.2.2.1 78 (loN σ k + d)).toInt ∧ (σ.2.2.1 78 (loN σ k + d)).toInt < (n : Int)) (hn : n ≤ 1000) : sI (fun j => if ¬ σ.2.2.1 95 j = 0 then wKI σ k (Int32.ofNat j) else 0) n = uI16 σ (op16 σ) k (leN σ k) := by
  have a : sI (fun j => if ¬ σ.2.2.1 95 j = 0 then wKI σ k (Int32.ofNat j) else 0) n = sI (fun j => sI (fun d => if ¬ σ.2.2.1 95 j = 0 then wcI σ k (Int32.ofNat j) (loN σ k + d) else 0) (leN σ k)) n := sI_c (fun j _ => by
    by_cases c : ¬ σ.2.2.1 95 j = 0
    · rw [if_pos c]
      exact sI_c (fun d _ => by rw [if_pos c])
    · rw [if_neg c]
      exact (sI_z.symm.trans (sI_c (fun d _ => by rw [if_neg c]))))
  rw [a, sI_cm]
  refine sI_c (fun d hd => ?_)
  unfold op16
  by_cases z : σ.2.2.1 77 (loN σ k + d) = 0
  · have y := nx d hd z
    have cc := cnk y.1
    have b : sI (fun j => if ¬ σ.2.2.1 95 j = 0 then wcI σ k (Int32.ofNat j) (loN σ k + d) else 0) n = sI (fun j => if j = (σ.2.2.1 78 (loN σ k + d)).toNatClampNeg then (if ¬ σ.2.2.1 95 (σ.2.2.1 78 (loN σ k + d)).toNatClampNeg = 0 then twI σ k (loN σ k + d) else 0) else 0) n := sI_c (fun j hj => by
      have oj : (Int32.ofNat j).toInt = (j : Int) := ofn_i (by omega)
      by_cases e : j = (σ.2.2.1 78 (loN σ k + d)).toNatClampNeg
      · have w : wcI σ k (Int32.ofNat j) (loN σ k + d) = twI σ k (loN σ k + d) := if_pos ⟨z, Int32.toInt_inj.mp (by rw [oj]; omega)⟩
        rw [if_pos e, ← e, w]
      · have w : wcI σ k (Int32.ofNat j) (loN σ k + d) = 0 := if_neg (fun q => e (by
          have w := congrArg Int32.toInt q.2
          rw [oj] at w
          omega))
        rw [if_neg e, w, ite_self])
    rw [b, sI_one, if_pos (by omega)]
    by_cases c : σ.2.2.1 95 (σ.2.2.1 78 (loN σ k + d)).toNatClampNeg = 0
    · rw [if_neg (fun q => q c), if_neg (fun q => q.2 c), Int.mul_zero]
    · rw [if_pos c, if_pos ⟨z, c⟩, Int.mul_one]
  · rw [if_neg (fun q => z q.1), Int.mul_zero]
    refine (sI_c (fun j _ => ?_)).trans sI_z
    have w : wcI σ k (Int32.ofNat j) (loN σ k + d) = 0 := if_neg (fun q => z q.1)
    rw [w, ite_self]
theorem nx_16 {κ : zS} {b n : Nat} {σ : rS} (h : tbl15 κ b n σ) {k : Nat} (hk : k < n) : ∀ d, d < leN σ k → σ.2.2.1 77 (loN σ k + d) = 0 → 0 ≤ (σ.2.2.1 78 (loN σ k + d)).toInt ∧ (σ.2.2.1 78 (loN σ k + d)).toInt < (n : Int) := fun d hd z => by
  have B := tb_n15 h
  have X := tb_k15 h hk
  obtain ⟨_, lo⟩ := lo_r8 h.1.1.1 (x := k) (by rw [← h.1.2.1]; exact hk)
  rw [lei] at lo
  have c0 := cnk X.1
  have c1 := cnk (x := σ.2.2.1 76 (k + 1)) (by omega)
  have c72 := cnk (x := σ.1 72) (by omega)
  have y := (h.1.1.1.2.2.2.2 (loN σ k + d) (by unfold leN loN at hd; unfold loN; omega)).2.1 z
  rw [lei, t0i] at y
  rw [lti] at y
  exact ⟨y.1, by omega⟩
theorem vs_116 {κ : zS} {b n : Nat} {σ : rS} {V : Nat → Rat} (h : tbl15 κ b n σ) (n0 : 0 < n) (o : ∀ k, k < n → (σ.2.2.1 95 k ≠ 0 ↔ cnE σ k)) (E : vE15 (pR15 σ n) n (cnE σ) V) : smQ V n = (if ¬ σ.2.2.1 95 0 = 0 then 1 else 0) + uS16 σ V (op16 σ) n := by
  have B := tb_n15 h
  have e1 : smQ V n = smQ (fun j => (if j = 0 then (if ¬ σ.2.2.1 95 0 = 0 then 1 else 0) else 0) + smQ (fun k => V k * (if ¬ σ.2.2.1 95 j = 0 then pR15 σ n k j else 0)) n) n := smQ_c (fun j hj => by
    by_cases c : σ.2.2.1 95 j = 0
    · have z := E.1 j hj (fun y => (o j hj).mpr y c)
      have s : smQ (fun k => V k * (if ¬ σ.2.2.1 95 j = 0 then pR15 σ n k j else 0)) n = 0 := smQ_0 (fun k _ => by rw [if_neg (fun q => q c), Rat.mul_zero])
      rw [z, s, Rat.add_zero]
      by_cases e : j = 0
      · rw [if_pos e, if_neg (fun q => q (by rw [← e]; exact c))]
      · rw [if_neg e]
    · have z := E.2.1 j hj ((o j hj).mp c)
      have s : smQ (fun k => V k * (if ¬ σ.2.2.1 95 j = 0 then pR15 σ n k j else 0)) n = smQ (fun k => V k * pR15 σ n k j) n := smQ_c (fun k _ => by rw [if_pos c])
      rw [s, z]
      congr 1
      by_cases e : j = 0
      · rw [if_pos e, if_pos e, if_pos (by rw [← e]; exact c)]
      · rw [if_neg e, if_neg e])
  rw [e1, smQ_add]
  congr 1
  · obtain ⟨m, em⟩ : ∃ m, n = m + 1 := ⟨n - 1, by omega⟩
    have r := rx_15 (f := fun _ => (if ¬ σ.2.2.1 95 0 = 0 then (1 : Rat) else 0)) (g := fun _ => 0) (s := n) (m := 1) (d := fun j => if j = 0 then (if ¬ σ.2.2.1 95 0 = 0 then 1 else 0) else 0) (fun _ _ => n0) (fun a b ha hb _ => by omega) (fun k _ ⟨r, _, e⟩ => if_pos e.symm) (fun k _ c => if_neg (fun e => c ⟨0, by omega, e.symm⟩))
    rw [← r]
    show (0 : Rat) + _ = _
    rw [Rat.zero_add]
  · rw [sQ_sw15]
    refine smQ_c (fun k hk => ?_)
    have a : smQ (fun j => V k * (if ¬ σ.2.2.1 95 j = 0 then pR15 σ n k j else 0)) n = smQ (fun j => V k * mkRat (if ¬ σ.2.2.1 95 j = 0 then wKI σ k (Int32.ofNat j) else 0) (tTI σ k).toNat) n := smQ_c (fun j hj => by
      by_cases c : ¬ σ.2.2.1 95 j = 0
      · rw [if_pos c, if_pos c, pR_v15 (by omega) hj]
      · have i0 : ((0 : Int) : Rat) = 0 := rfl
        rw [if_neg c, if_neg c, mk_d, i0, Rat.zero_mul])
    rw [a, mk_s16, wp_16 (nx_16 h hk) B.1]
theorem lost_16 {κ : zS} {b n : Nat} {σ : rS} {V : Nat → Rat} {v : Int32} (h : tbl15 κ b n σ) (n0 : 0 < n) (o : ∀ k, k < n → (σ.2.2.1 95 k ≠ 0 ↔ cnE σ k)) (E : vE15 (pR15 σ n) n (cnE σ) V) : 1 - uS16 σ V (si16 σ 5 v) n = uS16 σ V (byI σ 5 v 0) n + (if σ.2.2.1 95 0 = 0 then 1 else 0) := by
  have a := us_116 (V := V) (v := v) h
  have b := vs_116 h n0 o E
  by_cases c : σ.2.2.1 95 0 = 0
  · rw [if_pos c]
    rw [if_neg (fun q => q c)] at b
    grind
  · rw [if_neg c]
    rw [if_pos c] at b
    grind

end
