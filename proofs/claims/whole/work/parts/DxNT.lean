section
set_option maxHeartbeats 1600000
/-! calls and main, on both sides -/
/-- what the look at the calls changes -/
def fcl6 (T : T5) (Bk N : Nat) (e0 : E5) (σ0 : rS) (e : E5) (σ : rS) : Prop := (e.1 = e0.1 ∧ (∀ g, g ≠ 506 → e.2.1 g = e0.2.1 g) ∧ e.2.2 = e0.2.2 ∧ ∀ j c, c ≤ 10 → c ≠ 5 → e.2.1 506 (11 * j + c) = e0.2.1 506 (11 * j + c)) ∧ σ.1 = σ0.1 ∧ σ.2.1 = σ0.2.1 ∧ (∀ g, g ≠ 39 → σ.2.2.1 g = σ0.2.2.1 g) ∧ σ.2.2.2 = σ0.2.2.2 ∧ ∀ t, t < N → T.2.1 (t + 1) ≠ 40 → σ.2.2.1 39 (Bk + t) = σ0.2.2.1 39 (Bk + t)
/-- whom statement j calls -/
def cal6 (T : T5) (Bk N v : Nat) (F : Nat → Int32) (e : E5) (σ : rS) (j : Nat) : Prop := ∃ t k, t < N ∧ k < v ∧ T.2.1 t = 140 ∧ T.2.1 (t + 1) = 40 ∧ σ.2.2.1 32 j = Int32.ofNat (Bk + t) ∧ F t = Int32.ofNat k ∧ e.2.1 506 (11 * j + 5) = Int32.ofNat k ∧ σ.2.2.1 39 (Bk + t) = Int32.ofNat (300 + k) ∧ e.2.1 504 k = e.2.1 506 (11 * j + 4)
section
variable {T : T5} {X : X5} {Bk N : Nat} {Z : Int32} {s v : Nat} {e0 e' : E5} {σ0 : rS}
theorem f2_c6 (H : TR5 T X Bk N Z) (hT : tq5 e0 = T) (hX : sx5 σ0 = X) (hR : σ0.1 11 = 0) (G : nG5 T Bk N (gE5 e0) (gS5 σ0)) (est : e0.1 513 = Int32.ofNat s) (s19 : σ0.1 19 = Int32.ofNat s) (s150 : s ≤ 150) (hv : e0.1 512 = Int32.ofNat v) (hv10 : v ≤ 10) (hS : ∀ j, j < s → sS5 T X Bk N (e0.2.1 506) (σ0.2.2.1 30) (σ0.2.2.1 32) j) (h40 : ∀ j t, j < s → e0.2.1 506 (11 * j) = 5 → t < N → σ0.2.2.1 32 j = Int32.ofNat (Bk + t) → T.2.1 (t + 1) = 40) : ∀ (m mr i : Nat) (e : E5) (σ : rS), fcl6 T Bk N e0 σ0 e σ → (∀ j, i ≤ j → e.2.1 506 (11 * j + 5) = e0.2.1 506 (11 * j + 5)) → (∀ j, j < i → e0.2.1 506 (11 * j) = 5 → cal6 T Bk N v (fun t => f5_Ta_findName T (e0.2.1 1008) (e0.2.2 1008) (e0.1 512) (Int32.ofNat t)) e σ j) → i ≤ s → s - i < mr → f5_Pa_findCalled_2 m (Int32.ofNat i) e = .inl (e', ()) → ∃ (e1 : E5) (σ1 : rS), fcl6 T Bk N e0 σ0 e1 σ1 ∧ (∀ j, j < s → e0.2.1 506 (11 * j) = 5 → cal6 T Bk N v (fun t => f5_Ta_findName T (e0.2.1 1008) (e0.2.2 1008) (e0.1 512) (Int32.ofNat t)) e1 σ1 j) ∧ f5_Pa_findCalled_107 fu5 0 e1 = .inl (e', ()) ∧ g5_lookAtCalls_2 mr (Int32.ofNat i) σ = g5_lookAtCalls_98 fu5 0 (siU σ1 40 (-1))
  | 0, _, _, _, _, _, _, _, _, _, h => by rw [f5_Pa_findCalled_2] at h; cases h
  | m + 1, mr, i, e, σ, hf, hc5, hca, hi, hmr, h => by
    have ih := f2_c6 H hT hX hR G est s19 s150 hv hv10 hS h40 m
    obtain ⟨mr, rfl⟩ : ∃ k, mr = k + 1 := ⟨mr - 1, by omega⟩
    have hh := H.1
    obtain ⟨⟨x1, x2, x3, x4⟩, y1, y2, y3, y4, y5⟩ := hf
    have hf : fcl6 T Bk N e0 σ0 e σ := ⟨⟨x1, x2, x3, x4⟩, y1, y2, y3, y4, y5⟩
    have li := ofn_i (n := i) (by omega)
    have ls := ofn_i (n := s) (by omega)
    have est' : e.1 coStatements = Int32.ofNat s := by rw [x1]; exact est
    have s19' : σ.1 19 = Int32.ofNat s := by rw [y1]; exact s19
    have ci : (Int32.ofNat i).toNatClampNeg = i := cl_5 (by omega)
    have sxσ : sx5 σ = X := by
      rw [← hX]
      unfold sx5
      rw [y3 5 (by decide), y3 6 (by decide), y3 7 (by decide), y3 9 (by decide), y4]
    have tqe : tq5 e = T := by
      rw [← hT]
      unfold tq5
      rw [x1, x2 taBytes (by decide), x2 taKinds (by decide), x2 taPlaces (by decide), x2 taLengths (by decide), x3]
    have ir : g5_isRight σ = 1 := if_pos (show σ.1 11 = 0 by rw [y1]; exact hR)
    rw [f5_Pa_findCalled_2, est'] at h
    rw [g5_lookAtCalls_2, s19']
    by_cases c : s = i
    · have q : Int32.ofNat s ≤ Int32.ofNat i := by rw [lei]; omega
      rw [if_pos q] at h
      rw [if_pos q, pb_e5]
      exact ⟨e, σ, hf, fun j hj => hca j (by omega), h, rfl⟩
    have q : ¬ Int32.ofNat s ≤ Int32.ofNat i := by rw [lei]; omega
    have i1 : i + 1 ≤ s := by omega
    have i2 : s - (i + 1) < mr := by omega
    have c0 : cl5 (Int32.ofNat i) 0 e = e0.2.1 506 (11 * i) := (cl_55 (s := i) (c := 0) est' (by omega) (by omega) (by decide)).trans (x4 i 0 (by decide) (by decide))
    have c4 : cl5 (Int32.ofNat i) 4 e = e0.2.1 506 (11 * i + 4) := (cl_55 (s := i) (c := 4) est' (by omega) (by omega) (by decide)).trans (x4 i 4 (by decide) (by decide))
    have c5' : cl5 (Int32.ofNat i) 5 e = e0.2.1 506 (11 * i + 5) := (cl_55 (s := i) (c := 5) est' (by omega) (by omega) (by decide)).trans (hc5 i (Nat.le_refl _))
    have sj := hS i (by omega)
    rw [if_neg q, pb_e5, c0] at h
    rw [if_neg q, ci, y3 30 (by decide)]
    by_cases k5 : e0.2.1 506 (11 * i) = 5
    · obtain ⟨t, ht, kt, r5, r32, hc⟩ := sj.2.2 k5
      obtain ⟨v', pF, pc⟩ := G.2.2.1
      have v10 := pF.1
      have vv : v' = v := by
        have y1 := congrArg Int32.toInt (pF.2.1.symm.trans hv)
        rw [ofn_i (by omega), ofn_i (by omega)] at y1
        omega
      subst vv
      have sf : σ.1 18 = Int32.ofNat v' := by rw [y1]; exact pF.2.2.1
      have l8 : e0.2.2 1008 = 10 := G.2.2.2.2.2.1
      have F : fnd5 v' (fun k => dn5 T (e0.2.1 1008 k).toInt.toNat t) (f5_Ta_findName T (e0.2.1 1008) (e0.2.2 1008) (e0.1 512) (Int32.ofNat t)) := fN_5 H pF (by rw [l8]; exact v10) (by rw [l8]; decide) ht kt
      have q2 := fun k hk => pN_s5 H sxσ pF (k := k) hk (y := Int32.ofNat (Bk + t)) rfl ht kt
      have r25 : σ.2.2.1 25 = (gS5 σ0).2.2.2.2.2.1 := y3 25 (by decide)
      rw [← r25] at q2
      have z := fu2_5 (σ := σ) (tok := Int32.ofNat (Bk + t)) (P := fun k => dn5 T (e0.2.1 1008 k).toInt.toNat t) (by omega) sf q2 fu5 0 (by omega) (by unfold fu5; omega) (fun j q => absurd q (by omega))
      have F' : fnd5 v' (fun k => dn5 T (e0.2.1 1008 k).toInt.toNat t) (g5_functionOf (Int32.ofNat (Bk + t)) σ) := by
        unfold g5_functionOf
        rcases z with ⟨j, j1, j2, j3, j4⟩ | ⟨j1, j2⟩
        · exact Or.inr ⟨j, j1, j2, j3, j4⟩
        · exact Or.inl ⟨j2, j1⟩
      have fu := fnd_u5 F' F
      have en : f5_Ta_findName (tq5 e) (e.2.1 paFunctionNames) (e.2.2 paFunctionNames) (e.1 coFunctions) (Int32.ofNat t) = f5_Ta_findName T (e0.2.1 1008) (e0.2.2 1008) (e0.1 512) (Int32.ofNat t) := by
        rw [tqe, x1, x2 paFunctionNames (by decide), x3]
      have cb : g5_calledBy (Int32.ofNat i) σ = Int32.ofNat (Bk + t) := by
        unfold g5_calledBy
        rw [ci, y3 32 (by decide)]
        exact r32
      rw [if_pos k5, pb_e5, c5', r5, pb_e5, en] at h
      rw [if_pos (sj.1.mp k5), pb_e5, ir, if_neg ne105, pb_e5, cb, pb_e5, fu, pb_e5, hc σ sxσ]
      obtain ⟨r, hr⟩ : ∃ r, r = f5_Ta_findName T (e0.2.1 1008) (e0.2.2 1008) (e0.1 512) (Int32.ofNat t) := ⟨_, rfl⟩
      rw [← hr] at h F ⊢
      have ct : (Int32.ofNat (Bk + t)).toNatClampNeg = Bk + t := cl_5 (by omega)
      by_cases rm : r = -1
      · rw [if_pos rm] at h
        unfold f5_Pa_findCalled_82 at h
        cases h
      · rw [if_neg rm, pb_e5, c4] at h
        rw [if_neg rm]
        obtain ⟨k, k1, kr⟩ : ∃ k, k < v' ∧ r = Int32.ofNat k := by
          rcases F with ⟨q, _⟩ | ⟨k, k1, _, _, k2⟩
          · exact absurd q rm
          · exact ⟨k, k1, k2⟩
        have cr : r.toNatClampNeg = k := by rw [kr, cl_5 (by omega)]
        have z1 : e.2.1 504 k = e0.2.1 504 k := by rw [x2 504 (by decide)]
        have z2 : σ.2.2.1 26 k = σ0.2.2.1 26 k := by rw [y3 26 (by decide)]
        have z3 : e0.2.1 504 k = σ0.2.2.1 26 k := pc k k1
        rw [cr, show e.2.1 coNameCounts k = e0.2.1 504 k from z1] at h
        rw [cr, z2, ← z3]
        by_cases ce : e0.2.1 504 k = e0.2.1 506 (11 * i + 4)
        · rw [if_pos ce] at h
          rw [if_pos ce]
          unfold f5_Pa_findCalled_89 at h
          unfold g5_lookAtCalls_74
          rw [stc_5, rdl_5, pb_e5, on_15 (by omega)] at h
          rw [pb_e5, pb_e5, on_15 (by omega), ct]
          have es : stc5 (Int32.ofNat i) 5 r e = (e.1, fun g j => if g = 506 ∧ j = 11 * i + 5 then r else e.2.1 g j, e.2.2) := st_s6 (c := 5) est' (by omega) s150 (by decide)
          have w506 : ∀ p, (stc5 (Int32.ofNat i) 5 r e).2.1 506 p = if p = 11 * i + 5 then r else e.2.1 506 p := fun p => by
            rw [es]
            show (if 506 = 506 ∧ p = 11 * i + 5 then r else e.2.1 506 p) = _
            by_cases w : p = 11 * i + 5
            · rw [if_pos ⟨rfl, w⟩, if_pos w]
            · rw [if_neg (fun q => w q.2), if_neg w]
          have r39 : ∀ p, (riU σ 39 (Bk + t) (300 + r)).2.2.1 39 p = if p = Bk + t then 300 + r else σ.2.2.1 39 p := fun p => ri_s6
          have x300 : (300 : Int32) + r = Int32.ofNat (300 + k) := by
            have l300 : (300 : Int32).toInt = 300 := rfl
            rw [kr]
            exact Int32.toInt_inj.mp (by rw [add_i (by rw [l300, ofn_i (by omega)]; omega) (by rw [l300, ofn_i (by omega)]; omega), l300, ofn_i (by omega), ofn_i (by omega)]; omega)
          refine ih mr (i + 1) _ _ ⟨⟨by rw [stc_15.1]; exact x1, fun g w => by rw [stc_15.2.2 g w]; exact x2 g w, by rw [stc_15.2.1]; exact x3, fun j c w1 w2 => by rw [w506, if_neg (by omega)]; exact x4 j c w1 w2⟩, y1, y2, fun g w => by rw [ri_o6 w]; exact y3 g w, y4, fun t' w1 w2 => ?_⟩ (fun j w => by rw [w506, if_neg (by omega)]; exact hc5 j (by omega)) (fun j w k5' => ?_) i1 i2 h
          · rw [r39, if_neg (fun q => w2 (by
              have : t' = t := by omega
              rw [this]; exact h40 i t (by omega) k5 ht r32))]
            exact y5 t' w1 w2
          · by_cases jw : j = i
            · rw [jw]
              refine ⟨t, k, ht, k1, kt, h40 i t (by omega) k5 ht r32, ?_, hr.symm.trans kr, ?_, ?_, ?_⟩
              · rw [ri_o6 (by decide), y3 32 (by decide)]; exact r32
              · rw [w506, if_pos rfl]; exact kr
              · rw [r39, if_pos rfl]; exact x300
              · rw [stc_15.2.2 504 (by decide), w506, if_neg (by omega), x4 i 4 (by decide) (by decide), z1]; exact ce
            · obtain ⟨t', k', a1, a2, a3, a4, a5, a6, a7, a8, a9⟩ := hca j (by omega) k5'
              refine ⟨t', k', a1, a2, a3, a4, ?_, a6, ?_, ?_, ?_⟩
              · rw [ri_o6 (by decide)]; exact a5
              · rw [w506, if_neg (by omega)]; exact a7
              · rw [r39]
                by_cases tw : Bk + t' = Bk + t
                · have tt : t' = t := by omega
                  rw [if_pos tw, x300]
                  rw [tt] at a6
                  rw [← a8, tt]
                  have y := a6.symm.trans (hr.symm.trans kr)
                  have y := congrArg Int32.toInt y
                  rw [ofn_i (by omega), ofn_i (by omega)] at y
                  have kk : k' = k := by omega
                  rw [← tt, a8, kk]
                · rw [if_neg tw]; exact a8
              · rw [stc_15.2.2 504 (by decide), w506, if_neg (by omega)]; exact a9
        · rw [if_neg ce] at h
          unfold f5_Pa_findCalled_82 at h
          cases h
    · rw [if_neg k5, pb_e5, on_15 (by omega)] at h
      rw [if_neg (fun w => k5 (sj.1.mpr w)), pb_e5, on_15 (by omega)]
      refine ih mr (i + 1) e σ hf (fun j w => hc5 j (by omega)) (fun j w k5' => ?_) i1 i2 h
      by_cases jw : j = i
      · rw [jw] at k5'
        exact absurd k5' k5
      · exact hca j (by omega) k5'
/-- main -/
theorem m107_6 (H : TR5 T X Bk N Z) : ∀ (m mr i : Nat) (e : E5) (σ : rS), tq5 e = T → sx5 σ = X → σ.1 11 = 0 → nG5 T Bk N (gE5 e) (gS5 σ) → e.1 512 = Int32.ofNat v → v ≤ 10 → e.1 514 = σ.1 40 → (e.1 514 = -1 ∨ ∃ k, k < v ∧ e.1 514 = Int32.ofNat k ∧ e.2.1 504 k = 0) → i ≤ v → v - i < mr → f5_Pa_findCalled_107 m (Int32.ofNat i) e = .inl (e', ()) → ∃ σ1 : rS, (∀ g, g ≠ 514 → e'.1 g = e.1 g) ∧ e'.2 = e.2 ∧ (∀ g, g ≠ 40 → σ1.1 g = σ.1 g) ∧ σ1.2 = σ.2 ∧ e'.1 514 = σ1.1 40 ∧ (∃ k, k < v ∧ e'.1 514 = Int32.ofNat k ∧ e'.2.1 504 k = 0) ∧ g5_lookAtCalls_98 mr (Int32.ofNat i) σ = g5_lookAtCalls_204 fu5 0 σ1
  | 0, _, _, _, _, _, _, _, _, _, _, _, _, _, _, h => by rw [f5_Pa_findCalled_107] at h; cases h
  | m + 1, mr, i, e, σ, hT, hX, hR, G, hF, hv10, hm, hm2, hi, hmr, h => by
    have ih := m107_6 H m
    obtain ⟨mr, rfl⟩ : ∃ k, mr = k + 1 := ⟨mr - 1, by omega⟩
    obtain ⟨v', pF, pc⟩ := G.2.2.1
    have v10 := pF.1
    have vv : v' = v := by
      have y1 := congrArg Int32.toInt (pF.2.1.symm.trans hF)
      rw [ofn_i (by omega), ofn_i (by omega)] at y1
      omega
    subst vv
    have li := ofn_i (n := i) (by omega)
    have lv := ofn_i (n := v') (by omega)
    have ef : e.1 coFunctions = Int32.ofNat v' := hF
    have sf : σ.1 18 = Int32.ofNat v' := pF.2.2.1
    have ir : g5_isRight σ = 1 := if_pos hR
    rw [f5_Pa_findCalled_107, ef] at h
    rw [g5_lookAtCalls_98, sf]
    by_cases c : v' = i
    · have q : Int32.ofNat v' ≤ Int32.ofNat i := by rw [lei]; omega
      rw [if_pos q] at h
      rw [if_pos q, pb_e5, ir, if_neg ne105]
      unfold f5_Pa_findCalled_166 at h
      by_cases c1 : e.1 coMain = -1
      · rw [if_pos c1] at h; cases h
      · rw [if_neg c1] at h
        have ee : e = e' := congrArg Prod.fst (Sum.inl.inj h)
        have c2 : ¬ σ.1 40 = -1 := fun y => c1 (hm.trans y)
        rw [if_neg c2, ← ee]
        exact ⟨σ, fun _ _ => rfl, rfl, fun _ _ => rfl, rfl, hm, hm2.resolve_left c1, rfl⟩
    · have q : ¬ Int32.ofNat v' ≤ Int32.ofNat i := by rw [lei]; omega
      have q10 : ¬ (10 : Int32) ≤ Int32.ofNat i := by
        have l10 : (10 : Int32).toInt = 10 := rfl
        rw [lei]; omega
      obtain ⟨t, ht, kt, en, rn⟩ := pF.2.2.2 i (by omega)
      have fn : e.2.1 1008 i = Int32.ofNat t := en
      have sn : σ.2.2.1 25 i = Int32.ofNat (Bk + t) := rn
      have hh := H.1
      have ci : (Int32.ofNat i).toNatClampNeg = i := cl_5 (by omega)
      have ct : (Int32.ofNat (Bk + t)).toNatClampNeg = Bk + t := cl_5 (by omega)
      have mW : g5_word 109 97 105 110 0 0 0 σ = mW5 := rfl
      have x8 : σ.2.2.2 8 (Bk + t) = X.2.2.2.2 (Bk + t) := by rw [← hX]; rfl
      have x9 : σ.2.2.1 9 (Bk + t) = X.2.2.2.1 (Bk + t) := by rw [← hX]; rfl
      have cc : e.2.1 504 i = σ.2.2.1 26 i := pc i (by omega)
      have mn := H.2.2.2.2.2.2.2.1 t ht kt
      rw [if_neg q, if_neg q10, pb_e5, pb_e5, ci, show e.2.1 paFunctionNames i = Int32.ofNat t from fn, hT, mn, show e.2.1 coNameCounts i = σ.2.2.1 26 i from cc, on_15 (by omega)] at h
      rw [if_neg q, pb_e5, pb_e5, ci, sn, ct, mW, x8, x9]
      have same : f5_Pa_findCalled_107 m (Int32.ofNat (i + 1)) e = .inl (e', ()) → ∃ σ1 : rS, (∀ g, g ≠ 514 → e'.1 g = e.1 g) ∧ e'.2 = e.2 ∧ (∀ g, g ≠ 40 → σ1.1 g = σ.1 g) ∧ σ1.2 = σ.2 ∧ e'.1 514 = σ1.1 40 ∧ (∃ k, k < v' ∧ e'.1 514 = Int32.ofNat k ∧ e'.2.1 504 k = 0) ∧ g5_lookAtCalls_164 (g5_lookAtCalls_98 mr) (Int32.ofNat i) (σ.1 40) σ = g5_lookAtCalls_204 fu5 0 σ1 := fun h => by
        unfold g5_lookAtCalls_164
        rw [pb_e5, pb_e5, on_15 (by omega)]
        obtain ⟨σ1, b1, b2, b3, b4, b5, b6, b7⟩ := ih mr (i + 1) e (siU σ 40 (σ.1 40)) hT hX hR G hF hv10 hm hm2 (by omega) (by omega) h
        exact ⟨σ1, b1, b2, fun g w => by rw [b3 g w, si1, if_neg w], b4, b5, b6, b7⟩
      by_cases cm : X.2.2.2.2 (Bk + t) = mW5 ∧ X.2.2.2.1 (Bk + t) = 0
      · rw [if_pos cm, if_neg ne105] at h
        rw [if_pos ((lg_cmp_eq _ _).mpr cm.1), if_pos cm.2]
        by_cases c0 : σ.2.2.1 26 i = 0
        · rw [if_pos c0] at h
          rw [if_pos c0]
          unfold stI5 at h
          unfold g5_lookAtCalls_164
          rw [rdl_5, pb_e5] at h
          rw [pb_e5, pb_e5, on_15 (by omega)]
          obtain ⟨σ1, b1, b2, b3, b4, b5, b6, b7⟩ := ih mr (i + 1) (fun g => if g = coMain then Int32.ofNat i else e.1 g, e.2) (siU σ 40 (Int32.ofNat i)) hT hX hR G hF hv10 rfl (Or.inr ⟨i, by omega, rfl, by rw [show (504 : Nat) = 504 from rfl]; exact cc.trans c0⟩) (by omega) (by omega) h
          exact ⟨σ1, fun g w => (b1 g w).trans (if_neg w), b2, fun g w => by rw [b3 g w, si1, if_neg w], b4, b5, b6, b7⟩
        · rw [if_neg c0] at h
          rw [if_neg c0]
          exact same h
      · rw [if_neg cm, if_pos rfl] at h
        by_cases c8 : X.2.2.2.2 (Bk + t) = mW5
        · rw [if_pos ((lg_cmp_eq _ _).mpr c8), if_neg (fun h => cm ⟨c8, h⟩)]
          exact same h
        · rw [if_neg (fun h => c8 ((lg_cmp_eq _ _).mp h))]
          exact same h
end

end
section
set_option maxHeartbeats 1600000
/-! what follows a statement, on both sides -/
def flw6 (r35 r36 r30 : Nat → Int32) : Nat → Nat → Int32
  | 0, _ => -1
  | m + 1, j => if r35 j = -1 then (if r36 j = -1 then -1 else if r30 (r36 j).toNatClampNeg = 6 then flw6 r35 r36 r30 m (r36 j).toNatClampNeg else r36 j) else r35 j
/-- the class's linkFollows -/
def f5_Co_linkFollows_2 : Nat → Int32 → E5 → R5 Unit
  | 0, _, _ => .inr (0, 0)
  | m5 + 1, a1, e => (if (e.1 coStatements) ≤ a1 then .inl (e, ()) else pb5 (cl5 (a1) ((9 : Int32)) e) (fun r2 => pb5 (cl5 (a1) ((8 : Int32)) e) (fun r3 => (if r3 = (-1 : Int32) then (if r2 = (-1 : Int32) then pb5 (a1 + (1 : Int32)) (fun v1 => f5_Co_linkFollows_2 m5 (v1) e) else pb5 (cl5 (r2) ((0 : Int32)) e) (fun r4 => (if r4 = (7 : Int32) then rdB5 (f5_Co_setColumn (a1) ((8 : Int32)) (r2) e) (fun e5 _ => pb5 (a1 + (1 : Int32)) (fun v1 => f5_Co_linkFollows_2 m5 (v1) e5)) else pb5 (cl5 (r2) ((8 : Int32)) e) (fun r6 => rdB5 (f5_Co_setColumn (a1) ((8 : Int32)) (r6) e) (fun e7 _ => pb5 (a1 + (1 : Int32)) (fun v1 => f5_Co_linkFollows_2 m5 (v1) e7)))))) else pb5 (a1 + (1 : Int32)) (fun v1 => f5_Co_linkFollows_2 m5 (v1) e)))))
section
variable {r35 r36 r30 : Nat → Int32} {s : Nat}
/-- links to parents -/
def pa6 (s : Nat) (r36 r30 : Nat → Int32) : Prop := ∀ j, j < s → r36 j = -1 ∨ ∃ n, n < j ∧ r36 j = Int32.ofNat n ∧ (r30 n = 6 ∨ r30 n = 7)
theorem fo_e6 (hs : s ≤ 150) (hp : pa6 s r36 r30) : ∀ (m m' j : Nat), j < s → j < m → j < m' → flw6 r35 r36 r30 m j = flw6 r35 r36 r30 m' j
  | 0, _, _, _, h, _ => by omega
  | m + 1, 0, _, _, _, h => by omega
  | m + 1, m' + 1, j, h1, h2, h3 => by
    rw [flw6, flw6]
    rcases hp j h1 with q | ⟨n, n1, n2, _⟩
    · rw [if_pos q, if_pos q]
    · have c : (r36 j).toNatClampNeg = n := cln_6 n2 (by omega)
      rw [c, fo_e6 hs hp m m' n (by omega) (by omega) (by omega)]
theorem fo_b6 (hs : s ≤ 150) (hp : pa6 s r36 r30) (h35 : ∀ j, j < s → bl6 s (r35 j)) : ∀ (m j : Nat), j < s → j < m → bl6 s (flw6 r35 r36 r30 m j)
  | 0, _, _, h => by omega
  | m + 1, j, h1, h2 => by
    rw [flw6]
    by_cases c : r35 j = -1
    · rw [if_pos c]
      rcases hp j h1 with q | ⟨n, n1, n2, _⟩
      · rw [if_pos q]; exact Or.inl rfl
      · have c : (r36 j).toNatClampNeg = n := cln_6 n2 (by omega)
        rw [c]
        by_cases d : r36 j = -1
        · rw [if_pos d]; exact Or.inl rfl
        · rw [if_neg d]
          by_cases d2 : r30 n = 6
          · rw [if_pos d2]; exact fo_b6 hs hp h35 m n (by omega) (by omega)
          · rw [if_neg d2]; exact Or.inr ⟨n, by omega, n2⟩
    · rw [if_neg c]; exact h35 j h1
end
/-- rows that are alike below s give the same -/
theorem fo_c6 {r35 r36 r30 q35 q36 : Nat → Int32} {s : Nat} (hs : s ≤ 150) (hp : pa6 s r36 r30) (h35 : ∀ j, j < s → q35 j = r35 j) (h36 : ∀ j, j < s → q36 j = r36 j) : ∀ (m j : Nat), j < s → flw6 q35 q36 r30 m j = flw6 r35 r36 r30 m j
  | 0, _, _ => rfl
  | m + 1, j, h1 => by
    rw [flw6, flw6, h35 j h1, h36 j h1]
    rcases hp j h1 with q | ⟨n, n1, n2, _⟩
    · rw [if_pos q, if_pos q]
    · have c : (r36 j).toNatClampNeg = n := cln_6 n2 (by omega)
      rw [c, fo_c6 hs hp h35 h36 m n (by omega)]
section
variable {s : Nat} {e0 e' : E5} {σ0 : rS} {k0 : Nat → Int32}
/-- the reference's climb -/
theorem l214_6 {B : Int32 → rS → rS} {i : Nat} {σ : rS} (hi : i ≤ 150) (hs : s ≤ 150) (hp : pa6 s (σ.2.2.1 36) (σ.2.2.1 30)) : ∀ (m q : Nat), q < s → q < m → g5_lookAtCalls_214 B m (Int32.ofNat i) (Int32.ofNat q) σ = B (Int32.ofNat (i + 1)) (riU σ 37 i (flw6 (σ.2.2.1 35) (σ.2.2.1 36) (σ.2.2.1 30) m q))
  | 0, _, _, h => by omega
  | m + 1, q, h1, h2 => by
    have cq : (Int32.ofNat q).toNatClampNeg = q := cl_5 (by omega)
    have ci : (Int32.ofNat i).toNatClampNeg = i := cl_5 (by omega)
    rw [g5_lookAtCalls_214, flw6, cq]
    have e260 : g5_lookAtCalls_260 B (Int32.ofNat i) (Int32.ofNat q) σ = if σ.2.2.1 35 q = -1 then B (Int32.ofNat (i + 1)) (riU σ 37 i (σ.2.2.1 36 q)) else B (Int32.ofNat (i + 1)) (riU σ 37 i (σ.2.2.1 35 q)) := by
      unfold g5_lookAtCalls_260 g5_lookAtCalls_290
      rw [cq, ci, pb_e5, pb_e5, pb_e5, pb_e5, on_15 (by omega)]
    by_cases c : σ.2.2.1 35 q = -1
    · rw [if_pos c] at e260
      rw [if_pos c, if_pos c, e260]
      by_cases d : σ.2.2.1 36 q = -1
      · rw [if_pos d, if_pos d, d]
      · rw [if_neg d, if_neg d]
        obtain ⟨n, n1, n2, n3⟩ := (hp q h1).resolve_left d
        have cn : (σ.2.2.1 36 q).toNatClampNeg = n := cln_6 n2 (by omega)
        rw [cn, pb_e5]
        by_cases d2 : σ.2.2.1 30 n = 6
        · rw [if_pos d2, if_pos d2, n2]
          exact l214_6 hi hs hp m n (by omega) (by omega)
        · rw [if_neg d2, if_neg d2]
    · rw [if_neg c] at e260
      rw [if_neg c, if_neg c, e260]
theorem l204_6 (hs : s ≤ 150) (s19 : σ0.1 19 = Int32.ofNat s) (hp : pa6 s (σ0.2.2.1 36) (σ0.2.2.1 30)) : ∀ (m i : Nat) (σ : rS), lk5 σ0 σ → σ.2.1 = σ0.2.1 → (∀ j, j < i → σ.2.2.1 37 j = flw6 (σ0.2.2.1 35) (σ0.2.2.1 36) (σ0.2.2.1 30) (j + 1) j) → i ≤ s → s - i < m → lk5 σ0 (g5_lookAtCalls_204 m (Int32.ofNat i) σ) ∧ (g5_lookAtCalls_204 m (Int32.ofNat i) σ).2.1 = σ0.2.1 ∧ ∀ j, j < s → (g5_lookAtCalls_204 m (Int32.ofNat i) σ).2.2.1 37 j = flw6 (σ0.2.2.1 35) (σ0.2.2.1 36) (σ0.2.2.1 30) (j + 1) j
  | 0, _, _, _, _, _, _, h => by omega
  | m + 1, i, σ, hk, h2, hj, hi, hm => by
    have li := ofn_i (n := i) (by omega)
    have ls := ofn_i (n := s) (by omega)
    rw [g5_lookAtCalls_204, hk.1, s19]
    by_cases c : s = i
    · have q : Int32.ofNat s ≤ Int32.ofNat i := by rw [lei]; omega
      rw [if_pos q]
      exact ⟨hk, h2, fun j w => hj j (by omega)⟩
    · have q : ¬ Int32.ofNat s ≤ Int32.ofNat i := by rw [lei]; omega
      have p35 := hk.2.1 35 (by decide)
      have p36 := hk.2.1 36 (by decide)
      have p30 := hk.2.1 30 (by decide)
      rw [if_neg q, l214_6 (s := s) (by omega) hs (by rw [p36, p30]; exact hp) fu5 i (by omega) (by unfold fu5; omega), p35, p36, p30]
      refine l204_6 hs s19 hp m (i + 1) _ (lk_ri hk) h2 (fun j w => ?_) (by omega) (by omega)
      rw [ri_s6]
      by_cases y : j = i
      · rw [if_pos y, y]
        exact fo_e6 hs hp _ _ i (by omega) (by unfold fu5; omega) (by omega)
      · rw [if_neg y]; exact hj j (by omega)
/-- the class's pass -/
theorem lf_6 (hs : s ≤ 150) (est : e0.1 513 = Int32.ofNat s) (hp : pa6 s (fun j => e0.2.1 506 (11 * j + 9)) k0) (hk : ∀ n, n < s → k0 n = 6 ∨ k0 n = 7 → e0.2.1 506 (11 * n) = k0 n) : ∀ (m i : Nat) (e : E5), e.1 = e0.1 → (∀ g, g ≠ 506 → e.2.1 g = e0.2.1 g) → e.2.2 = e0.2.2 → (∀ j c, c ≤ 10 → c ≠ 8 ∨ i ≤ j → e.2.1 506 (11 * j + c) = e0.2.1 506 (11 * j + c)) → (∀ j, j < i → e.2.1 506 (11 * j + 8) = flw6 (fun j => e0.2.1 506 (11 * j + 8)) (fun j => e0.2.1 506 (11 * j + 9)) k0 (j + 1) j) → i ≤ s → f5_Co_linkFollows_2 m (Int32.ofNat i) e = .inl (e', ()) → e'.1 = e0.1 ∧ (∀ g, g ≠ 506 → e'.2.1 g = e0.2.1 g) ∧ e'.2.2 = e0.2.2 ∧ (∀ j c, c ≤ 10 → c ≠ 8 → e'.2.1 506 (11 * j + c) = e0.2.1 506 (11 * j + c)) ∧ ∀ j, j < s → e'.2.1 506 (11 * j + 8) = flw6 (fun j => e0.2.1 506 (11 * j + 8)) (fun j => e0.2.1 506 (11 * j + 9)) k0 (j + 1) j
  | 0, _, _, _, _, _, _, _, _, h => by rw [f5_Co_linkFollows_2] at h; cases h
  | m + 1, i, e, h1, h2, h3, h4, h5, hi, h => by
    have ih := lf_6 hs est hp hk m
    have li := ofn_i (n := i) (by omega)
    have ls := ofn_i (n := s) (by omega)
    have est' : e.1 coStatements = Int32.ofNat s := by rw [h1]; exact est
    rw [f5_Co_linkFollows_2, est'] at h
    by_cases c : s = i
    · have q : Int32.ofNat s ≤ Int32.ofNat i := by rw [lei]; omega
      rw [if_pos q] at h
      have ee : e = e' := congrArg Prod.fst (Sum.inl.inj h)
      rw [← ee]
      exact ⟨h1, h2, h3, fun j c w1 w2 => h4 j c w1 (Or.inl w2), fun j w => h5 j (by omega)⟩
    · have q : ¬ Int32.ofNat s ≤ Int32.ofNat i := by rw [lei]; omega
      have c9 : cl5 (Int32.ofNat i) 9 e = e0.2.1 506 (11 * i + 9) := (cl_55 (s := i) (c := 9) est' (by omega) (by omega) (by decide)).trans (h4 i 9 (by decide) (Or.inl (by decide)))
      have c8 : cl5 (Int32.ofNat i) 8 e = e0.2.1 506 (11 * i + 8) := (cl_55 (s := i) (c := 8) est' (by omega) (by omega) (by decide)).trans (h4 i 8 (by decide) (Or.inr (Nat.le_refl _)))
      rw [if_neg q, pb_e5, pb_e5, c9, c8] at h
      -- the next, with the follow as it is told
      have st : ∀ x : Int32, x = flw6 (fun j => e0.2.1 506 (11 * j + 8)) (fun j => e0.2.1 506 (11 * j + 9)) k0 (i + 1) i → f5_Co_linkFollows_2 m (Int32.ofNat (i + 1)) (stc5 (Int32.ofNat i) 8 x e) = .inl (e', ()) → e'.1 = e0.1 ∧ (∀ g, g ≠ 506 → e'.2.1 g = e0.2.1 g) ∧ e'.2.2 = e0.2.2 ∧ (∀ j c, c ≤ 10 → c ≠ 8 → e'.2.1 506 (11 * j + c) = e0.2.1 506 (11 * j + c)) ∧ ∀ j, j < s → e'.2.1 506 (11 * j + 8) = flw6 (fun j => e0.2.1 506 (11 * j + 8)) (fun j => e0.2.1 506 (11 * j + 9)) k0 (j + 1) j := fun x hx h => by
        have es : stc5 (Int32.ofNat i) 8 x e = (e.1, fun g j => if g = 506 ∧ j = 11 * i + 8 then x else e.2.1 g j, e.2.2) := st_s6 (c := 8) est' (by omega) hs (by decide)
        have w506 : ∀ p, (stc5 (Int32.ofNat i) 8 x e).2.1 506 p = if p = 11 * i + 8 then x else e.2.1 506 p := fun p => by
          rw [es]
          show (if 506 = 506 ∧ p = 11 * i + 8 then x else e.2.1 506 p) = _
          by_cases w : p = 11 * i + 8
          · rw [if_pos ⟨rfl, w⟩, if_pos w]
          · rw [if_neg (fun q => w q.2), if_neg w]
        refine ih (i + 1) _ (by rw [stc_15.1]; exact h1) (fun g w => by rw [stc_15.2.2 g w]; exact h2 g w) (by rw [stc_15.2.1]; exact h3) (fun j c w1 w2 => ?_) (fun j w => ?_) (by omega) h
        · rw [w506, if_neg (by omega)]
          exact h4 j c w1 (by omega)
        · rw [w506]
          by_cases y : j = i
          · rw [if_pos (by omega), y]; exact hx
          · rw [if_neg (by omega)]; exact h5 j (by omega)
      have same : (e0.2.1 506 (11 * i + 8) = flw6 (fun j => e0.2.1 506 (11 * j + 8)) (fun j => e0.2.1 506 (11 * j + 9)) k0 (i + 1) i) → f5_Co_linkFollows_2 m (Int32.ofNat (i + 1)) e = .inl (e', ()) → e'.1 = e0.1 ∧ (∀ g, g ≠ 506 → e'.2.1 g = e0.2.1 g) ∧ e'.2.2 = e0.2.2 ∧ (∀ j c, c ≤ 10 → c ≠ 8 → e'.2.1 506 (11 * j + c) = e0.2.1 506 (11 * j + c)) ∧ ∀ j, j < s → e'.2.1 506 (11 * j + 8) = flw6 (fun j => e0.2.1 506 (11 * j + 8)) (fun j => e0.2.1 506 (11 * j + 9)) k0 (j + 1) j := fun hx h => by
        refine ih (i + 1) e h1 h2 h3 (fun j c w1 w2 => h4 j c w1 (by omega)) (fun j w => ?_) (by omega) h
        by_cases y : j = i
        · rw [y, h4 i 8 (by decide) (Or.inr (Nat.le_refl _))]; exact hx
        · exact h5 j (by omega)
      have fo1 : flw6 (fun j => e0.2.1 506 (11 * j + 8)) (fun j => e0.2.1 506 (11 * j + 9)) k0 (i + 1) i = if e0.2.1 506 (11 * i + 8) = -1 then (if e0.2.1 506 (11 * i + 9) = -1 then -1 else if k0 (e0.2.1 506 (11 * i + 9)).toNatClampNeg = 6 then flw6 (fun j => e0.2.1 506 (11 * j + 8)) (fun j => e0.2.1 506 (11 * j + 9)) k0 i (e0.2.1 506 (11 * i + 9)).toNatClampNeg else e0.2.1 506 (11 * i + 9)) else e0.2.1 506 (11 * i + 8) := by rw [flw6]
      by_cases d8 : e0.2.1 506 (11 * i + 8) = -1
      · rw [if_pos d8] at h fo1
        by_cases d9 : e0.2.1 506 (11 * i + 9) = -1
        · rw [if_pos d9, pb_e5, on_15 (by omega)] at h
          rw [if_pos d9] at fo1
          exact same (by rw [fo1]; exact d8) h
        · rw [if_neg d9] at h fo1
          obtain ⟨n, n1, n2, n3⟩ := (hp i (by omega)).resolve_left d9
          have n2 : e0.2.1 506 (11 * i + 9) = Int32.ofNat n := n2
          have cn : (e0.2.1 506 (11 * i + 9)).toNatClampNeg = n := cln_6 n2 (by omega)
          have kn := hk n (by omega) n3
          have cn0 : cl5 (Int32.ofNat n) 0 e = k0 n := ((cl_55 (s := n) (c := 0) est' (by omega) (by omega) (by decide)).trans (h4 n 0 (by decide) (Or.inl (by decide)))).trans kn
          rw [cn] at fo1
          rw [n2, pb_e5, cn0] at h
          by_cases d7 : k0 n = 7
          · rw [if_pos d7, stc_5, rdl_5, pb_e5, on_15 (by omega)] at h
            rw [if_neg (by rw [d7]; decide), n2] at fo1
            exact st _ fo1.symm h
          · rw [if_neg d7, pb_e5, stc_5, rdl_5, pb_e5, on_15 (by omega)] at h
            have d6 : k0 n = 6 := n3.resolve_right d7
            rw [if_pos d6] at fo1
            have cn8 : cl5 (Int32.ofNat n) 8 e = flw6 (fun j => e0.2.1 506 (11 * j + 8)) (fun j => e0.2.1 506 (11 * j + 9)) k0 (n + 1) n := (cl_55 (s := n) (c := 8) est' (by omega) (by omega) (by decide)).trans (h5 n n1)
            refine st _ ?_ h
            rw [cn8, fo1]
            exact fo_e6 hs hp _ _ n (by omega) (by omega) n1
      · rw [if_neg d8, pb_e5, on_15 (by omega)] at h
        rw [if_neg d8] at fo1
        exact same fo1.symm h
end

end
section
set_option maxHeartbeats 1600000
/-! a text that is read without a fault ends with its end -/
theorem sf_m6 {α : Type} {Q Q' : E5 → α → rS → Prop} {r : R5 α} {σ : rS} (h : sf5 Q r σ) (hq : ∀ e a, Q e a σ → Q' e a σ) : sf5 Q' r σ := by
  rcases h with h | ⟨e, a, h1, h2⟩ | h
  · exact Or.inl h
  · exact Or.inr (Or.inl ⟨e, a, h1, hq e a h2⟩)
  · exact Or.inr (Or.inr h)
section
variable {T : T5} {X : X5} {Bk N : Nat} {Z : Int32} {a b f t s : Nat} {e : E5} {σ : rS}
theorem rd_e6 (H : TR5 T X Bk N Z) : ∀ m : Nat,
    (∀ (mr n a s : Nat) (e : E5) (σ : rS), oI5 T X Bk N Z a s e σ → e.1 coMain = -1 → n ≤ a → N - a + 2 ≤ mr → sf5 (fun _ _ _ => T.2.1 (N - 1) = 142) (f5_Pa_read_50 m (Int32.ofNat n) e) (g5_tellProgram_84 mr σ)) ∧
    (∀ (mr fs n a b f t s : Nat) (tok : Int32) (e : E5) (σ : rS), iS5 T X Bk N Z a b f t s s e σ → e.1 coMain = -1 → tok = Int32.ofNat (Bk + t) → n ≤ a → N - a + 2 ≤ mr → N - a + 2 ≤ fs → sf5 (fun _ _ _ => T.2.1 (N - 1) = 142) (f5_Pa_read_50 m (Int32.ofNat n) e) (g5_tellProgram_84 mr (tlF5 fs tok σ)))
  | 0 => ⟨fun _ _ _ _ _ _ _ _ _ _ => Or.inl rfl, fun _ _ _ _ _ _ _ _ _ _ _ _ _ _ _ _ _ => Or.inl rfl⟩
  | m + 1 => by
    obtain ⟨ih1, ih2⟩ := rd_e6 H m
    have hh := H.1
    constructor
    · intro mr n a s e σ h hm hn hmr
      have L := h.1
      have aN := L.2.2.1.1
      obtain ⟨mr, rfl⟩ : ∃ k, mr = k + 1 := ⟨mr - 1, by omega⟩
      have ln := ofn_i (n := n) (by omega)
      have lN := ofn_i (n := N) (by omega)
      have eT := lr_T5 H L
      obtain ⟨so, _, _⟩ := lr_so5 H L
      have ko := kd_o5 (lr_kd5 H L)
      rw [f5_Pa_read_50, eT, if_neg (show ¬ Int32.ofNat N < Int32.ofNat n by rw [lti]; omega), if_pos h.2.2.2.1, g5_tellProgram_84, pb_e5, lr_ir5 L, if_neg ne105, so]
      by_cases k142 : e.1 paKind = 142
      · rw [if_pos k142, if_pos (ko.2.2.2.mpr k142)]
        unfold f5_Pa_read_122 f5_Pa_findCalled g5_tellProgram_161 g5_lookAtCalls
        rw [pb_e5, lr_ir5 L, if_neg ne105, pb_e5]
        obtain ⟨v, pF, pc⟩ := h.2.1.2.2.1
        have z := sr_f2 (v := v) H pF.1 ((lr_K5 L).trans k142) h.2.2.2.2.2.1 h.2.2.2.2.2.2.2.1 fu5 fu5 0 (gE5 e) e σ L h.2.1 pF.2.1 h.2.2.2.2.2.2.1 (fun j _ j2 => h.2.2.2.2.2.2.2.2 j j2) hm (by omega) (by have := h.2.2.2.2.2.1; unfold fu5; omega)
        have aN1 : a = N - 1 := by
          have := (H.2.2.2.1 a L.2.2.1.1).mp (Or.inl ((lr_K5 L).trans k142))
          omega
        exact sf_m6 (sf_o5 z (fun e' u q => by rw [kk_f2 _ _ _ _ _ q, k142]; decide)) (fun _ _ _ => by rw [← aN1]; exact (lr_K5 L).trans k142)
      rw [if_neg k142, if_neg (fun q => k142 (ko.2.2.2.mp q))]
      unfold f5_Pa_read_78
      rw [if_pos h.2.2.2.1]
      dsimp only [pb5]
      have bad : ∀ (k : Int32) (p : Int32) (e1 : E5) (u : Unit), f5_Pa_item e = .inl (e1, u) → dk5 p e1 → f5_Pa_read_50 m (Int32.ofNat n + 1) e1 = .inr (0, 0) ∨ f5_Pa_read_50 m (Int32.ofNat n + 1) e1 = .inr (1, p) := fun k p e1 u q d => by
        rw [on_15 (by omega)]
        exact dk_R5 m d (kt_Pa_item eT _ _ q) (by omega) (by omega)
      have km : ∀ (e1 : E5) (u : Unit), f5_Pa_item e = .inl (e1, u) → e1.1 coMain = -1 := fun e1 u q => km_Pa_item hm _ _ q
      have nxt : ∀ (e1 : E5) (σ1 : rS) (V : V5) (W : W5), V = gE5 e → W = gS5 σ → e1.1 coMain = -1 → itP5 T X Bk N Z V W a 0 e1 σ1 → sf5 (fun _ _ _ => T.2.1 (N - 1) = 142) (f5_Pa_read_50 m (Int32.ofNat n + 1) e1) (g5_tellProgram_84 mr σ1) := fun e1 σ1 V W hV hW hm1 I => by
        obtain ⟨a', ha, L1, G1, v1, w1⟩ := I
        rw [hV] at v1
        rw [hW] at w1
        rw [on_15 (by omega)]
        refine ih1 mr (n + 1) a' s e1 σ1 ⟨L1, G1, ?_, ?_, ?_, SS_k5 h.2.2.2.2.2 ?_ ?_ ?_ ?_ ?_⟩ hm1 (by omega) (by omega)
        · have q : e1.1 1010 = e.1 1010 := congrArg (fun x => x.2.2.2.1) v1
          exact q.trans h.2.2.1
        · have q : e1.1 1005 = e.1 1005 := congrArg (fun x => x.2.2.2.2.2.2.2.2.2.2.1) v1
          exact q.trans h.2.2.2.1
        · have q : e1.1 1014 = e.1 1014 := congrArg (fun x => x.2.2.2.2.2.2.2.1) v1
          exact q.trans h.2.2.2.2.1
        · exact congrArg (fun x => x.2.2.2.2.2.1) v1
        · exact congrArg (fun x => x.2.2.2.2.2.2.1) v1
        · exact congrArg (fun x => x.2.2.2.2.2.2.1) w1
        · exact congrArg (fun x => x.2.2.2.2.2.2.2.1) w1
        · exact congrArg (fun x => x.2.2.2.2.2.2.2.2.1) w1
      rw [lr_wk5 H L (k := 150) (by decide) (by decide) rfl, lr_wk5 H L (k := 151) (by decide) (by decide) rfl, lr_wk5 H L (k := 152) (by decide) (by decide) rfl]
      by_cases k150 : e.1 paKind = 150
      · rw [if_pos k150, if_neg ne105]
        refine sf_b5 (Q := fun e' _ σ' => itP5 T X Bk N Z (gE5 e) (gS5 σ) a 0 e' σ') ?_ (fun e1 u q n1 I => nxt e1 _ _ _ rfl rfl (km e1 u q) I) (kq_84 _ _ kq_rf) (bad 0)
        rw [it_15 k150 (Or.inl rfl)]
        exact sr_var H L h.2.1 h.2.2.1 k150
      rw [if_neg k150, if_pos rfl]
      by_cases k151 : e.1 paKind = 151
      · rw [if_pos k151, if_neg ne105]
        refine sf_b5 (Q := fun e' _ σ' => itP5 T X Bk N Z (gE5 e) (gS5 σ) a 0 e' σ') ?_ (fun e1 u q n1 I => nxt e1 _ _ _ rfl rfl (km e1 u q) I) (kq_84 _ _ kq_rf) (bad 0)
        rw [it_15 k151 (Or.inr (Or.inl rfl))]
        exact sr_arr H L h.2.1 h.2.2.1 k151
      rw [if_neg k151, if_pos rfl]
      by_cases k152 : e.1 paKind = 152
      · rw [if_pos k152, if_neg ne105]
        refine sf_b5 (Q := fun e' _ τ => ∃ σ' a' f t tok, τ = tlF5 fu5 tok σ' ∧ a < a' ∧ iS5 T X Bk N Z a' 1 f t s s e' σ' ∧ tok = Int32.ofNat (Bk + t)) ?_ (fun e1 u q n1 I => ?_) (kq_84 _ _ kq_rf) (bad 0)
        · rw [it_15 k152 (Or.inr (Or.inr rfl))]
          exact sr_fun5 H h k152
        · obtain ⟨σ', a', f, t, tok, hτ, ha, I, htok⟩ := I
          rw [hτ, on_15 (by omega)]
          exact ih2 mr fu5 (n + 1) a' 1 f t s tok e1 σ' I (km e1 u q) htok (by omega) (by omega) (by unfold fu5; omega)
      rw [if_neg k152, if_pos rfl, it_n5 k150 k151 k152, lr_rva5 H L, rdr_5]
      have z := kq_84 mr _ (kq_rf (s := g5_flaw 2 (σ.1 10) σ)) (by rw [(lr_fl5 H L).1]; decide)
      exact Or.inr (Or.inr ⟨2, T.2.2.1 a, by decide, z.1.trans (lr_fl5 H L).1, z.2.trans (lr_fl5 H L).2, rfl⟩)
    · intro mr fs n a b f t s tok e σ h hm htok hn hmr hfs
      have L := h.1
      have aN := L.2.2.1.1
      obtain ⟨fs, rfl⟩ : ∃ k, fs = k + 2 := ⟨fs - 2, by omega⟩
      have ln := ofn_i (n := n) (by omega)
      have lN := ofn_i (n := N) (by omega)
      have eT := lr_T5 H L
      have hin : ¬ e.1 paInside = 0 := by
        have z : e.1 1005 = 1 := h.2.1.2.2.2.2.1
        rw [show e.1 paInside = 1 from z]
        decide
      have hbk := h.2.1.2.2.2.2.2.1
      have b0 := h.2.1.2.2.2.2.2.2
      have b40 : b ≤ 40 := by have := L.2.2.2.2.2; omega
      have s42 : σ.1 42 = Int32.ofNat b := hbk.2.1
      have lb := ofn_i (n := b) (by omega)
      have h42 : ¬ σ.1 42 ≤ 0 := by rw [s42, lei, lb, t0i]; omega
      rw [f5_Pa_read_50, eT, if_neg (show ¬ Int32.ofNat N < Int32.ofNat n by rw [lti]; omega), if_neg hin]
      unfold f5_Pa_read_78
      rw [if_neg hin]
      dsimp only [pb5]
      by_cases k125 : e.1 paKind = 125
      · rw [if_pos k125]
        have bad : ∀ (p : Int32) (e1 : E5) (u : Unit), f5_Pa_closeBlock e = .inl (e1, u) → dk5 p e1 → f5_Pa_read_50 m (Int32.ofNat n + 1) e1 = .inr (0, 0) ∨ f5_Pa_read_50 m (Int32.ofNat n + 1) e1 = .inr (1, p) := fun p e1 u q d => by
          rw [on_15 (by omega)]
          exact dk_R5 m d (kt_Pa_closeBlock eT _ _ q) (by omega) (by omega)
        have hA : g5_isAt 125 σ = 1 := by rw [lr_at5 H L (by decide) (by decide), if_pos k125]
        by_cases b1 : b = 1
        · subst b1
          refine sf_b5 (sr_endF H h k125 htok) (fun e1 u q n1 I => ?_) (kq_84 _ _ kq_rf) bad
          obtain ⟨a', ha, I⟩ := I
          rw [on_15 (by omega)]
          exact ih1 mr (n + 1) a' s e1 _ I (km_Pa_closeBlock hm _ _ q) (by omega) (by omega)
        · obtain ⟨b', rfl⟩ : ∃ k, b = k + 1 := ⟨b - 1, by omega⟩
          have n1 : ¬ σ.1 42 = 1 := fun q => by
            have y := congrArg Int32.toInt (s42.symm.trans q)
            have l1 : (1 : Int32).toInt = 1 := rfl
            rw [lb, l1] at y
            omega
          rw [tlF_e5 (lr_ir5 L) h42 hA n1]
          refine sf_b5 (sr_endB H h (by omega)) (fun e1 u q n1 I => ?_) (kq_84 _ _ (kq_tlF kq_rf)) bad
          obtain ⟨a', b2, ha, I⟩ := I
          rw [on_15 (by omega)]
          exact ih2 mr (fs + 1) (n + 1) a' b2 f t s tok e1 _ I (km_Pa_closeBlock hm _ _ q) htok (by omega) (by omega) (by omega)
      · rw [if_neg k125, ← rdB_a5]
        have hA : g5_isAt 125 σ = 0 := by rw [lr_at5 H L (by decide) (by decide), if_neg k125]
        rw [tlF_s5 (lr_ir5 L) h42 hA]
        have kT : kt5 (Int32.ofNat N) (rdB5 (f5_Pa_addStatement e) (fun e1 r2 => f5_Pa_statement r2 e1)) := kt_b5 (kt_Pa_addStatement eT) (fun _ _ h1 => kt_Pa_statement h1)
        have kM : km5 (-1) (rdB5 (f5_Pa_addStatement e) (fun e1 r2 => f5_Pa_statement r2 e1)) := km_b5 (km_Pa_addStatement hm) (fun _ _ h1 => km_Pa_statement h1)
        refine sf_b5 (sr_stm H h) (fun e1 u q n1 I => ?_) (kq_84 _ _ (kq_tlF kq_rf)) (fun p e1 u q d => ?_)
        · obtain ⟨a', b2, ha, I⟩ := I
          rw [on_15 (by omega)]
          exact ih2 mr (fs + 1) (n + 1) a' b2 f t (s + 1) tok e1 _ I (kM _ _ q) htok (by omega) (by omega) (by omega)
        · rw [on_15 (by omega)]
          exact dk_R5 m d (kT _ _ q) (by omega) (by omega)
end

end
section
set_option maxHeartbeats 1600000
/-! the code of both sides after a text was read -/
def lf6 (f0 s : Nat) (e : E5) (σ : rS) (j : Nat) : Prop := (e.2.1 506 (11 * j + 6) = σ.2.2.1 33 j ∧ bl6 s (σ.2.2.1 33 j)) ∧ (e.2.1 506 (11 * j + 7) = σ.2.2.1 34 j ∧ bl6 s (σ.2.2.1 34 j)) ∧ (e.2.1 506 (11 * j + 8) = σ.2.2.1 37 j ∧ bl6 s (σ.2.2.1 37 j)) ∧ (e.2.1 506 (11 * j + 10) = σ.2.2.1 38 j ∧ ∃ f, (f < f0 ∧ f < 10) ∧ σ.2.2.1 38 j = Int32.ofNat f)
def cl6 (T : T5) (Bk N f : Nat) (e : E5) (σ : rS) (j : Nat) : Prop := ∃ t k, t < N ∧ k < f ∧ T.2.1 t = 140 ∧ T.2.1 (t + 1) = 40 ∧ σ.2.2.1 32 j = Int32.ofNat (Bk + t) ∧ e.2.1 506 (11 * j + 5) = Int32.ofNat k ∧ σ.2.2.1 39 (Bk + t) = Int32.ofNat (300 + k) ∧ e.2.1 504 k = e.2.1 506 (11 * j + 4)
def FN6 (T : T5) (Bk N nv na f s : Nat) (e : E5) (σ : rS) : Prop :=
  ((e.1 509 = Int32.ofNat nv ∧ nv ≤ 10) ∧ (e.1 510 = Int32.ofNat na ∧ na ≤ 3) ∧ (e.1 512 = Int32.ofNat f ∧ f ≤ 10) ∧ (e.1 513 = Int32.ofNat s ∧ s ≤ 150) ∧ ∃ k, k < f ∧ e.1 514 = Int32.ofNat k ∧ σ.1 40 = Int32.ofNat k ∧ e.2.1 504 k = 0) ∧ (σ.1 11 = 0 ∧ σ.1 15 = Int32.ofNat nv ∧ σ.1 16 = Int32.ofNat na ∧ σ.1 18 = Int32.ofNat f ∧ σ.1 19 = Int32.ofNat s) ∧
  (∀ j, j < s → ∃ z, z < N ∧ stm6 T Bk nv na e (σ.2.2.1 30) (σ.2.2.1 31) (σ.2.2.1 32) (σ.2.2.1 39) j z) ∧ (∀ j, j < s → lf6 f s e σ j) ∧ (∀ j, j < s → σ.2.2.1 30 j = 5 → cl6 T Bk N f e σ j) ∧ (∀ k, k < f → e.2.1 504 k = σ.2.2.1 26 k) ∧ tf6 f f s e σ ∧ gl6 nv na e σ ∧ ∃ R, cde6 e R ∧ R.length ≤ 2 * N
section
variable {T : T5} {X : X5} {Bk N : Nat} {Z : Int32} {nv na a f s : Nat} {e e' e'' : E5} {σ : rS}
/-- a statement's sort and its token, both sides -/
theorem st_k6 {r30 r31 r32 r : Nat → Int32} {j z : Nat} (h : stm6 T Bk nv na e r30 r31 r32 r j z) (hk : r30 j = 6 ∨ r30 j = 7) : e.2.1 506 (11 * j) = r30 j := by
  obtain ⟨b, x, pc, _, _, _, _, _, _, h7⟩ := h
  have no : ∀ c : Int32, r30 j = c → c = 6 ∨ c = 7 := fun c q => by rw [← q]; exact hk
  rcases h7 with ⟨q, _⟩ | ⟨_, _, _, ⟨q, _⟩ | ⟨q, _⟩ | ⟨q, _⟩ | ⟨q, _⟩ | ⟨q, _⟩⟩ | ⟨q, _⟩ | ⟨_, q, _⟩
  · exact absurd (no _ q) (by decide)
  · exact absurd (no _ q) (by decide)
  · exact absurd (no _ q) (by decide)
  · exact absurd (no _ q) (by decide)
  · exact absurd (no _ q) (by decide)
  · exact absurd (no _ q) (by decide)
  · exact absurd (no _ q) (by decide)
  · exact q
theorem st_t6 {r30 r31 r32 r : Nat → Int32} {j z t : Nat} (h : stm6 T Bk nv na e r30 r31 r32 r j z) (hk : r30 j = 5) (h2 : r32 j = Int32.ofNat (Bk + t)) (hB : Bk ≤ 65537) (hz : z ≤ 70000) (ht : t ≤ 70000) : T.2.1 (t + 1) = 40 := by
  obtain ⟨b, x, pc, _, hx, _, _, xz, _, h7⟩ := h
  have no : ∀ c : Int32, r30 j = c → c = 5 := fun c q => by rw [← q]; exact hk
  have xt : x = t := by
    have y := congrArg Int32.toInt (hx.symm.trans h2)
    rw [ofn_i (by omega), ofn_i (by omega)] at y
    omega
  rcases h7 with ⟨q, _⟩ | ⟨_, _, _, ⟨q, _⟩ | ⟨q, _⟩ | ⟨q, _⟩ | ⟨q, _⟩ | ⟨q, _⟩⟩ | ⟨_, _, _, q, _⟩ | ⟨q, _⟩
  · exact absurd (no _ q) (by decide)
  · exact absurd (no _ q) (by decide)
  · exact absurd (no _ q) (by decide)
  · exact absurd (no _ q) (by decide)
  · exact absurd (no _ q) (by decide)
  · exact absurd (no _ q) (by decide)
  · rw [← xt]; exact q
  · rcases q with q | q | q | q | q <;> exact absurd (no _ q) (by decide)
theorem en_6 {ml : Nat} (H : TR5 T X Bk N Z) (I : oI5 T X Bk N Z a s e σ) (P : PO6 T X Bk N Z nv na a f s e σ) (hm : e.1 coMain = -1) (h : f5_Pa_findCalled e = .inl (e', ())) (hl : f5_Co_linkFollows_2 ml 0 e' = .inl (e'', ())) : FN6 T Bk N nv na f s e'' (g5_lookAtCalls σ) ∧ sx5 (g5_lookAtCalls σ) = X := by
  obtain ⟨L, G, _, _, _, s150, est, s19, hS⟩ := I
  obtain ⟨⟨R, S⟩, ⟨⟨pv, pa⟩, p3, p4, _, _, p6, p7⟩, p512, f10⟩ := P
  have hh := H.1
  have hT := S.1.1
  have hX := S.1.2.1
  have aN := S.2.1.1
  have hR : σ.1 11 = 0 := L.2.2.2.1.1
  have est : e.1 513 = Int32.ofNat s := est
  have s19 : σ.1 19 = Int32.ofNat s := s19
  have hS : ∀ j, j < s → sS5 T X Bk N (e.2.1 506) (σ.2.2.1 30) (σ.2.2.1 32) j := hS
  have h40 : ∀ j t, j < s → e.2.1 506 (11 * j) = 5 → t < N → σ.2.2.1 32 j = Int32.ofNat (Bk + t) → T.2.1 (t + 1) = 40 := fun j t hj k5 ht h2 => by
    obtain ⟨z, z1, z2⟩ := p3 j hj
    exact st_t6 z2 ((hS j hj).1.mp k5) h2 (by omega) (by omega) (by omega)
  unfold f5_Pa_findCalled at h
  obtain ⟨e1, σ1, ⟨⟨x1, x2, x3, x4⟩, y1, y2, y3, y4, y5⟩, hca, h, hr⟩ := f2_c6 (s := s) (v := f) H hT hX hR G est s19 s150 p512 f10 hS h40 fu5 fu5 0 e σ ⟨⟨rfl, fun _ _ => rfl, rfl, fun _ _ _ _ => rfl⟩, rfl, rfl, fun _ _ => rfl, rfl, fun _ _ _ => rfl⟩ (fun _ _ => rfl) (fun j w => absurd w (by omega)) (by omega) (by unfold fu5; omega) h
  have hr : g5_lookAtCalls σ = g5_lookAtCalls_98 fu5 0 (siU σ1 40 (-1)) := hr
  have s1g : ∀ g, g ≠ 40 → (siU σ1 40 (-1)).1 g = σ.1 g := fun g w => by rw [si1, if_neg w, y1]
  have G1 : nG5 T Bk N (gE5 e1) (gS5 (siU σ1 40 (-1))) := by
    refine nG_k5 G ?_ ?_ ?_ ?_ ?_ (fun v k _ _ _ => ?_) (fun v k _ _ _ => ?_) x3 ?_ ?_ ?_ ?_ ?_ ?_ (fun v k _ _ _ => ?_)
    · show e1.1 509 = e.1 509; rw [x1]
    · exact x2 1006 (by decide)
    · show e1.1 510 = e.1 510; rw [x1]
    · exact x2 1007 (by decide)
    · show e1.1 512 = e.1 512; rw [x1]
    · exact congrFun (x2 1008 (by decide)) k
    · exact congrFun (x2 504 (by decide)) k
    · exact s1g 15 (by decide)
    · exact y3 20 (by decide)
    · exact s1g 16 (by decide)
    · exact y3 22 (by decide)
    · exact s1g 18 (by decide)
    · exact y3 25 (by decide)
    · exact congrFun (y3 26 (by decide)) k
  have T1 : tq5 e1 = T := by
    rw [← hT]
    unfold tq5
    rw [x1, x2 taBytes (by decide), x2 taKinds (by decide), x2 taPlaces (by decide), x2 taLengths (by decide), x3]
  have X1 : sx5 (siU σ1 40 (-1)) = X := by
    rw [← hX]
    unfold sx5
    show (σ1.2.2.1 5, σ1.2.2.1 6, σ1.2.2.1 7, σ1.2.2.1 9, σ1.2.2.2 8) = _
    rw [y3 5 (by decide), y3 6 (by decide), y3 7 (by decide), y3 9 (by decide), y4]
  obtain ⟨σ2, b1, b2, b3, b4, b5, ⟨k, k1, k2, k3⟩, b7⟩ := m107_6 (v := f) H fu5 fu5 0 e1 (siU σ1 40 (-1)) T1 X1 ((s1g 11 (by decide)).trans hR) G1 (by rw [x1]; exact p512) f10 (by rw [x1]; exact hm) (Or.inl (by rw [x1]; exact hm)) (by omega) (by unfold fu5; omega) h
  have hr : g5_lookAtCalls σ = g5_lookAtCalls_204 fu5 0 σ2 := hr.trans b7
  have v1 : ∀ g, g ≠ 514 → e'.1 g = e.1 g := fun g w => by rw [b1 g w, x1]
  have v2 : ∀ g, g ≠ 506 → e'.2.1 g = e.2.1 g := fun g w => by rw [b2]; exact x2 g w
  have v6 : ∀ j c, c ≤ 10 → c ≠ 5 → e'.2.1 506 (11 * j + c) = e.2.1 506 (11 * j + c) := fun j c w1 w2 => by rw [b2]; exact x4 j c w1 w2
  have u1 : ∀ g, g ≠ 40 → σ2.1 g = σ.1 g := fun g w => (b3 g w).trans (s1g g w)
  have b4 : σ2.2 = σ1.2 := b4
  have u2 : ∀ g, g ≠ 39 → σ2.2.2.1 g = σ.2.2.1 g := fun g w => by rw [b4]; exact y3 g w
  have hp : pa6 s (σ2.2.2.1 36) (σ2.2.2.1 30) := fun j hj => by
    rw [u2 36 (by decide), u2 30 (by decide)]
    rcases (p4 j hj).2.2.2.1.2 with q | ⟨n, q1, q2, q3⟩
    · exact Or.inl q
    · exact Or.inr ⟨n, q1, q2, q3⟩
  obtain ⟨⟨c1, c2, c3⟩, _, c5⟩ := l204_6 (s := s) (σ0 := σ2) s150 ((u1 19 (by decide)).trans s19) hp fu5 0 σ2 lk_rf rfl (fun j w => absurd w (by omega)) (by omega) (by unfold fu5; omega)
  have hr : g5_lookAtCalls σ = g5_lookAtCalls_204 fu5 (Int32.ofNat 0) σ2 := hr
  rw [← hr] at c1 c2 c3 c5
  generalize g5_lookAtCalls σ = τ at c1 c2 c3 c5
  have w1 : ∀ g, g ≠ 40 → τ.1 g = σ.1 g := fun g w => by rw [c1]; exact u1 g w
  have w2 : ∀ g, g ≠ 37 → g ≠ 39 → τ.2.2.1 g = σ.2.2.1 g := fun g q1 q2 => (c2 g q1).trans (u2 g q2)
  have w39 : τ.2.2.1 39 = σ1.2.2.1 39 := by rw [c2 39 (by decide), b4]
  have w40 : τ.1 40 = Int32.ofNat k := by rw [c1, ← b5]; exact k2
  have fe : ∀ j, e'.2.1 506 (11 * j) = e.2.1 506 (11 * j) := fun j => v6 j 0 (by decide) (by decide)
  obtain ⟨d1, d2, d3, d4, d5⟩ := lf_6 (s := s) (e0 := e') (k0 := σ.2.2.1 30) s150 ((v1 513 (by decide)).trans est) (fun j hj => by
    rcases (p4 j hj).2.2.2.1 with ⟨q0, q | ⟨n, q1, q2, q3⟩⟩
    · exact Or.inl ((v6 j 9 (by decide) (by decide)).trans (q0.trans q))
    · exact Or.inr ⟨n, q1, (v6 j 9 (by decide) (by decide)).trans (q0.trans q2), q3⟩) (fun n hn hk => by
    obtain ⟨z, z1, z2⟩ := p3 n hn
    exact (fe n).trans (st_k6 z2 hk)) ml 0 e' rfl (fun _ _ => rfl) rfl (fun _ _ _ _ => rfl) (fun j w => absurd w (by omega)) (by omega) hl
  have g1 : ∀ g, g ≠ 514 → e''.1 g = e.1 g := fun g w => by rw [d1]; exact v1 g w
  have g2 : ∀ g, g ≠ 506 → e''.2.1 g = e.2.1 g := fun g w => (d2 g w).trans (v2 g w)
  have g6 : ∀ j c, c ≤ 10 → c ≠ 5 → c ≠ 8 → e''.2.1 506 (11 * j + c) = e.2.1 506 (11 * j + c) := fun j c q1 q2 q3 => (d4 j c q1 q3).trans (v6 j c q1 q2)
  have cmE : cm6 e e'' := cm_e6 (g1 515 (by decide)) (g2 507 (by decide)) (g2 508 (by decide))
  refine ⟨⟨⟨?_, ?_, ?_, ?_, k, k1, ?_, w40, ?_⟩, ⟨(w1 11 (by decide)).trans hR, ?_, ?_, ?_, (w1 19 (by decide)).trans s19⟩, fun j hj => ?_, fun j hj => ?_, fun j hj k5 => ?_, fun i hi => ?_, ⟨fun g hg => ?_, fun g hg => ?_, fun g q1 q2 => ?_⟩, ⟨fun i hi => ?_, fun i hi => ?_, ?_, ?_, ?_⟩, R, cd_e6 S.2.2.2.2.1 (g1 515 (by decide)) (g2 507 (by decide)) (g2 508 (by decide)), by have := S.2.2.2.2.2; omega⟩, ?_⟩
  · rw [g1 509 (by decide)]; exact pv
  · rw [g1 510 (by decide)]; exact pa
  · rw [g1 512 (by decide)]; exact ⟨p512, f10⟩
  · rw [g1 513 (by decide)]; exact ⟨est, s150⟩
  · rw [d1]; exact k2
  · rw [d2 504 (by decide)]; exact k3
  · obtain ⟨v, q⟩ := G.1
    have z1 : e.1 509 = Int32.ofNat v := q.2.1
    have z2 : σ.1 15 = Int32.ofNat v := q.2.2.1
    rw [w1 15 (by decide), z2, ← z1]; exact pv.1
  · obtain ⟨v, q⟩ := G.2.1
    have z1 : e.1 510 = Int32.ofNat v := q.2.1
    have z2 : σ.1 16 = Int32.ofNat v := q.2.2.1
    rw [w1 16 (by decide), z2, ← z1]; exact pa.1
  · obtain ⟨v, q, _⟩ := G.2.2.1
    have z1 : e.1 512 = Int32.ofNat v := q.2.1
    have z2 : σ.1 18 = Int32.ofNat v := q.2.2.1
    rw [w1 18 (by decide), z2, ← z1]; exact p512
  · obtain ⟨z, z1, z2⟩ := p3 j hj
    refine ⟨z, by omega, st_m6 z2 cmE (Nat.le_refl _) (Nat.le_refl _) (fun c hc => g6 j c (by omega) (by omega) (by omega)) (by rw [w2 30 (by decide) (by decide)]) (by rw [w2 31 (by decide) (by decide)]) (by rw [w2 32 (by decide) (by decide)]) (fun t q1 _ q3 => ?_)⟩
    rw [w39]
    exact y5 t (by omega) q3
  · obtain ⟨l1, l2, l3, l4, l5⟩ := p4 j hj
    have q37 : τ.2.2.1 37 j = flw6 (σ.2.2.1 35) (σ.2.2.1 36) (σ.2.2.1 30) (j + 1) j := by
      rw [c5 j hj, u2 35 (by decide), u2 36 (by decide), u2 30 (by decide)]
    have hp0 : pa6 s (σ.2.2.1 36) (σ.2.2.1 30) := by rw [← u2 36 (by decide), ← u2 30 (by decide)]; exact hp
    have q8 : e''.2.1 506 (11 * j + 8) = flw6 (σ.2.2.1 35) (σ.2.2.1 36) (σ.2.2.1 30) (j + 1) j := by
      rw [d5 j hj]
      exact fo_c6 s150 hp0 (fun i hi => (v6 i 8 (by decide) (by decide)).trans (p4 i hi).2.2.1.1) (fun i hi => (v6 i 9 (by decide) (by decide)).trans (p4 i hi).2.2.2.1.1) (j + 1) j hj
    refine ⟨?_, ?_, ⟨q8.trans q37.symm, ?_⟩, ?_⟩
    · rw [g6 j 6 (by decide) (by decide) (by decide), w2 33 (by decide) (by decide)]; exact l1
    · rw [g6 j 7 (by decide) (by decide) (by decide), w2 34 (by decide) (by decide)]; exact l2
    · rw [q37]
      exact fo_b6 s150 hp0 (fun i hi => (p4 i hi).2.2.1.2) (j + 1) j hj (by omega)
    · rw [g6 j 10 (by decide) (by decide) (by decide), w2 38 (by decide) (by decide)]; exact l5
  · rw [w2 30 (by decide) (by decide)] at k5
    obtain ⟨t, i, q1, q2, q3, q4, q5, _, q6, q7, q8⟩ := hca j hj ((hS j hj).1.mpr k5)
    refine ⟨t, i, q1, q2, q3, q4, ?_, ?_, ?_, ?_⟩
    · rw [w2 32 (by decide) (by decide), ← y3 32 (by decide)]; exact q5
    · rw [d4 j 5 (by decide) (by decide), b2]; exact q6
    · rw [w39]; exact q7
    · rw [d2 504 (by decide), d4 j 4 (by decide) (by decide), b2]; exact q8
  · obtain ⟨v, q, pc⟩ := G.2.2.1
    have z1 : e.1 512 = Int32.ofNat v := q.2.1
    have v10 := q.1
    have y := congrArg Int32.toInt (z1.symm.trans p512)
    rw [ofn_i (by omega), ofn_i (by omega)] at y
    rw [g2 504 (by decide), w2 26 (by decide) (by decide)]
    exact pc i (by omega)
  · rw [g2 505 (by decide), w2 27 (by decide) (by decide)]; exact p6.1 g hg
  · rw [g2 503 (by decide), w2 29 (by decide) (by decide)]; exact p6.2.1 g hg
  · rw [g2 503 (by decide)]; exact p6.2.2 g q1 q2
  · rw [g2 500 (by decide), w2 21 (by decide) (by decide)]; exact p7.1 i hi
  · rw [g2 501 (by decide), g2 502 (by decide), w2 23 (by decide) (by decide), w2 24 (by decide) (by decide), g1 511 (by decide)]; exact p7.2.1 i hi
  · rw [g1 511 (by decide), w1 17 (by decide)]; exact p7.2.2.1
  · rw [g1 511 (by decide)]; exact p7.2.2.2.1
  · rw [g1 511 (by decide)]; exact p7.2.2.2.2
  · rw [← hX]
    unfold sx5
    rw [w2 5 (by decide) (by decide), w2 6 (by decide) (by decide), w2 7 (by decide) (by decide), w2 9 (by decide) (by decide), c3, b4, y4]
end

end
section
set_option maxHeartbeats 1600000
/-! both readings from the bytes on: the code of a right text -/
theorem rq_B6 {U : U5} {e0 e' e'' : E5} {σ : rS} {n Bk ml : Nat} {s1 : Int32} (HU : okU5 U) (hr : ∀ j, -128 ≤ (U.1 j).toInt ∧ (U.1 j).toInt ≤ 127) (HS : okS5 σ) (hB : ∀ j, j < n → bU5 U j = bS5 σ j) (hn : nU5 U = n) (sn : nS5 σ = n) (I : ini5 U e0) (h503 : ∀ g, g < 10 → e0.2.1 503 g = -1) (hBk : Bk ≤ 65537) (hs1 : s1 = Int32.ofNat Bk) (h11 : σ.1 11 = 0 ∧ σ.1 46 = 0 ∧ σ.1 47 = 0 ∧ σ.1 13 = 0) (h15 : σ.1 15 = 0 ∧ σ.1 16 = 0 ∧ σ.1 17 = 0 ∧ σ.1 18 = 0 ∧ σ.1 19 = 0) (hrd : rd5 e0 = .inl (e', ())) (hl : f5_Co_linkFollows_2 ml 0 e' = .inl (e'', ())) : ∃ (T : T5) (X : X5) (N nv na f s : Nat), TR5 T X Bk N (Int32.ofNat n) ∧ T.2.1 (N - 1) = 142 ∧ FN6 T Bk N nv na f s e'' (g5_tellProgram_65 s1 σ) ∧ sx5 (g5_tellProgram_65 s1 σ) = X := by
  have n6 : n ≤ 65536 := by
    have := HS.2
    unfold nS5 at sn
    omega
  have Z2 : σ.1 2 = Int32.ofNat n := of_e5 (by
    have := HS.1
    unfold nS5 at sn
    omega) (by omega)
  have hU2 : ((σ.2.2.1 1, U.2) : U5).2 = U.2 := rfl
  have hE := by_U5 (U := U) (U' := (σ.2.2.1 1, U.2)) hU2 (fun j hj => (hB j (by
    have := HU.1
    unfold nU5 at hn
    omega)).symm)
  obtain ⟨N, hK, fT, fR⟩ := cut_5 (U := (σ.2.2.1 1, U.2)) (σ := siU σ 3 s1) (n := n) (Bk := Bk) HU HS rfl hn sn hBk hs1
  rw [sl_5 hU2 hE] at hK
  replace hK := TK_b5 (B' := bU5 U) (fun j hj => (hB j hj).symm) hK
  have c2 : (g5_cutTape (siU σ 3 s1)).1 2 = Int32.ofNat n := (fT 2 (by decide)).trans Z2
  have c3 : (g5_cutTape (siU σ 3 s1)).1 3 = Int32.ofNat Bk := (fT 3 (by decide)).trans hs1
  have c11 : (g5_cutTape (siU σ 3 s1)).1 11 = 0 := (fT 11 (by decide)).trans h11.1
  have c46 : (g5_cutTape (siU σ 3 s1)).1 46 = 0 := (fT 46 (by decide)).trans h11.2.1
  have c47 : (g5_cutTape (siU σ 3 s1)).1 47 = 0 := (fT 47 (by decide)).trans h11.2.2.1
  have c13 : (g5_cutTape (siU σ 3 s1)).1 13 = 0 := (fT 13 (by decide)).trans h11.2.2.2
  have c15 : (g5_cutTape (siU σ 3 s1)).1 15 = 0 := (fT 15 (by decide)).trans h15.1
  have c16 : (g5_cutTape (siU σ 3 s1)).1 16 = 0 := (fT 16 (by decide)).trans h15.2.1
  have c17 : (g5_cutTape (siU σ 3 s1)).1 17 = 0 := (fT 17 (by decide)).trans h15.2.2.1
  have c18 : (g5_cutTape (siU σ 3 s1)).1 18 = 0 := (fT 18 (by decide)).trans h15.2.2.2.1
  have c19 : (g5_cutTape (siU σ 3 s1)).1 19 = 0 := (fT 19 (by decide)).trans h15.2.2.2.2
  obtain ⟨I1, I2, I3, I4⟩ := I
  have H := TR_5 (e := e0) HU hr rfl hn n6 hBk I1.1 I1.2 hK rfl
  have et : g5_tellProgram_65 s1 σ = pb5 (g5_readNext (siU (g5_cutTape (siU σ 3 s1)) 10 ((g5_cutTape (siU σ 3 s1)).1 3))) (fun σ5 => g5_tellProgram_84 fu5 σ5) := by
    unfold g5_tellProgram_65
    rw [pb_e5, pb_e5, pb_e5]
  rw [et]
  generalize g5_cutTape (siU σ 3 s1) = σc at hK H c2 c3 c11 c46 c47 c13 c15 c16 c17 c18 c19
  clear et
  have hh := H.1
  have eT : e0.1 taTotal = Int32.ofNat N := hh.1
  have lN := ofn_i (n := N) (by omega)
  rw [c3]
  have tk : f5_Pa_take e0 = .inl ((fun g => if g = paKind then e0.2.1 taKinds 0 else if g = paAt then 0 else e0.1 g, e0.2), ()) := by
    unfold f5_Pa_take stI5
    rw [rdl_5, I3.1]
    show (if (0 : Int32) < 0 then _ else if e0.1 taTotal ≤ (0 : Int32) then _ else _) = _
    rw [if_neg (show ¬ (0 : Int32) < 0 by decide), if_neg (show ¬ e0.1 taTotal ≤ (0 : Int32) by rw [eT, lei, lN, t0i]; omega)]
    rfl
  unfold rd5 at hrd
  rw [tk, rdl_5] at hrd
  obtain ⟨e1, q1, q2, q3, q4, q5, q6⟩ : ∃ e1 : E5, ((fun g => if g = paKind then e0.2.1 taKinds 0 else if g = paAt then 0 else e0.1 g, e0.2) : E5) = e1 ∧ tq5 e1 = tq5 e0 ∧ (e1.1 paAt = 0 ∧ e1.1 paKind = (tq5 e0).2.1 0) ∧ (gE5 e1 = gE5 e0 ∧ e1.2 = e0.2) ∧ (e1.1 paOpen = e0.1 paOpen ∧ e1.1 coMain = e0.1 coMain ∧ e1.1 taTotal = e0.1 taTotal) ∧ e1.1 515 = e0.1 515 ∧ e1.1 511 = e0.1 511 ∧ e1.1 509 = e0.1 509 ∧ e1.1 510 = e0.1 510 ∧ e1.1 512 = e0.1 512 := ⟨_, rfl, rfl, ⟨rfl, rfl⟩, ⟨rfl, rfl⟩, ⟨rfl, rfl, rfl⟩, rfl, rfl, rfl, rfl, rfl⟩
  rw [q1] at hrd
  clear q1 tk
  obtain ⟨σd, y1, y2, y3, y4, y5⟩ : ∃ σd : rS, siU σc 10 (Int32.ofNat Bk) = σd ∧ sx5 σd = sx5 σc ∧ gS5 σd = gS5 σc ∧ (σd.1 2 = σc.1 2 ∧ σd.1 10 = Int32.ofNat Bk ∧ σd.1 11 = σc.1 11 ∧ σd.1 46 = σc.1 46 ∧ σd.1 47 = σc.1 47 ∧ σd.1 13 = σc.1 13) ∧ σd.1 17 = σc.1 17 := ⟨_, rfl, rfl, rfl, ⟨rfl, rfl, rfl, rfl, rfl, rfl⟩, rfl⟩
  rw [y1]
  have so : σd.2.2.1 5 (σd.1 10).toNatClampNeg = (sx5 σc).1 (Bk + 0) := by
    rw [y4.2.1, cl_5 (by omega), ← y2]
    rfl
  have ko := (kd_o5 (H.2.2.1 0 (by omega))).1
  unfold g5_readNext
  rw [so]
  by_cases c : (tq5 e0).2.1 0 = 143
  · have d : dk5 ((tq5 e0).2.2.1 0) e1 := by
      refine ⟨q3.2.trans c, ?_⟩
      unfold pl5
      rw [q3.1, if_neg (show ¬ (0 : Int32) < 0 by decide), q5.2.2, if_neg (show ¬ e0.1 taTotal ≤ (0 : Int32) by rw [eT, lei, lN, t0i]; omega), q4.2]
      rfl
    rcases dk_R5 (n := 0) (N := N) fu5 d (q5.2.2.trans eT) (by omega) (by omega) with w | w
    · cases w.symm.trans hrd
    · cases w.symm.trans hrd
  · rw [if_neg (fun q => c (ko.mp q)), pb_e5]
    have pz : ∀ (m : Nat) (nr rr : Nat → Int32), pN5 (tq5 e0) Bk N m 0 nr 0 rr 0 := fun m nr rr => ⟨by omega, rfl, rfl, fun k hk => absurd hk (by omega)⟩
    have w15 : σd.1 15 = 0 := (congrArg (fun W : W5 => W.1) y3).trans c15
    have w16 : σd.1 16 = 0 := (congrArg (fun W : W5 => W.2.2.1) y3).trans c16
    have w18 : σd.1 18 = 0 := (congrArg (fun W : W5 => W.2.2.2.2.1) y3).trans c18
    have w19 : σd.1 19 = 0 := (congrArg (fun W : W5 => wst5 W) y3).trans c19
    have L : LR5 (tq5 e0) (sx5 σc) Bk N (Int32.ofNat n) (gE5 e1) (gS5 σd) 0 0 e1 σd := by
      refine ⟨⟨q2, y2, y4.1.trans c2⟩, ⟨rfl, rfl⟩, ⟨by omega, q3.1, y4.2.1, q3.2, c⟩, ⟨y4.2.2.1.trans c11, y4.2.2.2.1.trans c46, y4.2.2.2.2.1.trans c47⟩, ?_, ?_, ?_⟩
      · rw [y4.2.2.2.2.2, c13, q5.1, I3.2.1]
      · rw [q5.1, I3.2.1]; decide
      · rw [q5.1, I3.2.1]; decide
    have o : oI5 (tq5 e0) (sx5 σc) Bk N (Int32.ofNat n) 0 0 e1 σd := by
      refine ⟨L, ?_, ?_, ?_, ?_, ?_⟩
      · rw [q4.1]
        refine ⟨⟨0, ?_⟩, ⟨0, ?_⟩, ⟨0, ?_, fun k hk => absurd hk (by omega)⟩, I4⟩
        · show pN5 (tq5 e0) Bk N 10 (e0.1 coVars) _ (σd.1 15) _ 0
          rw [I2.1, w15]
          exact pz _ _ _
        · show pN5 (tq5 e0) Bk N 3 (e0.1 coArrays) _ (σd.1 16) _ 0
          rw [I2.2.1, w16]
          exact pz _ _ _
        · show pN5 (tq5 e0) Bk N 10 (e0.1 coFunctions) _ (σd.1 18) _ 0
          rw [I2.2.2.2.1, w18]
          exact pz _ _ _
      · have q : e1.1 1010 = e0.1 1010 := congrArg (fun V : V5 => vow5 V) q4.1
        exact q.trans I3.2.2.2.1
      · have q : e1.1 1005 = e0.1 1005 := congrArg (fun V : V5 => vin5 V) q4.1
        exact q.trans I3.2.2.1
      · have q : e1.1 1014 = e0.1 1014 := congrArg (fun V : V5 => vbl5 V) q4.1
        exact q.trans I3.2.2.2.2
      · refine ⟨by decide, ?_, w19, fun j hj => absurd hj (by omega)⟩
        have q : e1.1 513 = e0.1 513 := congrArg (fun V : V5 => vst5 V) q4.1
        exact q.trans I2.2.2.2.2.1
    have hm : e1.1 coMain = -1 := q5.2.1.trans I2.2.2.2.2.2.2
    have hE : (tq5 e0).2.1 (N - 1) = 142 := by
      rcases (rd_e6 H fu5).1 fu5 0 0 0 e1 σd o hm (by omega) (by unfold fu5; omega) with z | ⟨_, _, _, q⟩ | ⟨_, _, _, _, _, z⟩
      · cases z.symm.trans hrd
      · exact q
      · cases z.symm.trans hrd
    have S : SR6 (tq5 e0) (sx5 σc) Bk N (Int32.ofNat n) 0 0 [] e1 σd := by
      refine ⟨⟨q2, y2, y4.1.trans c2⟩, ⟨by omega, q3.1, q3.2, y4.2.1⟩, ⟨y4.2.2.1.trans c11, y4.2.2.2.1.trans c46, y4.2.2.2.2.1.trans c47⟩, ⟨by decide, ?_, ?_⟩, ⟨?_, trivial, trivial⟩, Nat.le_refl _⟩
      · exact q5.1.trans I3.2.1
      · exact y4.2.2.2.2.2.trans c13
      · exact q6.1.trans I2.2.2.2.2.2.1
    have f511 : e1.1 511 = 0 := q6.2.1.trans I2.2.2.1
    have P : PO6 (tq5 e0) (sx5 σc) Bk N (Int32.ofNat n) 0 0 0 0 0 e1 σd := by
      refine ⟨⟨[], S⟩, ⟨⟨⟨q6.2.2.1.trans I2.1, by decide⟩, q6.2.2.2.1.trans I2.2.1, by decide⟩, fun j hj => absurd hj (by omega), fun j hj => absurd hj (by omega), fun i hi => absurd hi (by omega), fun i _ hi => absurd hi (by omega), ⟨fun g hg => absurd hg (by omega), fun g hg => absurd hg (by omega), fun g _ hg => ?_⟩, fun i hi => absurd hi (by omega), fun i hi => absurd hi (by omega), ?_, ?_, ?_⟩, q6.2.2.2.2.trans I2.2.2.2.1, by decide⟩
      · rw [q4.2]; exact h503 g hg
      · rw [f511, y5, c17]
      · rw [f511]; decide
      · rw [f511]; decide
    obtain ⟨a, nv, na, f, s, e2, σ2, z1, z2, z3, _, z4, z5⟩ := (rl_6 H hE fu5).1 fu5 0 0 0 0 0 0 e1 σd o P hm (by omega) (by unfold fu5; omega) hrd
    rw [z5]
    obtain ⟨r1, r2⟩ := en_6 H z1 z2 z3 z4 hl
    exact ⟨tq5 e0, sx5 σc, N, nv, na, f, s, H, hE, r1, r2⟩
/-- tellProgram: the code of both sides alike -/
theorem rq_6 {U : U5} {e0 e' e'' : E5} {σ : rS} {n ml : Nat} (HU : okU5 U) (hr : ∀ j, -128 ≤ (U.1 j).toInt ∧ (U.1 j).toInt ≤ 127) (HS : okS5 σ) (hB : ∀ j, j < n → bU5 U j = bS5 σ j) (hn : nU5 U = n) (sn : nS5 σ = n) (I : ini5 U e0) (h503 : ∀ g, g < 10 → e0.2.1 503 g = -1) (hrd : rd5 e0 = .inl (e', ())) (hl : f5_Co_linkFollows_2 ml 0 e' = .inl (e'', ())) : ∃ (T : T5) (X : X5) (Bk N nv na f s : Nat), (Bk = if σ.1 3 = 0 then 65537 else 0) ∧ TR5 T X Bk N (Int32.ofNat n) ∧ T.2.1 (N - 1) = 142 ∧ FN6 T Bk N nv na f s e'' (g5_tellProgram σ) ∧ sx5 (g5_tellProgram σ) = X := by
  unfold g5_tellProgram
  rw [pb_e5, pb_e5, pb_e5, pb_e5, pb_e5, pb_e5, pb_e5, pb_e5, pb_e5, pb_e5]
  have s3 : (siU (siU (siU (siU (siU (siU (siU (siU (siU (siU σ 46 0) 47 0) 11 0) 12 0) 13 0) 15 0) 16 0) 17 0) 18 0) 19 0).1 3 = σ.1 3 := rfl
  rw [s3]
  by_cases c : σ.1 3 = 0
  · rw [if_pos c, if_pos c]
    obtain ⟨T, X, N, nv, na, f, s, z⟩ := rq_B6 (σ := siU (siU (siU (siU (siU (siU (siU (siU (siU (siU σ 46 0) 47 0) 11 0) 12 0) 13 0) 15 0) 16 0) 17 0) 18 0) 19 0) (Bk := 65537) (s1 := 65537) HU hr HS hB hn sn I h503 (by decide) rfl ⟨rfl, rfl, rfl, rfl⟩ ⟨rfl, rfl, rfl, rfl, rfl⟩ hrd hl
    exact ⟨T, X, 65537, N, nv, na, f, s, rfl, z⟩
  · rw [if_neg c, if_neg c]
    obtain ⟨T, X, N, nv, na, f, s, z⟩ := rq_B6 (σ := siU (siU (siU (siU (siU (siU (siU (siU (siU (siU σ 46 0) 47 0) 11 0) 12 0) 13 0) 15 0) 16 0) 17 0) 18 0) 19 0) (Bk := 0) (s1 := 0) HU hr HS hB hn sn I h503 (by decide) rfl ⟨rfl, rfl, rfl, rfl⟩ ⟨rfl, rfl, rfl, rfl, rfl⟩ hrd hl
    exact ⟨T, X, 0, N, nv, na, f, s, rfl, z⟩

end
section
set_option maxHeartbeats 1600000
/-! the class's machine as a pure program (mir6.py): its memory as a record: numbers by field (machine 700 .., code 500 ..), rows by field, lengths -/
def fo6 (f : Int32) (e : E5) : Int32 := if f < 0 then -1 else if (10 : Int32) ≤ f then -1 else e.2.1 coFirstStatements f.toNatClampNeg
def sh6 (e : E5) : Int32 := e.1 coVars + e.1 coCells
/-- a stretch of the memory filled -/
def f5_Ar_fill4 (x y v : Int32) (e : E5) : R5 Unit := .inl ((e.1, fun g j => if g = maMemory ∧ x.toNatClampNeg ≤ j ∧ j < y.toNatClampNeg then v else e.2.1 g j, e.2.2), ())
def f5_Ma_combine (a0 a1 a2 : Int32) : Int32 := (if (a0).toInt = 7 then (if a1 = (0 : Int32) then (if a2 = (0 : Int32) then (0 : Int32) else (1 : Int32)) else (1 : Int32)) else if (a0).toInt = 8 then (if a1 = (0 : Int32) then (0 : Int32) else (if a2 = (0 : Int32) then (0 : Int32) else (1 : Int32))) else if (a0).toInt = 9 then (if a1 = a2 then (1 : Int32) else (0 : Int32)) else if (a0).toInt = 10 then (if a1 = a2 then (0 : Int32) else (1 : Int32)) else if (a0).toInt = 11 then (if a2 ≤ a1 then (0 : Int32) else (1 : Int32)) else if (a0).toInt = 12 then (if a2 < a1 then (0 : Int32) else (1 : Int32)) else if (a0).toInt = 13 then (if a1 ≤ a2 then (0 : Int32) else (1 : Int32)) else if (a0).toInt = 14 then (if a1 < a2 then (0 : Int32) else (1 : Int32)) else if (a0).toInt = 15 then (a1 + a2) else if (a0).toInt = 16 then (a1 - a2) else if (a0).toInt = 17 then (a1 * a2) else if (a0).toInt = 18 then (if a2 = (0 : Int32) then (0 : Int32) else (a1 / a2)) else (if a2 = (0 : Int32) then (0 : Int32) else (a1 - a1 / a2 * a2)))
def f5_Ma_slot (a1 a2 : Int32) (e : E5) : R5 Int32 := (if a1 = (2 : Int32) then .inl (e, (((e.1 maFrame) + (1 : Int32)) + a2)) else (if a1 = (1 : Int32) then .inl (e, a2) else .inl (e, (-1 : Int32))))
def f5_Ma_cellAt_31 (a1 a2 s0 : Int32) (e : E5) : R5 Int32 := (if s0 = (0 : Int32) then .inl (e, (-1 : Int32)) else .inl (e, (((e.1 coVars) + (e.2.1 coArrayBases (a1).toNatClampNeg)) + a2)))
def f5_Ma_cellAt (a1 a2 : Int32) (e : E5) : R5 Int32 := (if a1 < (0 : Int32) then (f5_Ma_cellAt_31 (a1) (a2) ((0 : Int32)) e) else (if (3 : Int32) ≤ a1 then (f5_Ma_cellAt_31 (a1) (a2) ((0 : Int32)) e) else (if a2 < (0 : Int32) then (f5_Ma_cellAt_31 (a1) (a2) ((0 : Int32)) e) else (if (e.2.1 coArraySizes (a1).toNatClampNeg) ≤ a2 then (f5_Ma_cellAt_31 (a1) (a2) ((0 : Int32)) e) else (f5_Ma_cellAt_31 (a1) (a2) ((1 : Int32)) e)))))
def f5_Ma_put (a1 a2 : Int32) (e : E5) : R5 Unit := (if a1 < (0 : Int32) then .inl (e, ()) else (if (Int32.ofNat (e.2.2 maMemory)) ≤ a1 then .inl (e, ()) else rdB5 (sa5 maMemory ((a1).toNatClampNeg) (a2) e) (fun e1 _ => .inl (e1, ()))))
def f5_Ma_fetch_24 (s0 : Int32) (e : E5) : R5 Int32 := (if s0 < (0 : Int32) then .inl (e, (0 : Int32)) else (if (Int32.ofNat (e.2.2 maMemory)) ≤ s0 then .inl (e, (0 : Int32)) else .inl (e, (e.2.1 maMemory (s0).toNatClampNeg))))
def f5_Ma_fetch (a1 a2 : Int32) (e : E5) : R5 Int32 := (if a1 = (1 : Int32) then .inl (e, a2) else (if a1 = (3 : Int32) then (f5_Ma_fetch_24 ((((e.1 maFrame) + (1 : Int32)) + a2)) e) else (f5_Ma_fetch_24 (a2) e)))
def f5_Ma_fail (a1 : Int32) (e : E5) : R5 Unit := rdB5 (stI5 maFailure (a1) e) (fun e1 _ => rdB5 (stI5 maOutcome ((2 : Int32)) e1) (fun e2 _ => .inl (e2, ())))
def f5_Ma_length  (e : E5) : R5 Int32 := .inl (e, ((e.1 maShared) + ((e.1 maOpen) * (9 : Int32))))
def f5_Ma_work_278 (B2 : Int32 → E5 → R5 Int32) (a1 : Int32) (e : E5) : R5 Int32 := rdB5 (stI5 maPc (((e.1 maPc) + (1 : Int32))) e) (fun e1 _ => (B2 (a1) e1))
def f5_Ma_work_252 (B2 : Int32 → E5 → R5 Int32) (a1 a2 : Int32) (e : E5) : R5 Int32 := pb5 (f5_Ma_combine (a2) ((e.2.1 maStack ((a1 - (1 : Int32))).toNatClampNeg)) ((e.2.1 maStack (a1).toNatClampNeg))) (fun r2 => rdB5 (sa5 maStack (((a1 - (1 : Int32))).toNatClampNeg) (r2) e) (fun e4 _ => (f5_Ma_work_278 B2 (a1) e4)))
def f5_Ma_work_222 (B2 : Int32 → E5 → R5 Int32) (a1 a2 : Int32) (e : E5) : R5 Int32 := (if a1 ≤ (1 : Int32) then (f5_Ma_work_278 B2 (a1) e) else pb5 (a1 + (-1 : Int32)) (fun v1_1 => (if a2 < (18 : Int32) then (f5_Ma_work_252 B2 (v1_1) (a2) e) else (if (e.2.1 maStack (v1_1).toNatClampNeg) = (0 : Int32) then rdB5 (stI5 maFailure ((2 : Int32)) e) (fun e2 _ => .inl (e2, (0 : Int32))) else (f5_Ma_work_252 B2 (v1_1) (a2) e)))))
def f5_Ma_work_173 (B2 : Int32 → E5 → R5 Int32) (a1 a2 : Int32) (e : E5) : R5 Int32 := (if (6 : Int32) < a2 then (f5_Ma_work_222 B2 (a1) (a2) e) else (if a1 ≤ (0 : Int32) then (f5_Ma_work_222 B2 (a1) (a2) e) else pb5 ((e.2.1 maStack ((a1 - (1 : Int32))).toNatClampNeg)) (fun v3_1 => (if a2 = (5 : Int32) then rdB5 (sa5 maStack (((a1 - (1 : Int32))).toNatClampNeg) ((-v3_1)) e) (fun e6 _ => (f5_Ma_work_278 B2 (a1) e6)) else (if v3_1 = (0 : Int32) then rdB5 (sa5 maStack (((a1 - (1 : Int32))).toNatClampNeg) ((1 : Int32)) e) (fun e4 _ => (f5_Ma_work_278 B2 (a1) e4)) else rdB5 (sa5 maStack (((a1 - (1 : Int32))).toNatClampNeg) ((0 : Int32)) e) (fun e2 _ => (f5_Ma_work_278 B2 (a1) e2)))))))
def f5_Ma_work_2  : Nat → Int32 → E5 → R5 Int32
  | 0, _, _ => .inr (0, 0)
  | m5 + 1, a1, e => (if (e.1 maPc) < (0 : Int32) then .inl (e, (0 : Int32)) else (if (e.1 coLength) ≤ (e.1 maPc) then .inl (e, (0 : Int32)) else pb5 ((e.2.1 coOps ((e.1 maPc)).toNatClampNeg)) (fun v2_1 => (if v2_1 = (0 : Int32) then rdB5 (stI5 maPc (((e.1 maPc) + (1 : Int32))) e) (fun e17 _ => (if a1 ≤ (0 : Int32) then .inl (e17, (0 : Int32)) else .inl (e17, (e17.2.1 maStack ((a1 - (1 : Int32))).toNatClampNeg)))) else (if (3 : Int32) < v2_1 then (if v2_1 = (4 : Int32) then (if a1 ≤ (0 : Int32) then (f5_Ma_work_173 (f5_Ma_work_2 m5) (a1) (v2_1) e) else rdB5 (f5_Ma_cellAt ((e.2.1 coArgs ((e.1 maPc)).toNatClampNeg)) ((e.2.1 maStack ((a1 - (1 : Int32))).toNatClampNeg)) e) (fun e2 r3 => (if r3 = (-1 : Int32) then rdB5 (stI5 maFailure ((1 : Int32)) e2) (fun e8 _ => .inl (e8, (0 : Int32))) else rdB5 (sa5 maStack (((a1 - (1 : Int32))).toNatClampNeg) ((e2.2.1 maMemory (r3).toNatClampNeg)) e2) (fun e6 _ => (f5_Ma_work_278 (f5_Ma_work_2 m5) (a1) e6))))) else (f5_Ma_work_173 (f5_Ma_work_2 m5) (a1) (v2_1) e)) else (if (Int32.ofNat (e.2.2 maStack)) ≤ a1 then (f5_Ma_work_278 (f5_Ma_work_2 m5) (a1) e) else rdB5 (f5_Ma_fetch (v2_1) ((e.2.1 coArgs ((e.1 maPc)).toNatClampNeg)) e) (fun e10 r11 => rdB5 (sa5 maStack ((a1).toNatClampNeg) (r11) e10) (fun e13 _ => pb5 (a1 + (1 : Int32)) (fun v1_15 => (f5_Ma_work_278 (f5_Ma_work_2 m5) (v1_15) e13))))))))))
def f5_Ma_work  (e : E5) : R5 Int32 := (f5_Ma_work_2 fu5 ((0 : Int32)) e)
def f5_Ma_aim_61 (s1 : Int32) (e : E5) : R5 Unit := rdB5 (stI5 maTarget (s1) e) (fun e1 _ => (if (e1.1 maTarget) = (-1 : Int32) then rdB5 (stI5 maFailure ((1 : Int32)) e1) (fun e3 _ => .inl (e3, ())) else .inl (e1, ())))
def f5_Ma_aim (a1 : Int32) (e : E5) : R5 Unit := pb5 (cl5 (a1) ((1 : Int32)) e) (fun r2 => pb5 (cl5 (a1) ((2 : Int32)) e) (fun r6 => (if r2 = (3 : Int32) then rdB5 (f5_Ma_work e) (fun e8 r9 => (if (e8.1 maFailure) = (0 : Int32) then rdB5 (f5_Ma_cellAt (r6) (r9) e8) (fun e13 r14 => (f5_Ma_aim_61 (r14) e13)) else (f5_Ma_aim_61 ((0 : Int32)) e8))) else rdB5 (f5_Ma_slot (r2) (r6) e) (fun e17 r18 => rdB5 (stI5 maTarget (r18) e17) (fun e21 _ => .inl (e21, ()))))))
def f5_Ma_proceed_2  : Nat → Int32 → E5 → R5 Unit
  | 0, _, _ => .inr (0, 0)
  | m5 + 1, a1, e => (if (12 : Int32) < a1 then .inl (e, ()) else (if (e.1 maGoing) = (-1 : Int32) then rdB5 (stI5 maOpen (((e.1 maOpen) - (1 : Int32))) e) (fun e1 _ => (if (0 : Int32) < (e1.1 maOpen) then rdB5 (stI5 maFrame (((e1.1 maFrame) - (9 : Int32))) e1) (fun e3 _ => pb5 ((e3.2.1 maMemory ((e3.1 maFrame)).toNatClampNeg)) (fun v2_5 => pb5 (cl5 (v2_5) ((1 : Int32)) e3) (fun r7 => pb5 (cl5 (v2_5) ((2 : Int32)) e3) (fun r11 => rdB5 (f5_Ma_slot (r7) (r11) e3) (fun e13 r14 => rdB5 (f5_Ma_put (r14) ((e13.1 maAnswer)) e13) (fun e18 _ => pb5 (cl5 (v2_5) ((8 : Int32)) e18) (fun r23 => rdB5 (stI5 maGoing (r23) e18) (fun e25 _ => rdB5 (stI5 maAnswer ((0 : Int32)) e25) (fun e27 _ => pb5 (a1 + (1 : Int32)) (fun v1_29 => (f5_Ma_proceed_2 m5 (v1_29) e27))))))))))) else rdB5 (stI5 maOutcome ((1 : Int32)) e1) (fun e31 _ => rdB5 (stI5 maNumber ((e31.1 maAnswer)) e31) (fun e33 _ => .inl (e33, ()))))) else rdB5 (sa5 maMemory (((e.1 maFrame)).toNatClampNeg) ((e.1 maGoing)) e) (fun e34 _ => .inl (e34, ()))))
def f5_Ma_proceed  (e : E5) : R5 Unit := (f5_Ma_proceed_2 fu5 ((0 : Int32)) e)
def f5_Ma_offer_29  : Nat → Int32 → Int32 → E5 → R5 Unit
  | 0, _, _, _ => .inr (0, 0)
  | m5 + 1, a1, a2, e => (if a1 ≤ a2 then rdB5 (stI5 maWants ((4 : Int32)) e) (fun e1 _ => .inl (e1, ())) else rdB5 (sa5 maValues ((a2).toNatClampNeg) (a2) e) (fun e2 _ => rdB5 (sa5 maWeights ((a2).toNatClampNeg) ((1 : Int32)) e2) (fun e4 _ => pb5 (a2 + (1 : Int32)) (fun v2_5 => (f5_Ma_offer_29 m5 (a1) (v2_5) e4)))))
def f5_Ma_offer (a1 : Int32) (e : E5) : R5 Unit := (if a1 < (1 : Int32) then rdB5 (f5_Ma_fail ((5 : Int32)) e) (fun e1 _ => .inl (e1, ())) else (if a1 ≤ (8 : Int32) then rdB5 (stI5 maWays (a1) e) (fun e4 _ => rdB5 (stI5 maTotal ((0 : Int32)) e4) (fun e5 _ => (f5_Ma_offer_29 fu5 (a1) ((0 : Int32)) e5))) else rdB5 (f5_Ma_fail ((5 : Int32)) e) (fun e8 _ => .inl (e8, ()))))
def f5_Ma_spreadOut_240 (B200 : Int32 → Int32 → E5 → R5 Unit) (a4 s0 : Int32) (e : E5) : R5 Unit := rdB5 (stI5 maTotal (((e.1 maTotal) + (e.2.1 maWeights (a4).toNatClampNeg))) e) (fun e1 _ => pb5 (a4 + (1 : Int32)) (fun v4_2 => (B200 (s0) (v4_2) e1)))
def f5_Ma_spreadOut_282  (e : E5) : R5 Unit := rdB5 (f5_Ma_fail ((3 : Int32)) e) (fun e1 _ => .inl (e1, ()))
def f5_Ma_spreadOut_200  : Nat → Int32 → Int32 → E5 → R5 Unit
  | 0, _, _, _ => .inr (0, 0)
  | m5 + 1, a3, a4, e => (if (e.1 maWays) ≤ a4 then (if a3 = (0 : Int32) then (f5_Ma_spreadOut_282 e) else (if (e.1 maTotal) ≤ (0 : Int32) then (f5_Ma_spreadOut_282 e) else rdB5 (stI5 maWants ((3 : Int32)) e) (fun e1 _ => .inl (e1, ())))) else (if a3 = (0 : Int32) then (f5_Ma_spreadOut_240 (f5_Ma_spreadOut_200 m5) (a4) ((0 : Int32)) e) else (if (e.2.1 maWeights (a4).toNatClampNeg) < (0 : Int32) then (f5_Ma_spreadOut_240 (f5_Ma_spreadOut_200 m5) (a4) ((0 : Int32)) e) else (if (1000000 : Int32) < (e.2.1 maWeights (a4).toNatClampNeg) then (f5_Ma_spreadOut_240 (f5_Ma_spreadOut_200 m5) (a4) ((0 : Int32)) e) else (f5_Ma_spreadOut_240 (f5_Ma_spreadOut_200 m5) (a4) ((1 : Int32)) e)))))
def f5_Ma_spreadOut_190  (e : E5) : R5 Unit := rdB5 (stI5 maTotal ((0 : Int32)) e) (fun e1 _ => (f5_Ma_spreadOut_200 fu5 ((1 : Int32)) ((0 : Int32)) e1))
def f5_Ma_spreadOut_42  : Nat → Int32 → E5 → R5 Unit
  | 0, _, _ => .inr (0, 0)
  | m5 + 1, a3, e => (if (e.1 maWays) ≤ a3 then (f5_Ma_spreadOut_190 e) else rdB5 (sa5 maValues ((a3).toNatClampNeg) (a3) e) (fun e1 _ => rdB5 (sa5 maWeights ((a3).toNatClampNeg) ((1 : Int32)) e1) (fun e3 _ => pb5 (a3 + (1 : Int32)) (fun v3_4 => (f5_Ma_spreadOut_42 m5 (v3_4) e3)))))
def f5_Ma_spreadOut_37 (s1 : Int32) (e : E5) : R5 Unit := rdB5 (stI5 maWays (s1) e) (fun e1 _ => (f5_Ma_spreadOut_42 fu5 ((0 : Int32)) e1))
def f5_Ma_spreadOut_146  : Nat → Int32 → E5 → R5 Unit
  | 0, _, _ => .inr (0, 0)
  | m5 + 1, a3, e => (if (e.1 maWays) ≤ a3 then (f5_Ma_spreadOut_190 e) else rdB5 (sa5 maValues ((a3).toNatClampNeg) ((e.2.1 maWorked (((2 : Int32) * a3)).toNatClampNeg)) e) (fun e1 _ => rdB5 (sa5 maWeights ((a3).toNatClampNeg) ((e1.2.1 maWorked ((((2 : Int32) * a3) + (1 : Int32))).toNatClampNeg)) e1) (fun e3 _ => pb5 (a3 + (1 : Int32)) (fun v3_4 => (f5_Ma_spreadOut_146 m5 (v3_4) e3)))))
def f5_Ma_spreadOut (a1 a2 : Int32) (e : E5) : R5 Unit := (if a2 = (1 : Int32) then (if (e.2.1 maWorked ((0 : Int32)).toNatClampNeg) < (1 : Int32) then (f5_Ma_spreadOut_37 ((0 : Int32)) e) else (if (64 : Int32) < (e.2.1 maWorked ((0 : Int32)).toNatClampNeg) then (f5_Ma_spreadOut_37 ((0 : Int32)) e) else (f5_Ma_spreadOut_37 ((e.2.1 maWorked ((0 : Int32)).toNatClampNeg)) e))) else (if a2 = (2 : Int32) then rdB5 (stI5 maWays ((2 : Int32)) e) (fun e7 _ => rdB5 (sa5 maValues (((0 : Int32)).toNatClampNeg) ((1 : Int32)) e7) (fun e9 _ => rdB5 (sa5 maWeights (((0 : Int32)).toNatClampNeg) ((e9.2.1 maWorked ((0 : Int32)).toNatClampNeg)) e9) (fun e11 _ => rdB5 (sa5 maValues (((1 : Int32)).toNatClampNeg) ((0 : Int32)) e11) (fun e13 _ => rdB5 (sa5 maWeights (((1 : Int32)).toNatClampNeg) ((e13.2.1 maWorked ((1 : Int32)).toNatClampNeg)) e13) (fun e15 _ => (f5_Ma_spreadOut_190 e15)))))) else pb5 (cl5 (a1) ((4 : Int32)) e) (fun r2 => rdB5 (stI5 maWays ((if (8 : Int32) < (r2 / (2 : Int32)) then (8 : Int32) else (r2 / (2 : Int32)))) e) (fun e4 _ => (f5_Ma_spreadOut_146 fu5 ((0 : Int32)) e4)))))
def f5_Ma_settle_26  (e : E5) : R5 Unit := pb5 (cl5 ((e.2.1 maMemory ((e.1 maFrame)).toNatClampNeg)) ((8 : Int32)) e) (fun r2 => rdB5 (stI5 maGoing (r2) e) (fun e4 _ => rdB5 (stI5 maAnswer ((0 : Int32)) e4) (fun e6 _ => rdB5 (f5_Ma_proceed e6) (fun e8 _ => .inl (e8, ())))))
def f5_Ma_settle (a1 : Int32) (e : E5) : R5 Unit := (if a1 < (0 : Int32) then (f5_Ma_settle_26 e) else (if (e.1 maWays) ≤ a1 then (f5_Ma_settle_26 e) else rdB5 (f5_Ma_put ((e.1 maTarget)) ((e.2.1 maValues (a1).toNatClampNeg)) e) (fun e1 _ => (f5_Ma_settle_26 e1))))
def f5_Ma_openCall_92 (a1 : Int32) (e : E5) : R5 Unit := pb5 (fo6 (a1) e) (fun r2 => rdB5 (stI5 maGoing (r2) e) (fun e4 _ => .inl (e4, ())))
def f5_Ma_openCall_57  : Nat → Int32 → Int32 → Int32 → E5 → R5 Unit
  | 0, _, _, _, _ => .inr (0, 0)
  | m5 + 1, a1, a2, a3, e => (if a2 ≤ a3 then (f5_Ma_openCall_92 (a1) e) else (if (4 : Int32) ≤ a3 then (f5_Ma_openCall_92 (a1) e) else rdB5 (sa5 maMemory (((((e.1 maFrame) + (1 : Int32)) + a3)).toNatClampNeg) ((e.2.1 maWorked (a3).toNatClampNeg)) e) (fun e1 _ => pb5 (a3 + (1 : Int32)) (fun v3_2 => (f5_Ma_openCall_57 m5 (a1) (a2) (v3_2) e1)))))
def f5_Ma_openCall (a1 a2 : Int32) (e : E5) : R5 Unit := (if (e.1 maOpen) < (12 : Int32) then rdB5 (stI5 maOpen (((e.1 maOpen) + (1 : Int32))) e) (fun e1 _ => rdB5 (stI5 maFrame (((e1.1 maFrame) + (9 : Int32))) e1) (fun e3 _ => rdB5 (f5_Ar_fill4 ((e3.1 maFrame)) (((e3.1 maFrame) + (9 : Int32))) ((0 : Int32)) e3) (fun e5 _ => (f5_Ma_openCall_57 fu5 (a1) (a2) ((0 : Int32)) e5)))) else rdB5 (f5_Ma_fail ((4 : Int32)) e) (fun e9 _ => .inl (e9, ())))
def f5_Ma_obey_134 (s1 s2 : Int32) (e : E5) : R5 Unit := pb5 (cl5 (s1) (s2) e) (fun r2 => (if r2 = (-1 : Int32) then rdB5 (stI5 maGoing ((e.1 maGoing)) e) (fun e7 _ => .inl (e7, ())) else rdB5 (stI5 maGoing (r2) e) (fun e4 _ => .inl (e4, ()))))
def f5_Ma_obey (a1 a2 : Int32) (e : E5) : R5 Unit := pb5 ((e.2.1 maWorked ((0 : Int32)).toNatClampNeg)) (fun v3_1 => (if (a2).toInt = 0 then rdB5 (f5_Ma_put ((e.1 maTarget)) (v3_1) e) (fun e3 _ => .inl (e3, ())) else if (a2).toInt = 1 then rdB5 (f5_Ma_spreadOut (a1) (a2) e) (fun e6 _ => .inl (e6, ())) else if (a2).toInt = 2 then rdB5 (f5_Ma_spreadOut (a1) (a2) e) (fun e9 _ => .inl (e9, ())) else if (a2).toInt = 3 then rdB5 (f5_Ma_spreadOut (a1) (a2) e) (fun e12 _ => .inl (e12, ())) else if (a2).toInt = 4 then rdB5 (f5_Ma_offer (v3_1) e) (fun e15 _ => .inl (e15, ())) else if (a2).toInt = 5 then pb5 (cl5 (a1) ((5 : Int32)) e) (fun r19 => pb5 (cl5 (a1) ((4 : Int32)) e) (fun r23 => rdB5 (f5_Ma_openCall (r19) (r23) e) (fun e25 _ => .inl (e25, ())))) else if (a2).toInt = 6 then (if v3_1 = (0 : Int32) then (f5_Ma_obey_134 (a1) ((7 : Int32)) e) else (f5_Ma_obey_134 (a1) ((6 : Int32)) e)) else if (a2).toInt = 7 then pb5 (cl5 (a1) ((6 : Int32)) e) (fun r30 => (if v3_1 = (0 : Int32) then rdB5 (stI5 maGoing ((e.1 maGoing)) e) (fun e37 _ => .inl (e37, ())) else (if r30 = (-1 : Int32) then rdB5 (stI5 maGoing (a1) e) (fun e34 _ => .inl (e34, ())) else rdB5 (stI5 maGoing (r30) e) (fun e32 _ => .inl (e32, ()))))) else if (a2).toInt = 8 then rdB5 (stI5 maGoing ((-1 : Int32)) e) (fun e38 _ => rdB5 (stI5 maAnswer (v3_1) e38) (fun e39 _ => .inl (e39, ()))) else if (a2).toInt = 9 then (if v3_1 = (0 : Int32) then rdB5 (stI5 maOutcome ((3 : Int32)) e) (fun e42 _ => .inl (e42, ())) else rdB5 (stI5 maOutcome ((0 : Int32)) e) (fun e41 _ => .inl (e41, ()))) else rdB5 (stI5 maGained (v3_1) e) (fun e2 _ => .inl (e2, ()))))
def f5_Ma_act_92 (a1 : Int32) (e : E5) : R5 Unit := (if (e.1 maFailure) = (0 : Int32) then pb5 (cl5 (a1) ((8 : Int32)) e) (fun r2 => rdB5 (stI5 maGoing (r2) e) (fun e4 _ => rdB5 (stI5 maAnswer ((0 : Int32)) e4) (fun e6 _ => pb5 (cl5 (a1) ((0 : Int32)) e6) (fun r10 => rdB5 (f5_Ma_obey (a1) (r10) e6) (fun e12 _ => (if (e12.1 maWants) = (-1 : Int32) then (if (e12.1 maOutcome) = (0 : Int32) then rdB5 (f5_Ma_proceed e12) (fun e17 _ => .inl (e17, ())) else .inl (e12, ())) else .inl (e12, ()))))))) else rdB5 (stI5 maOutcome ((2 : Int32)) e) (fun e20 _ => .inl (e20, ())))
def f5_Ma_act_55  : Nat → Int32 → Int32 → Int32 → E5 → R5 Unit
  | 0, _, _, _, _ => .inr (0, 0)
  | m5 + 1, a1, a2, a3, e => (if a2 ≤ a3 then (f5_Ma_act_92 (a1) e) else (if (Int32.ofNat (e.2.2 maWorked)) ≤ a3 then (f5_Ma_act_92 (a1) e) else (if (e.1 maFailure) = (0 : Int32) then rdB5 (f5_Ma_work e) (fun e1 r2 => rdB5 (sa5 maWorked ((a3).toNatClampNeg) (r2) e1) (fun e4 _ => pb5 (a3 + (1 : Int32)) (fun v3_6 => (f5_Ma_act_55 m5 (a1) (a2) (v3_6) e4)))) else (f5_Ma_act_92 (a1) e))))
def f5_Ma_act  (e : E5) : R5 Unit := pb5 ((e.2.1 maMemory ((e.1 maFrame)).toNatClampNeg)) (fun v1_1 => rdB5 (stI5 maWants ((-1 : Int32)) e) (fun e2 _ => rdB5 (stI5 maGained ((0 : Int32)) e2) (fun e3 _ => rdB5 (stI5 maFailure ((0 : Int32)) e3) (fun e5 _ => pb5 (cl5 (v1_1) ((3 : Int32)) e5) (fun r9 => rdB5 (stI5 maPc (r9) e5) (fun e11 _ => rdB5 (f5_Ma_aim (v1_1) e11) (fun e13 _ => pb5 (cl5 (v1_1) ((4 : Int32)) e13) (fun r19 => (f5_Ma_act_55 fu5 (v1_1) (r19) ((0 : Int32)) e13)))))))))

end
section
set_option maxHeartbeats 1600000
/-! the machine works an expression out: what its code comes to -/
def pl16 (o x : Int32) (e : E5) : Int32 := if o = 3 then e.1 maFrame + 1 + x else x
def va6 (o x : Int32) (e : E5) : Int32 := if pl16 o x e < 0 then 0 else if Int32.ofNat (e.2.2 maMemory) ≤ pl16 o x e then 0 else e.2.1 maMemory (pl16 o x e).toNatClampNeg
def ca6 (k i : Int32) (e : E5) : Int32 := if k < 0 then -1 else if (3 : Int32) ≤ k then -1 else if i < 0 then -1 else if e.2.1 coArraySizes k.toNatClampNeg ≤ i then -1 else e.1 coVars + e.2.1 coArrayBases k.toNatClampNeg + i
def mm6 (e : E5) : Mm6 := (fun o x => va6 o x e, fun k i => if ca6 k i e = -1 then none else some (e.2.1 maMemory (ca6 k i e).toNatClampNeg))
theorem ft_6 {o x : Int32} {e : E5} : f5_Ma_fetch o x e = .inl (e, if o = 1 then x else va6 o x e) := by
  unfold f5_Ma_fetch
  by_cases h1 : o = 1
  · rw [if_pos h1, if_pos h1]
  · rw [if_neg h1, if_neg h1]
    have g : ∀ s : Int32, s = pl16 o x e → f5_Ma_fetch_24 s e = .inl (e, va6 o x e) := fun s hs => by
      unfold f5_Ma_fetch_24 va6
      rw [hs]
      by_cases a : pl16 o x e < 0
      · rw [if_pos a, if_pos a]
      · rw [if_neg a, if_neg a]
        by_cases b : Int32.ofNat (e.2.2 maMemory) ≤ pl16 o x e
        · rw [if_pos b, if_pos b]
        · rw [if_neg b, if_neg b]
    by_cases h3 : o = 3
    · rw [if_pos h3]; exact g _ (by unfold pl16; rw [if_pos h3])
    · rw [if_neg h3]; exact g _ (by unfold pl16; rw [if_neg h3])
theorem ce_6 {k i : Int32} {e : E5} : f5_Ma_cellAt k i e = .inl (e, ca6 k i e) := by
  unfold f5_Ma_cellAt ca6 f5_Ma_cellAt_31
  by_cases h1 : k < 0
  · rw [if_pos h1, if_pos h1, if_pos rfl]
  · rw [if_neg h1, if_neg h1]
    by_cases h2 : (3 : Int32) ≤ k
    · rw [if_pos h2, if_pos h2, if_pos rfl]
    · rw [if_neg h2, if_neg h2]
      by_cases h3 : i < 0
      · rw [if_pos h3, if_pos h3, if_pos rfl]
      · rw [if_neg h3, if_neg h3]
        by_cases h4 : e.2.1 coArraySizes k.toNatClampNeg ≤ i
        · rw [if_pos h4, if_pos h4, if_pos rfl]
        · rw [if_neg h4, if_neg h4, if_neg ne105]
/-- what working out leaves as it was -/
def W6 (e e' : E5) : Prop := (∀ g, g ≠ maPc → g ≠ maFailure → e'.1 g = e.1 g) ∧ (∀ g, g ≠ maStack → e'.2.1 g = e.2.1 g) ∧ e'.2.2 = e.2.2
theorem W_r6 {e : E5} : W6 e e := ⟨fun _ _ _ => rfl, fun _ _ => rfl, rfl⟩
theorem W_t6 {e f g : E5} (h : W6 e f) (k : W6 f g) : W6 e g := ⟨fun j a b => (k.1 j a b).trans (h.1 j a b), fun j a => (k.2.1 j a).trans (h.2.1 j a), k.2.2.trans h.2.2⟩
theorem W_mm6 {e e' : E5} (h : W6 e e') : mm6 e' = mm6 e := by
  have a1 := h.1 maFrame (by decide) (by decide)
  have a2 := h.1 coVars (by decide) (by decide)
  have a3 := h.2.1 maMemory (by decide)
  have a4 := h.2.1 coArraySizes (by decide)
  have a5 := h.2.1 coArrayBases (by decide)
  unfold mm6 va6 ca6 pl16
  rw [a1, a2, a3, a4, a5, h.2.2]
theorem cp_W6 {e e' : E5} (h : W6 e e') : ∀ {p : Nat} {K : List Qq6}, cp6 e p K → cp6 e' p K
  | p, [], k => by
    show (p : Int) < (e'.1 coLength).toInt ∧ e'.2.1 coOps p = 0
    rw [h.1 coLength (by decide) (by decide), h.2.1 coOps (by decide)]; exact k
  | p, c :: K, k => by
    show (p : Int) < (e'.1 coLength).toInt ∧ e'.2.1 coOps p = c.1 ∧ e'.2.1 coArgs p = c.2 ∧ cp6 e' (p + 1) K
    rw [h.1 coLength (by decide) (by decide), h.2.1 coOps (by decide), h.2.1 coArgs (by decide)]
    exact ⟨k.1, k.2.1, k.2.2.1, cp_W6 h k.2.2.2⟩
/-- pieces of the record's changes -/
theorem W_pc6 {e : E5} {x : Int32} : W6 e (fun g => if g = maPc then x else e.1 g, e.2) := ⟨fun g a _ => if_neg a, fun _ _ => rfl, rfl⟩
theorem W_fa6 {e : E5} {x : Int32} : W6 e (fun g => if g = maFailure then x else e.1 g, e.2) := ⟨fun g _ a => if_neg a, fun _ _ => rfl, rfl⟩
theorem W_st6 {e : E5} {i : Nat} {x : Int32} : W6 e (e.1, fun g j => if g = maStack ∧ j = i then x else e.2.1 g j, e.2.2) := ⟨fun _ _ _ => rfl, fun g a => by funext j; exact if_neg (fun q => a q.1), rfl⟩
theorem wk_m6 : ∀ (K : List Qq6) (m p : Nat) (st : List Int32) (e : E5), K.length < m → p + K.length ≤ 400000 → cp6 e p K → e.1 maPc = Int32.ofNat p → stk5 (e.2.1 maStack) st → dl6 K st.length → st.length ≤ 256 → e.2.2 maStack = 256 →
    (∃ st' e', ex6 (mm6 e) K st = .inl st' ∧ f5_Ma_work_2 m (Int32.ofNat st.length) e = .inl (e', st'.headD 0) ∧ e'.1 maPc = Int32.ofNat (p + K.length + 1) ∧ e'.1 maFailure = e.1 maFailure ∧ W6 e e') ∨
    (∃ f e', ex6 (mm6 e) K st = .inr f ∧ (f = 1 ∨ f = 2) ∧ f5_Ma_work_2 m (Int32.ofNat st.length) e = .inl (e', 0) ∧ e'.1 maFailure = f ∧ W6 e e')
  | _, 0, _, _, _, h, _, _, _, _, _, _, _ => absurd h (by omega)
  | [], m + 1, p, st, e, _, hp, hc, hpc, hs, _, hl, _ => by
    rw [List.length_nil] at hp
    have lp := ofn_i (n := p) (by omega)
    have ls := ofn_i (n := st.length) (by omega)
    rw [f5_Ma_work_2]
    dsimp only [pb5]
    rw [hpc, if_neg (by rw [lti, lp, t0i]; omega), if_neg (by rw [lei, lp]; have := hc.1; omega), cl_5 (by omega), hc.2, if_pos rfl]
    have on : Int32.ofNat p + 1 = Int32.ofNat (p + 0 + 1) := on_15 (by omega)
    rw [on]
    refine Or.inl ⟨st, (fun g => if g = maPc then Int32.ofNat (p + 0 + 1) else e.1 g, e.2), rfl, ?_, rfl, rfl, W_pc6⟩
    show (if Int32.ofNat st.length ≤ 0 then _ else _) = _
    cases st with
    | nil => rw [if_pos (by decide)]; rfl
    | cons x r =>
      rw [List.length_cons] at ls hl ⊢
      have lr := ofn_i (n := r.length) (by omega)
      have e1 : Int32.ofNat (r.length + 1) - 1 = Int32.ofNat r.length := by
        apply Int32.toInt_inj.mp
        rw [sub_i (by rw [t1i]; omega) (by rw [t1i]; omega), ls, lr, t1i]
        omega
      rw [if_neg (by rw [lei, ls, t0i]; omega), e1, cl_5 (by omega)]
      have z : e.2.1 maStack r.length = x := hs.1
      show (Sum.inl (_, e.2.1 maStack r.length) : R5 Int32) = _
      rw [z]
      rfl
  | c :: K, m + 1, p, st, e, hm, hp, hc, hpc, hs, hd, hl, h256 => by
    rw [List.length_cons] at hm hp
    have lp := ofn_i (n := p) (by omega)
    have ls := ofn_i (n := st.length) (by omega)
    obtain ⟨c1, c2, c3, c4⟩ := hc
    have on : Int32.ofNat p + 1 = Int32.ofNat (p + 1) := on_15 (by omega)
    -- the rest, from a record with the new pile
    have rest : ∀ (st2 : List Int32) (e2 : E5), W6 e e2 → e2.1 maPc = e.1 maPc → e2.1 maFailure = e.1 maFailure → stk5 (e2.2.1 maStack) st2 → dl6 K st2.length → st2.length ≤ 256 → on6 (mm6 e) c st = .inl st2 →
        (∃ st' e', ex6 (mm6 e) (c :: K) st = .inl st' ∧ f5_Ma_work_278 (f5_Ma_work_2 m) (Int32.ofNat st2.length) e2 = .inl (e', st'.headD 0) ∧ e'.1 maPc = Int32.ofNat (p + (K.length + 1) + 1) ∧ e'.1 maFailure = e.1 maFailure ∧ W6 e e') ∨
        (∃ f e', ex6 (mm6 e) (c :: K) st = .inr f ∧ (f = 1 ∨ f = 2) ∧ f5_Ma_work_278 (f5_Ma_work_2 m) (Int32.ofNat st2.length) e2 = .inl (e', 0) ∧ e'.1 maFailure = f ∧ W6 e e') := fun st2 e2 w1 w2 w3 w4 w5 w6 w7 => by
      have e278 : f5_Ma_work_278 (f5_Ma_work_2 m) (Int32.ofNat st2.length) e2 = f5_Ma_work_2 m (Int32.ofNat st2.length) (fun g => if g = maPc then Int32.ofNat (p + 1) else e2.1 g, e2.2) := by
        rw [← on, ← hpc, ← w2]
        rfl
      have W2 : W6 e (fun g => if g = maPc then Int32.ofNat (p + 1) else e2.1 g, e2.2) := W_t6 w1 W_pc6
      rw [e278, ex_c6 w7]
      have ih := wk_m6 K m (p + 1) st2 (fun g => if g = maPc then Int32.ofNat (p + 1) else e2.1 g, e2.2) (by omega) (by omega) (cp_W6 W2 c4) rfl w4 w5 w6 (by rw [W2.2.2]; exact h256)
      rw [W_mm6 W2] at ih
      rcases ih with ⟨st', e', i1, i2, i3, i4, i5⟩ | ⟨f, e', i1, i2, i3, i4, i5⟩
      · exact Or.inl ⟨st', e', i1, i2, by rw [i3]; congr 1; omega, by rw [i4]; exact w3, W_t6 W2 i5⟩
      · exact Or.inr ⟨f, e', i1, i2, i3, i4, W_t6 W2 i5⟩
    rw [f5_Ma_work_2]
    dsimp only [pb5]
    rw [hpc, if_neg (by rw [lti, lp, t0i]; omega), if_neg (by rw [lei, lp]; omega), cl_5 (by omega), c2, c3]
    have l3 : (3 : Int32).toInt = 3 := rfl
    rcases hd with ⟨k, n256, hd⟩ | ⟨k, n1, hd⟩ | ⟨k, n2, hd⟩
    · -- a number, a variable
      have k0 : ¬ c.1 = 0 ∧ ¬ (3 : Int32) < c.1 ∧ c.1 ≤ 3 := by rcases k with q | q | q <;> rw [q] <;> decide
      rw [if_neg k0.1, if_neg k0.2.1, h256, if_neg (by rw [lei, ls]; have : (Int32.ofNat 256).toInt = 256 := rfl; omega), ft_6, rdl_5, cl_5 (by omega)]
      have e1 : Int32.ofNat st.length + 1 = Int32.ofNat (st.length + 1) := on_15 (by omega)
      show ((∃ st' e', _ ∧ rdB5 (sa5 maStack st.length _ e) (fun e13 _ => f5_Ma_work_278 (f5_Ma_work_2 m) (Int32.ofNat st.length + 1) e13) = _ ∧ _) ∨ _)
      rw [e1]
      generalize hv : (if c.1 = 1 then c.2 else va6 c.1 c.2 e) = v
      refine rest (v :: st) (e.1, fun g j => if g = maStack ∧ j = st.length then v else e.2.1 g j, e.2.2) W_st6 rfl rfl ⟨if_pos ⟨rfl, rfl⟩, stk_e5 (fun j hj => if_neg (fun q => by have := q.2; omega)) hs⟩ hd (by rw [List.length_cons]; omega) ?_
      unfold on6
      rw [if_pos k0.2.2]
      show (Sum.inl ((if c.1 = 1 then c.2 else va6 c.1 c.2 e) :: st) : List Int32 ⊕ Int32) = _
      rw [hv]
    · cases st with
      | nil => rw [List.length_nil] at n1; omega
      | cons x r =>
        rw [List.length_cons] at ls hl n1 hd ⊢
        have lr := ofn_i (n := r.length) (by omega)
        have e1 : Int32.ofNat (r.length + 1) - 1 = Int32.ofNat r.length := by
          apply Int32.toInt_inj.mp
          rw [sub_i (by rw [t1i]; omega) (by rw [t1i]; omega), ls, lr, t1i]
          omega
        have hx : e.2.1 maStack r.length = x := hs.1
        have n0 : ¬ Int32.ofNat (r.length + 1) ≤ 0 := by rw [lei, ls, t0i]; omega
        rcases k with k | k
        · -- a cell
          have o6 : on6 (mm6 e) c (x :: r) = if ca6 c.2 x e = -1 then .inr 1 else .inl (e.2.1 maMemory (ca6 c.2 x e).toNatClampNeg :: r) := by
            unfold on6
            rw [if_neg (by rw [k]; decide), if_pos k]
            show (match (if ca6 c.2 x e = -1 then none else some (e.2.1 maMemory (ca6 c.2 x e).toNatClampNeg)) with | some v => .inl (v :: r) | none => .inr 1 : List Int32 ⊕ Int32) = _
            by_cases q : ca6 c.2 x e = -1
            · rw [if_pos q, if_pos q]
            · rw [if_neg q, if_neg q]
          rw [if_neg (by rw [k]; decide), if_pos (by rw [k]; decide), if_pos k, if_neg n0, e1, cl_5 (by omega), hx, ce_6, rdl_5]
          by_cases q : ca6 c.2 x e = -1
          · rw [if_pos q] at o6
            rw [ex_x6 o6]
            refine Or.inr ⟨1, (fun g => if g = maFailure then 1 else e.1 g, e.2), rfl, Or.inl rfl, ?_, rfl, W_fa6⟩
            rw [if_pos q]
            rfl
          · rw [if_neg q] at o6
            rw [if_neg q]
            generalize e.2.1 maMemory (ca6 c.2 x e).toNatClampNeg = v at o6
            exact rest (v :: r) (e.1, fun g j => if g = maStack ∧ j = r.length then v else e.2.1 g j, e.2.2) W_st6 rfl rfl ⟨if_pos ⟨rfl, rfl⟩, stk_e5 (fun j hj => if_neg (fun q => by have := q.2; omega)) hs.2⟩ hd (by rw [List.length_cons]; omega) o6
        · -- a sign
          have o6 : on6 (mm6 e) c (x :: r) = .inl (un16 c.1 x :: r) := by
            unfold on6
            rcases k with q | q <;> rw [q] <;> rfl
          have k0 : ¬ c.1 = 0 ∧ (3 : Int32) < c.1 ∧ ¬ c.1 = 4 ∧ ¬ (6 : Int32) < c.1 := by rcases k with q | q <;> rw [q] <;> decide
          rw [if_neg k0.1, if_pos k0.2.1, if_neg k0.2.2.1]
          have e173 : f5_Ma_work_173 (f5_Ma_work_2 m) (Int32.ofNat (r.length + 1)) c.1 e = f5_Ma_work_278 (f5_Ma_work_2 m) (Int32.ofNat (un16 c.1 x :: r).length) (e.1, fun g j => if g = maStack ∧ j = r.length then un16 c.1 x else e.2.1 g j, e.2.2) := by
            unfold f5_Ma_work_173
            rw [if_neg k0.2.2.2, if_neg n0, e1, cl_5 (by omega), hx]
            dsimp only [pb5]
            unfold un16
            by_cases q : c.1 = 5
            · rw [if_pos q, if_pos q]; rfl
            · rw [if_neg q, if_neg q]
              by_cases y : x = 0
              · rw [if_pos y, if_pos y]; rfl
              · rw [if_neg y, if_neg y]; rfl
          rw [e173]
          exact rest (un16 c.1 x :: r) (e.1, fun g j => if g = maStack ∧ j = r.length then un16 c.1 x else e.2.1 g j, e.2.2) W_st6 rfl rfl ⟨if_pos ⟨rfl, rfl⟩, stk_e5 (fun j hj => if_neg (fun q => by have := q.2; omega)) hs.2⟩ hd (by rw [List.length_cons]; omega) o6
    · -- an operator
      cases st with
      | nil => rw [List.length_nil] at n2; omega
      | cons y st =>
        cases st with
        | nil => rw [List.length_cons, List.length_nil] at n2; omega
        | cons x r =>
          rw [List.length_cons, List.length_cons] at ls hl n2 hd ⊢
          have lr := ofn_i (n := r.length) (by omega)
          have lr1 := ofn_i (n := r.length + 1) (by omega)
          have em : (-1 : Int32).toInt = -1 := rfl
          have e1 : Int32.ofNat (r.length + 1 + 1) + (-1) = Int32.ofNat (r.length + 1) := by
            apply Int32.toInt_inj.mp
            rw [add_i (by rw [em]; omega) (by rw [em]; omega), ls, lr1, em]
            omega
          have e2 : Int32.ofNat (r.length + 1) - 1 = Int32.ofNat r.length := by
            apply Int32.toInt_inj.mp
            rw [sub_i (by rw [t1i]; omega) (by rw [t1i]; omega), lr1, lr, t1i]
            omega
          have hy : e.2.1 maStack (r.length + 1) = y := hs.1
          have hx : e.2.1 maStack r.length = x := hs.2.1
          have hcb : (18 ≤ c.1 → y ≠ 0) → f5_Ma_combine c.1 x y = bo6 c.1 x y := fun hy0 => by
            unfold f5_Ma_combine bo6
            rcases k with q | q | q | q | q | q | q | q | q | q | q | q | q
            all_goals
              rw [q] at hy0
              rw [q]
            · rfl
            · rfl
            · rfl
            · rfl
            · rfl
            · rfl
            · rfl
            · rfl
            · rfl
            · rfl
            · rfl
            · show (if y = 0 then 0 else x / y) = x / y
              rw [if_neg (hy0 (by decide))]
            · show (if y = 0 then 0 else x - x / y * y) = x - x / y * y
              rw [if_neg (hy0 (by decide))]
          have k0 : ¬ c.1 = 0 ∧ (3 : Int32) < c.1 ∧ ¬ c.1 = 4 ∧ (6 : Int32) < c.1 := by rcases k with q | q | q | q | q | q | q | q | q | q | q | q | q <;> rw [q] <;> decide
          rw [if_neg k0.1, if_pos k0.2.1, if_neg k0.2.2.1]
          have e252 : (18 ≤ c.1 → y ≠ 0) → f5_Ma_work_252 (f5_Ma_work_2 m) (Int32.ofNat (r.length + 1)) c.1 e = f5_Ma_work_278 (f5_Ma_work_2 m) (Int32.ofNat (bo6 c.1 x y :: r).length) (e.1, fun g j => if g = maStack ∧ j = r.length then bo6 c.1 x y else e.2.1 g j, e.2.2) := fun hy0 => by
            unfold f5_Ma_work_252
            dsimp only [pb5]
            rw [e2, cl_5 (by omega), cl_5 (by omega), hx, hy, hcb hy0]
            rfl
          have e222 : f5_Ma_work_173 (f5_Ma_work_2 m) (Int32.ofNat (r.length + 1 + 1)) c.1 e = if 18 ≤ c.1 ∧ y = 0 then .inl ((fun g => if g = maFailure then 2 else e.1 g, e.2), 0) else f5_Ma_work_278 (f5_Ma_work_2 m) (Int32.ofNat (bo6 c.1 x y :: r).length) (e.1, fun g j => if g = maStack ∧ j = r.length then bo6 c.1 x y else e.2.1 g j, e.2.2) := by
            unfold f5_Ma_work_173 f5_Ma_work_222
            rw [if_pos k0.2.2.2, if_neg (by rw [lei, ls, t1i]; omega)]
            dsimp only [pb5]
            rw [e1, cl_5 (by omega), hy]
            have l18 : (18 : Int32).toInt = 18 := rfl
            by_cases q : c.1 < 18
            · rw [if_pos q, e252 (fun w => absurd w (by rw [lei, l18]; rw [lti, l18] at q; omega)), if_neg (fun w => by
                have a := w.1
                rw [lei, l18] at a
                rw [lti, l18] at q
                omega)]
            · have q' : 18 ≤ c.1 := by
                rw [lei, l18]
                rw [lti, l18] at q
                omega
              rw [if_neg q]
              by_cases w : y = 0
              · rw [if_pos w, if_pos ⟨q', w⟩]; rfl
              · rw [if_neg w, e252 (fun _ => w), if_neg (fun a => w a.2)]
          have o6 : on6 (mm6 e) c (y :: x :: r) = if 18 ≤ c.1 ∧ y = 0 then .inr 2 else .inl (bo6 c.1 x y :: r) := by
            unfold on6
            rw [if_neg (by rw [lei, l3]; rw [lti, l3] at k0; omega), if_neg k0.2.2.1, if_neg (by
              have l6 : (6 : Int32).toInt = 6 := rfl
              have a := k0.2.2.2
              rw [lti, l6] at a
              rw [lei, l6]; omega)]
          rw [e222]
          by_cases q : 18 ≤ c.1 ∧ y = 0
          · rw [if_pos q] at o6 ⊢
            rw [ex_x6 o6]
            exact Or.inr ⟨2, _, rfl, Or.inr rfl, rfl, rfl, W_fa6⟩
          · rw [if_neg q] at o6 ⊢
            exact rest (bo6 c.1 x y :: r) (e.1, fun g j => if g = maStack ∧ j = r.length then bo6 c.1 x y else e.2.1 g j, e.2.2) W_st6 rfl rfl ⟨if_pos ⟨rfl, rfl⟩, stk_e5 (fun j hj => if_neg (fun q => by have := q.2; omega)) hs.2.2⟩ hd (by rw [List.length_cons]; omega) o6

end
