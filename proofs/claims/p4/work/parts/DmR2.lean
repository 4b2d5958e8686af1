set_option maxHeartbeats 1600000
/-! every call has its function and its count, side by side -/
section
variable {T : T5} {X : X5} {Bk N : Nat} {Z : Int32} {W : W5} {a s : Nat}
theorem sr_f2 {v : Nat} (H : TR5 T X Bk N Z) (hv10 : v ≤ 10) (h142 : T.2.1 a = 142) (s150 : s ≤ 150) (hs' : wst5 W = Int32.ofNat s) : ∀ (m mr i : Nat) (V : V5) (e : E5) (σ : rS), LR5 T X Bk N Z V W a 0 e σ → nG5 T Bk N V W → V.2.2.2.2.1 = Int32.ofNat v → vst5 V = Int32.ofNat s → (∀ j, i ≤ j → j < s → sS5 T X Bk N (vrs5 V) (w30_5 W) (w32_5 W) j) → e.1 coMain = -1 → i ≤ s → s - i < mr → sr5 (fun e' _ σ' => QE5 T X Bk N Z e' σ') (f5_Pa_findCalled_2 m (Int32.ofNat i) e) (g5_lookAtCalls_2 mr (Int32.ofNat i) σ)
  | 0, _, _, _, _, _, _, _, _, _, _, _, _, _ => Or.inl rfl
  | m + 1, mr, i, V, e, σ, L, G, hF, hs, hS, hm, hi, hmr => by
    have ih := sr_f2 H hv10 h142 s150 hs' m
    obtain ⟨mr, rfl⟩ : ∃ k, mr = k + 1 := ⟨mr - 1, by omega⟩
    have hh := H.1
    have li := ofn_i (n := i) (by omega)
    have ls := ofn_i (n := s) (by omega)
    have est : e.1 coStatements = Int32.ofNat s := (congrArg (fun V : V5 => vst5 V) L.2.1.1).trans hs
    have s19 : σ.1 19 = Int32.ofNat s := (congrArg (fun W : W5 => wst5 W) L.2.1.2).trans hs'
    have ci : (Int32.ofNat i).toNatClampNeg = i := cl_5 (by omega)
    rw [f5_Pa_findCalled_2, g5_lookAtCalls_2]
    dsimp only [pb5]
    rw [est, s19]
    by_cases c : s = i
    · have q : Int32.ofNat s ≤ Int32.ofNat i := by rw [lei]; omega
      rw [if_pos q, if_pos q]
      exact sr_107 H G hF hv10 h142 s150 hs hs' fu5 fu5 0 e (siU σ 40 (-1)) (lr_fe5 L fe_r5 ⟨rfl, rfl, rfl, rfl, rfl, rfl, rfl, rfl⟩) hm (by omega) (by unfold fu5; omega)
    have q : ¬ Int32.ofNat s ≤ Int32.ofNat i := by rw [lei]; omega
    have i1 : i + 1 ≤ s := by omega
    have i2 : s - (i + 1) < mr := by omega
    have er : e.2.1 506 = vrs5 V := congrArg (fun V : V5 => vrs5 V) L.2.1.1
    have c0 : cl5 (Int32.ofNat i) 0 e = vrs5 V (11 * i) := by
      have z := cl_55 (s := i) (c := 0) est (by omega) (by omega) (by decide)
      rw [er] at z
      exact z
    have c4 : cl5 (Int32.ofNat i) 4 e = vrs5 V (11 * i + 4) := by
      have z := cl_55 (s := i) (c := 4) est (by omega) (by omega) (by decide)
      rw [er] at z
      exact z
    have c5' : cl5 (Int32.ofNat i) 5 e = vrs5 V (11 * i + 5) := by
      have z := cl_55 (s := i) (c := 5) est (by omega) (by omega) (by decide)
      rw [er] at z
      exact z
    have w30 : σ.2.2.1 30 i = w30_5 W i := congrArg (fun W : W5 => w30_5 W i) L.2.1.2
    have w32 : σ.2.2.1 32 i = w32_5 W i := congrArg (fun W : W5 => w32_5 W i) L.2.1.2
    have sj := hS i (Nat.le_refl i) (by omega)
    rw [if_neg q, if_neg q, c0, ci, w30, on_15 (by omega)]
    by_cases k5 : vrs5 V (11 * i) = 5
    · obtain ⟨t, ht, kt, r5, r32, hc⟩ := sj.2.2 k5
      obtain ⟨v', pF, pc⟩ := G.2.2.1
      have v10 := pF.1
      have vv : v' = v := by
        have y1 := congrArg Int32.toInt (pF.2.1.symm.trans hF)
        rw [ofn_i (by omega), ofn_i (by omega)] at y1
        omega
      subst vv
      have sf : σ.1 18 = Int32.ofNat v' := (congrArg (fun W : W5 => W.2.2.2.2.1) L.2.1.2).trans pF.2.2.1
      have F := fN_5 H pF (l1 := vln5 V 1008) (by rw [G.2.2.2.2.2.1]; exact pF.1) (by rw [G.2.2.2.2.2.1]; decide) ht kt
      have q2 := fun k hk => pN_s5 H L.1.2.1 pF (k := k) hk (y := Int32.ofNat (Bk + t)) rfl ht kt
      have r25 : σ.2.2.1 25 = W.2.2.2.2.2.1 := congrArg (fun W : W5 => W.2.2.2.2.2.1) L.2.1.2
      rw [← r25] at q2
      have z := fu2_5 (σ := σ) (tok := Int32.ofNat (Bk + t)) (P := fun k => dn5 T (vfn5 V k).toInt.toNat t) (by omega) sf q2 fu5 0 (by omega) (by unfold fu5; omega) (fun j q => absurd q (by omega))
      have F' : fnd5 v' (fun k => dn5 T (vfn5 V k).toInt.toNat t) (g5_functionOf (Int32.ofNat (Bk + t)) σ) := by
        unfold g5_functionOf
        rcases z with ⟨j, j1, j2, j3, j4⟩ | ⟨j1, j2⟩
        · exact Or.inr ⟨j, j1, j2, j3, j4⟩
        · exact Or.inl ⟨j2, j1⟩
      have fu := fnd_u5 F' F
      have en : f5_Ta_findName (tq5 e) (e.2.1 paFunctionNames) (e.2.2 paFunctionNames) (e.1 coFunctions) (Int32.ofNat t) = f5_Ta_findName T (vfn5 V) (vln5 V 1008) V.2.2.2.2.1 (Int32.ofNat t) := by
        have z1 : e.2.1 1008 = vfn5 V := congrArg (fun V : V5 => vfn5 V) L.2.1.1
        have z2 : e.2.2 = vln5 V := congrArg (fun V : V5 => vln5 V) L.2.1.1
        have z3 : e.1 512 = V.2.2.2.2.1 := congrArg (fun V : V5 => V.2.2.2.2.1) L.2.1.1
        rw [L.1.1, show e.2.1 paFunctionNames = vfn5 V from z1, z2, show e.1 coFunctions = V.2.2.2.2.1 from z3]
      unfold g5_calledBy
      rw [if_pos k5, if_pos (sj.1.mp k5), lr_ir5 L, if_neg ne105, ci, w32, r32, c5', r5, en, fu]
      generalize f5_Ta_findName T (vfn5 V) (vln5 V 1008) V.2.2.2.2.1 (Int32.ofNat t) = r at F ⊢
      have ct : (Int32.ofNat (Bk + t)).toNatClampNeg = Bk + t := cl_5 (by omega)
      have flt : ∀ x : Int32, sr5 (fun e' _ σ' => QE5 T X Bk N Z e' σ') (f5_Pa_findCalled_82 (f5_Pa_findCalled_2 m) (Int32.ofNat i) (Int32.ofNat t) x e) (g5_lookAtCalls_58 (g5_lookAtCalls_2 mr) (Int32.ofNat i) (Int32.ofNat (Bk + t)) x σ) := fun x => by
        unfold f5_Pa_findCalled_82 g5_lookAtCalls_58 g5_lookAtCalls_74
        rw [lr_rv5 H L ht]
        dsimp only [pb5]
        have p6 : (siU σ 11 16).2.2.1 6 (Int32.ofNat (Bk + t)).toNatClampNeg = T.2.2.1 t := by
          show σ.2.2.1 6 (Int32.ofNat (Bk + t)).toNatClampNeg = _
          rw [ct, H.2.1 t ht, ← L.1.2.1]
          rfl
        rw [p6]
        exact sr_q5 (σ1 := siU (siU σ 11 16) 12 (T.2.2.1 t)) (by decide) rfl rfl (kq_l2 _ _ _ (by show ¬ (16 : Int32) = 0; decide) (kq_ri kq_rf))
      by_cases rm : r = -1
      · rw [if_pos rm, if_pos rm]
        exact flt r
      · rw [if_neg rm, if_neg rm]
        obtain ⟨k, k1, kr⟩ : ∃ k, k < v' ∧ r = Int32.ofNat k := by
          rcases F with ⟨q, _⟩ | ⟨k, k1, _, _, k2⟩
          · exact absurd q rm
          · exact ⟨k, k1, k2⟩
        have cr : r.toNatClampNeg = k := by rw [kr, cl_5 (by omega)]
        have z1 : e.2.1 504 k = vnc5 V k := congrArg (fun V : V5 => vnc5 V k) L.2.1.1
        have z2 : σ.2.2.1 26 k = w26_5 W k := congrArg (fun W : W5 => w26_5 W k) L.2.1.2
        have z3 : vnc5 V k = w26_5 W k := pc k k1
        rw [cr, c4, show e.2.1 coNameCounts k = vnc5 V k from z1, z2, hc σ L.1.2.1, ← z3]
        by_cases ce : vnc5 V k = vrs5 V (11 * i + 4)
        · rw [if_pos ce, if_pos ce]
          unfold f5_Pa_findCalled_89 g5_lookAtCalls_74
          rw [stc_5, rdl_5]
          dsimp only [pb5]
          rw [on_15 (by omega)]
          have L2 := lr_st5 (s := Int32.ofNat i) (c := 5) (x := r) (lr_395 (i := (Int32.ofNat (Bk + t)).toNatClampNeg) (x := 300 + r) L)
          have rr := rst_5 (s := i) (c := 5) (x := r) (V := V) hs (by omega) (by omega) (by decide)
          refine ih mr (i + 1) _ _ _ L2 (nG_v5 G) hF hs (fun j j1 j2 => ?_) (by rw [stc_15.1]; exact hm) i1 i2
          have rj : ∀ c, c ≤ 10 → rst5 (Int32.ofNat i) 5 r V (11 * j + c) = vrs5 V (11 * j + c) := fun c hc => by
            show rst5 (Int32.ofNat i) (Int32.ofNat 5) r V (11 * j + c) = _
            rw [rr]
            exact if_neg (by omega)
          exact sS_k5 (hS j (by omega) j2) (rj 0 (by decide)) (rj 4 (by decide)) (rj 5 (by decide)) rfl rfl
        · rw [if_neg ce, if_neg ce]
          exact flt r
    · rw [if_neg k5, if_neg (fun h => k5 (sj.1.mpr h))]
      exact ih mr (i + 1) V e σ L G hF hs (fun j j1 j2 => hS j (by omega) j2) hm i1 i2
end
