set_option maxHeartbeats 1600000
/-! the class: rows made for the first time; Web's makeRows, Atlas's clear -/
/-- rows made for some fields of an object: all 0 -/
def mkJ (κ τ : zS) (a : Nat) (L : List (Nat × Nat)) : Prop := zF (fun g b => b = a ∧ g ∈ L.map Prod.fst) κ τ ∧ zI τ = zI κ ∧ (∀ g b, ¬ (b = a ∧ g ∈ L.map Prod.fst) → zR τ g b = zR κ g b) ∧ (∀ x d, zT κ x = d + 1 → zN τ x = zN κ x ∧ zA τ x = zA κ x) ∧ ∀ q, q ∈ L → zN τ (zR τ q.1 a) = q.2 ∧ zA τ (zR τ q.1 a) = (fun _ => 0) ∧ ∃ t, zT τ (zR τ q.1 a) = t + 1
theorem mkJ.rf {κ : zS} {a : Nat} : mkJ κ κ a [] := ⟨zF.rf, rfl, fun _ _ _ => rfl, fun _ _ _ => ⟨rfl, rfl⟩, fun _ h => absurd h List.not_mem_nil⟩
theorem mkJ_s {C : zC} {n0 a f t n c : Nat} {κ σ κ1 τ : zS} {L : List (Nat × Nat)} (W0 : zW C n0 κ) (W : zW C n0 σ) (T : zT κ a = c + 1) (J : mkJ κ σ a L) (hr : zr f = some t) (ht : 20 ≤ t ∧ c + 1 < 40) (hc : c + 1 = f / 100) (hf : f ≠ 0 ∧ f ≠ 605 ∧ f ≠ 800) (hL : f ∉ L.map Prod.fst) (h1 : zN κ (zR κ f a) ≤ 1) (h7 : 7 ≤ n) (e1 : κ1 = na σ t n) (e : τ = uo κ1 f a (zn σ)) (W2 : zW C n0 τ) : mkJ κ τ a ((f, n) :: L) := by
  obtain ⟨Z, I, R, O, P⟩ := J
  have Ts : zT σ a = c + 1 := Z.t T ht.2
  have rf : zR σ f a = zR κ f a := R f a (fun z => hL z.2)
  have ty0 := W0.r hr (T.trans hc)
  have l1 : zN σ (zR σ f a) ≤ 1 := by
    rw [rf, (O (zR κ f a) (t - 1) (by omega)).1]; exact h1
  obtain ⟨F, u1, u2, u3, u4, u5, u6⟩ := mk_row W hr ht.1 (Ts.trans hc) hf e1 e l1 h7
  have Tt : zT τ a = c + 1 := F.t Ts ht.2
  have tyn := W2.r hr (Tt.trans hc)
  refine ⟨(Z.mono (fun g b z => ⟨z.1, List.mem_cons_of_mem _ z.2⟩)).tr (F.mono (fun g b z => ⟨z.2, by rw [z.1]; exact List.mem_cons_self⟩)), u1.trans I, fun g b z => ?_, fun x d hx => ?_, fun q hq => ?_⟩
  · rw [u2 g b (fun y => z ⟨y.2, by rw [y.1]; exact List.mem_cons_self⟩), R g b (fun y => z ⟨y.1, List.mem_cons_of_mem _ y.2⟩)]
  · by_cases h40 : d + 1 < 40
    · have a1 := O x d hx
      have a2 := u5 x d (Z.t hx h40)
      exact ⟨a2.1.trans a1.1, a2.2.trans a1.2⟩
    · have a1 := O x d hx
      have ts : ∃ d', zT σ x = d' + 1 := by
        have nz := (Z.2.2.2.2.2.1 x (by omega)).1
        exact ⟨zT σ x - 1, by omega⟩
      obtain ⟨d', hd⟩ := ts
      have a2 := u5 x d' hd
      exact ⟨a2.1.trans a1.1, a2.2.trans a1.2⟩
  · rcases List.mem_cons.mp hq with rfl | hq
    · show zN τ (zR τ f a) = n ∧ zA τ (zR τ f a) = (fun _ => 0) ∧ ∃ t, zT τ (zR τ f a) = t + 1
      refine ⟨by rw [u3]; exact u4, by rw [u3]; exact u6, t - 1, by omega⟩
    · obtain ⟨p1, p2, d, p3⟩ := P q hq
      have hm : q.1 ∈ L.map Prod.fst := List.mem_map_of_mem hq
      have ne : q.1 ≠ f := fun z => hL (by rw [← z]; exact hm)
      have rq : zR τ q.1 a = zR σ q.1 a := u2 q.1 a (fun y => ne y.1)
      have a2 := u5 (zR σ q.1 a) d p3
      rw [rq]
      refine ⟨a2.1.trans p1, a2.2.trans p2, ?_⟩
      have nz := (F.2.2.2.2.2.1 (zR σ q.1 a) (by omega)).1
      exact ⟨zT τ (zR σ q.1 a) - 1, by omega⟩
def weM (κ : zS) (a : Nat) : Prop := (zN κ (zR κ weFirsts a)) = 1001 ∧ (zN κ (zR κ weBackFirsts a)) = 1001 ∧ (zN κ (zR κ weOpen a)) = 1000 ∧ (zN κ (zR κ weKnotFirsts a)) = 1001 ∧ (zN κ (zR κ weKnotOf a)) = 1000 ∧ (zN κ (zR κ weOrder a)) = 1000 ∧ (zN κ (zR κ weSeen a)) = 1000 ∧ (zN κ (zR κ weLow a)) = 1000 ∧ (zN κ (zR κ weCursor a)) = 1000 ∧ (zN κ (zR κ wePath a)) = 1000 ∧ (zN κ (zR κ weHeap a)) = 1000
/-- before the first rows are made -/
def weU (κ : zS) (a : Nat) : Prop := (zN κ (zR κ weOpen a)) = 0 ∧ (zN κ (zR κ weFirsts a)) ≤ 1 ∧ (zN κ (zR κ weBackFirsts a)) ≤ 1 ∧ (zN κ (zR κ weKnotFirsts a)) ≤ 1 ∧ (zN κ (zR κ weKnotOf a)) ≤ 1 ∧ (zN κ (zR κ weOrder a)) ≤ 1 ∧ (zN κ (zR κ weSeen a)) ≤ 1 ∧ (zN κ (zR κ weLow a)) ≤ 1 ∧ (zN κ (zR κ weCursor a)) ≤ 1 ∧ (zN κ (zR κ wePath a)) ≤ 1 ∧ (zN κ (zR κ weHeap a)) ≤ 1
def weL (κ : zS) (a : Nat) : Prop := ((zN κ (zR κ weSources a)) = (zN κ (zR κ weTargets a)) ∧ (zN κ (zR κ weEdges a)) = (zN κ (zR κ weTargets a))) ∧ 64 ≤ (zN κ (zR κ weTargets a)) ∧ (zN κ (zR κ weTargets a)) ≤ 20000
abbrev weRl : List (Nat × Nat) := [(weHeap, 1000), (wePath, 1000), (weCursor, 1000), (weLow, 1000), (weSeen, 1000), (weOrder, 1000), (weKnotOf, 1000), (weKnotFirsts, 1001), (weOpen, 1000), (weBackFirsts, 1001), (weFirsts, 1001)]
def atU (κ : zS) (a : Nat) : Prop := (zN κ (zR κ atPlan a)) = 0 ∧ (zN κ (zR κ atFirsts a)) ≤ 1 ∧ (zN κ (zR κ atTotals a)) ≤ 1 ∧ (zN κ (zR κ atGains a)) ≤ 1 ∧ (zN κ (zR κ atChooses a)) ≤ 1 ∧ (zN κ (zR κ atHopeless a)) ≤ 1
theorem weM_J {κ τ : zS} {a : Nat} (J : mkJ κ τ a weRl) : weM τ a := by
  have p := J.2.2.2.2
  exact ⟨(p (weFirsts, 1001) (by decide)).1, (p (weBackFirsts, 1001) (by decide)).1, (p (weOpen, 1000) (by decide)).1, (p (weKnotFirsts, 1001) (by decide)).1, (p (weKnotOf, 1000) (by decide)).1, (p (weOrder, 1000) (by decide)).1, (p (weSeen, 1000) (by decide)).1, (p (weLow, 1000) (by decide)).1, (p (weCursor, 1000) (by decide)).1, (p (wePath, 1000) (by decide)).1, (p (weHeap, 1000) (by decide)).1⟩
theorem weL_J {C : zC} {n0 a : Nat} {κ τ : zS} (W : zW C n0 κ) (T : zT κ a = 14) (J : mkJ κ τ a weRl) (L : weL κ a) : weL τ a := by
  have r := J.2.2.1
  have o := J.2.2.2.1
  unfold weL
  rw [r weTargets a (fun z => absurd z.2 (by decide)), r weSources a (fun z => absurd z.2 (by decide)), r weEdges a (fun z => absurd z.2 (by decide)), (o _ _ (ty_weTargets W T)).1, (o _ _ (ty_weSources W T)).1, (o _ _ (ty_weEdges W T)).1]
  exact L
theorem We_makeRows_c {C : zC} {n0 : Nat} {a0 : Nat} {κ : zS} {Q : zS → Prop} (W : zW C n0 κ) (Ta0 : zT κ a0 = 14)  (hp : (weU κ a0 ∨ weM κ a0) ∧ weL κ a0) (h : ∀ (κ' : zS), (zF (objF a0) κ κ' ∧ zI κ' = zI κ ∧ weM κ' a0 ∧ weL κ' a0) → Q κ') : zRun C 0 mWe_makeRows [.ref a0] κ (oV Q noX) := by
  refine We_makeRows_run W Ta0 ?_
  replace W := W.lo (Nat.le_trans W.1.2.1 W.1.2.2) (Nat.le_refl (zn κ))
  unfold w_We_makeRows_0
  refine ⟨fun c1 => ?_, fun c1 => ?_⟩
  · skip
    refine h _ ?_
    · have c9 : (zN κ (zR κ weOpen a0)) ≠ 0 := fun z => c1 (by rw [z]; rfl)
      exact ⟨zF.rf, rfl, hp.1.resolve_left (fun z => c9 z.1), hp.2⟩
  · skip
    have U : weU κ a0 := by
      rcases hp.1 with z | z
      · exact z
      · have y := z.2.2.1
        rw [y] at c1
        exact absurd c1 (by decide)
    obtain ⟨L2, L0, L1, L3, L4, L5, L6, L7, L8, L9, L10⟩ := U
    replace L2 : zN κ (zR κ weOpen a0) ≤ 1 := by omega
    refine ⟨?_, ?_⟩
    · exact ⟨by decide, by decide⟩  -- b2
    intro κ_2 hκ_2
    intro W3
    refine ⟨?_, ?_⟩
    · rw [hκ_2]; exact if_pos rfl  -- b3
    intro κ_4 hκ_4
    intro W5
    have J0 := mkJ_s (f := weFirsts) (t := 20) (n := 1001) W W Ta0 (mkJ.rf) (show zr weFirsts = some 20 by decide +kernel) (by decide) rfl (by decide) (by decide) L0 (by decide) hκ_2 hκ_4 W5
    refine ⟨?_, ?_⟩
    · exact ⟨by decide, by decide⟩  -- b4
    intro κ_6 hκ_6
    intro W7
    refine ⟨?_, ?_⟩
    · rw [hκ_6]; exact if_pos rfl  -- b5
    intro κ_8 hκ_8
    intro W9
    have J1 := mkJ_s (f := weBackFirsts) (t := 20) (n := 1001) W W5 Ta0 (J0) (show zr weBackFirsts = some 20 by decide +kernel) (by decide) rfl (by decide) (by decide) L1 (by decide) hκ_6 hκ_8 W9
    refine ⟨?_, ?_⟩
    · exact ⟨by decide, by decide⟩  -- b6
    intro κ_10 hκ_10
    intro W11
    refine ⟨?_, ?_⟩
    · rw [hκ_10]; exact if_pos rfl  -- b7
    intro κ_12 hκ_12
    intro W13
    have J2 := mkJ_s (f := weOpen) (t := 23) (n := 1000) W W9 Ta0 (J1) (show zr weOpen = some 23 by decide +kernel) (by decide) rfl (by decide) (by decide) L2 (by decide) hκ_10 hκ_12 W13
    refine ⟨?_, ?_⟩
    · exact ⟨by decide, by decide⟩  -- b8
    intro κ_14 hκ_14
    intro W15
    refine ⟨?_, ?_⟩
    · rw [hκ_14]; exact if_pos rfl  -- b9
    intro κ_16 hκ_16
    intro W17
    have J3 := mkJ_s (f := weKnotFirsts) (t := 20) (n := 1001) W W13 Ta0 (J2) (show zr weKnotFirsts = some 20 by decide +kernel) (by decide) rfl (by decide) (by decide) L3 (by decide) hκ_14 hκ_16 W17
    refine ⟨?_, ?_⟩
    · exact ⟨by decide, by decide⟩  -- b10
    intro κ_18 hκ_18
    intro W19
    refine ⟨?_, ?_⟩
    · rw [hκ_18]; exact if_pos rfl  -- b11
    intro κ_20 hκ_20
    intro W21
    have J4 := mkJ_s (f := weKnotOf) (t := 20) (n := 1000) W W17 Ta0 (J3) (show zr weKnotOf = some 20 by decide +kernel) (by decide) rfl (by decide) (by decide) L4 (by decide) hκ_18 hκ_20 W21
    refine ⟨?_, ?_⟩
    · exact ⟨by decide, by decide⟩  -- b12
    intro κ_22 hκ_22
    intro W23
    refine ⟨?_, ?_⟩
    · rw [hκ_22]; exact if_pos rfl  -- b13
    intro κ_24 hκ_24
    intro W25
    have J5 := mkJ_s (f := weOrder) (t := 20) (n := 1000) W W21 Ta0 (J4) (show zr weOrder = some 20 by decide +kernel) (by decide) rfl (by decide) (by decide) L5 (by decide) hκ_22 hκ_24 W25
    refine ⟨?_, ?_⟩
    · exact ⟨by decide, by decide⟩  -- b14
    intro κ_26 hκ_26
    intro W27
    refine ⟨?_, ?_⟩
    · rw [hκ_26]; exact if_pos rfl  -- b15
    intro κ_28 hκ_28
    intro W29
    have J6 := mkJ_s (f := weSeen) (t := 20) (n := 1000) W W25 Ta0 (J5) (show zr weSeen = some 20 by decide +kernel) (by decide) rfl (by decide) (by decide) L6 (by decide) hκ_26 hκ_28 W29
    refine ⟨?_, ?_⟩
    · exact ⟨by decide, by decide⟩  -- b16
    intro κ_30 hκ_30
    intro W31
    refine ⟨?_, ?_⟩
    · rw [hκ_30]; exact if_pos rfl  -- b17
    intro κ_32 hκ_32
    intro W33
    have J7 := mkJ_s (f := weLow) (t := 20) (n := 1000) W W29 Ta0 (J6) (show zr weLow = some 20 by decide +kernel) (by decide) rfl (by decide) (by decide) L7 (by decide) hκ_30 hκ_32 W33
    refine ⟨?_, ?_⟩
    · exact ⟨by decide, by decide⟩  -- b18
    intro κ_34 hκ_34
    intro W35
    refine ⟨?_, ?_⟩
    · rw [hκ_34]; exact if_pos rfl  -- b19
    intro κ_36 hκ_36
    intro W37
    have J8 := mkJ_s (f := weCursor) (t := 20) (n := 1000) W W33 Ta0 (J7) (show zr weCursor = some 20 by decide +kernel) (by decide) rfl (by decide) (by decide) L8 (by decide) hκ_34 hκ_36 W37
    refine ⟨?_, ?_⟩
    · exact ⟨by decide, by decide⟩  -- b20
    intro κ_38 hκ_38
    intro W39
    refine ⟨?_, ?_⟩
    · rw [hκ_38]; exact if_pos rfl  -- b21
    intro κ_40 hκ_40
    intro W41
    have J9 := mkJ_s (f := wePath) (t := 20) (n := 1000) W W37 Ta0 (J8) (show zr wePath = some 20 by decide +kernel) (by decide) rfl (by decide) (by decide) L9 (by decide) hκ_38 hκ_40 W41
    refine ⟨?_, ?_⟩
    · exact ⟨by decide, by decide⟩  -- b22
    intro κ_42 hκ_42
    intro W43
    refine ⟨?_, ?_⟩
    · rw [hκ_42]; exact if_pos rfl  -- b23
    intro κ_44 hκ_44
    intro W45
    refine h _ ?_
    · have J10 := mkJ_s (f := weHeap) (t := 20) (n := 1000) W W41 Ta0 (J9) (show zr weHeap = some 20 by decide +kernel) (by decide) rfl (by decide) (by decide) L10 (by decide) hκ_42 hκ_44 W45
      exact ⟨J10.1.mono (fun g b z => z.1), J10.2.1, weM_J J10, weL_J W Ta0 J10 hp.2⟩

abbrev clF (κ : zS) (a : Nat) : Nat → Nat → Prop := fun f x => (x = a ∧ atFirsts ≤ f) ∨ x = zR κ atStates a ∨ x = zR κ atEndings a
theorem At_clear_c {C : zC} {n0 : Nat} {a0 : Nat} {κ : zS} {Q : zS → Prop} (W : zW C n0 κ) (Ta0 : zT κ a0 = 3)  (hp : (atU κ a0 ∨ atM κ a0) ∧ atL κ a0 ∧ atH κ a0 ∧ zR κ atStates a0 ≠ zR κ atEndings a0) (h : ∀ (κ' : zS), (zF (clF κ a0) κ κ' ∧ atM κ' a0 ∧ atL κ' a0 ∧ atH κ' a0 ∧ (zI κ' hoTotal (zR κ' atStates a0) = 0 ∧ zI κ' hoTotal (zR κ' atEndings a0) = 0) ∧ zI κ' atNexts a0 = 0 ∧ zI κ' atRings a0 = 0) → Q κ') : zRun C 2 mAt_clear [.ref a0] κ (oV Q noX) := by
  refine At_clear_run W Ta0 ?_
  replace W := W.lo (Nat.le_trans W.1.2.1 W.1.2.2) (Nat.le_refl (zn κ))
  unfold w_At_clear_0
  have hj62 : ∀ (l0 : Nat) (τ : zS), zW C (zn κ) τ → zT τ l0 = 3 → (a0 = l0 ∧ zF (fun g b => b = a0 ∧ atFirsts ≤ g) κ τ ∧ atM τ a0 ∧ atL τ a0) → w_At_clear_62 C (zn κ) Q  l0 τ := by
    rintro _ τ62 W62 T62_0 ⟨rfl, j62⟩
    unfold w_At_clear_62
    intro T1
    obtain ⟨Z0, M0, L0⟩ := j62
    have n0 := at_ne W Ta0
    have rS : zR τ62 atStates a0 = zR κ atStates a0 := Z0.r (fun z => absurd z.2 (by decide))
    have rE : zR τ62 atEndings a0 = zR κ atEndings a0 := Z0.r (fun z => absurd z.2 (by decide))
    have H1 : hoI τ62 (zR τ62 atStates a0) 1000 142 2048 := by rw [rS]; exact hoI_zF Z0 W (ty_atStates W Ta0) (fun f z => n0.1.2.1 z.1) hp.2.2.1.1
    have H2 : hoI τ62 (zR τ62 atEndings a0) 1000 35 2048 := by rw [rE]; exact hoI_zF Z0 W (ty_atEndings W Ta0) (fun f z => n0.1.2.2 z.1) hp.2.2.1.2
    have ne : zR τ62 atStates a0 ≠ zR τ62 atEndings a0 := by rw [rS, rE]; exact hp.2.2.2
    have n1 := at_ne W62 T62_0
    refine Ho_clear_c W62 T1 1000 142 2048 ?_ (fun κ_2 q3 => ?_)
    · exact ⟨H1, hP1⟩  -- p1
    have a1 : ∀ f, ¬ hoF (zR τ62 atStates a0) f a0 := fun f z => n1.1.2.1 z.1.symm
    have r2 : ∀ f, zR κ_2 f a0 = zR τ62 f a0 := fun f => q3.1.r (a1 f)
    have H2b : hoI κ_2 (zR κ_2 atEndings a0) 1000 35 2048 := by rw [r2]; exact hoI_zF q3.1 W62 (ty_atEndings W62 T62_0) (fun f z => ne z.1.symm) H2
    have T2 : zT κ_2 a0 = 3 := q3.1.t T62_0 (by decide)
    intro W4
    intro M5
    intro T6
    refine Ho_clear_c W4 T6 1000 35 2048 ?_ (fun κ_7 q8 => ?_)
    · exact ⟨H2b, hP2⟩  -- p2
    intro W9
    intro M10
    intro T11
    refine Ar_fill_c W9 T11  (fun κ_12 q13 => ?_)
    intro W14
    intro M15
    intro κ_16 hκ_16
    intro W17
    intro κ_18 hκ_18
    intro W19
    intro κ_20 hκ_20
    intro W21
    refine h _ ?_
    · have n2 := at_ne W4 T2
      have a2 : ∀ f, ¬ hoF (zR κ_2 atEndings a0) f a0 := fun f z => n2.1.2.2 z.1.symm
      have r7 : ∀ f, zR κ_7 f a0 = zR τ62 f a0 := fun f => (q8.1.r (a2 f)).trans (r2 f)
      have T7 : zT κ_7 a0 = 3 := q8.1.t T2 (by decide)
      have ow := atRf_o W9 T7 (f := atPlan) (by decide)
      have Z12 : zF (fun g b => b = a0 ∧ atFirsts ≤ g) κ_7 κ_12 := by rw [q13]; exact zF_uf (by rw [ow]; exact ⟨rfl, show (306 : Nat) ≤ 309 by decide⟩)
      have Z16 : zF (fun g b => b = a0 ∧ atFirsts ≤ g) κ_12 κ_16 := by rw [hκ_16]; exact zF_ui ⟨rfl, by decide⟩
      have Z18 : zF (fun g b => b = a0 ∧ atFirsts ≤ g) κ_16 κ_18 := by rw [hκ_18]; exact zF_ui ⟨rfl, by decide⟩
      have Z20 : zF (fun g b => b = a0 ∧ atFirsts ≤ g) κ_18 κ_20 := by rw [hκ_20]; exact zF_ui ⟨rfl, by decide⟩
      have ZZ := ((Z12.tr Z16).tr Z18).tr Z20
      have R20 : zR κ_20 = zR κ_7 := by rw [hκ_20, hκ_18, hκ_16, q13]; rfl
      have N20 : zN κ_20 = zN κ_7 := by rw [hκ_20, hκ_18, hκ_16, q13]; rfl
      have nS : zR κ_7 atStates a0 ≠ a0 := by rw [r7]; exact n1.1.2.1
      have nE : zR κ_7 atEndings a0 ≠ a0 := by rw [r7]; exact n1.1.2.2
      have ln : ∀ f, f ∈ atRf → zN κ_7 (zR κ_7 f a0) = zN τ62 (zR τ62 f a0) := fun f hf => by
        obtain ⟨⟨t, h1, h2⟩, h3⟩ := atRf_r f hf
        have ty := W62.r h1 (T62_0.trans h3.symm)
        have t1 : zT τ62 (zR τ62 f a0) = (t - 1) + 1 := by omega
        have ty2 := W4.r h1 (T2.trans h3.symm)
        have t2 : zT κ_2 (zR κ_2 f a0) = (t - 1) + 1 := by omega
        have b2 := q8.1.l t2
        rw [q8.1.r (a2 f), b2, r2]
        exact q3.1.l t1
      have H1c : hoI κ_7 (zR κ_7 atStates a0) 1000 142 2048 := by
        rw [r7]
        have q := q3.2.1
        exact hoI_zF q8.1 W4 (q3.1.t (ty_atStates W62 T62_0) (by decide)) (fun f z => ne (z.1.trans (r2 atEndings))) q
      have H2c : hoI κ_7 (zR κ_7 atEndings a0) 1000 35 2048 := by
        rw [q8.1.r (a2 atEndings)]
        exact q8.2.1
      have s0 : zI κ_7 hoTotal (zR κ_7 atStates a0) = 0 := by
        rw [r7, q8.1.i (fun z => ne (z.1.trans (r2 atEndings)))]
        exact Int32.toInt_inj.mp (q3.2.2.2.trans t0i.symm)
      have e0 : zI κ_7 hoTotal (zR κ_7 atEndings a0) = 0 := by
        rw [q8.1.r (a2 atEndings)]
        exact Int32.toInt_inj.mp (q8.2.2.2.trans t0i.symm)
      refine ⟨(((Z0.mono (fun f x z => Or.inl z)).tr (q3.1.mono (fun f x z => Or.inr (Or.inl (z.1.trans rS))))).tr (q8.1.mono (fun f x z => Or.inr (Or.inr (z.1.trans ((r2 atEndings).trans rE)))))).tr (ZZ.mono (fun f x z => Or.inl z)), ?_, ?_, ⟨?_, ?_⟩, ⟨?_, ?_⟩, ?_, ?_⟩
      · unfold atM
        rw [R20, N20, ln atFirsts (by decide), ln atTotals (by decide), ln atGains (by decide), ln atPlan (by decide), ln atChooses (by decide), ln atHopeless (by decide)]
        exact M0
      · unfold atL
        rw [R20, N20, ln atSorts (by decide), ln atNumbers (by decide), ln atWeights (by decide)]
        exact L0
      · rw [R20]; exact hoI_zF ZZ W9 (ty_atStates W9 T7) (fun f z => nS z.1) H1c
      · rw [R20]; exact hoI_zF ZZ W9 (ty_atEndings W9 T7) (fun f z => nE z.1) H2c
      · rw [R20, ZZ.i (fun z => nS z.1)]; exact s0
      · rw [R20, ZZ.i (fun z => nE z.1)]; exact e0
      · rw [hκ_20, hκ_18]
        show zI κ_16 atNexts a0 = 0
        rw [hκ_16]
        exact if_pos ⟨rfl, rfl⟩
      · rw [hκ_20]
        show zI κ_18 atRings a0 = 0
        rw [hκ_18]
        exact if_pos ⟨rfl, rfl⟩
  refine ⟨fun c22 => ?_, fun c22 => ?_⟩
  · skip
    refine hj62 _ _ W ?_ ?_
    · exact Ta0  -- t4
    · have c9 : (zN κ (zR κ atPlan a0)) ≠ 0 := fun z => c22 (by rw [z]; rfl)
      exact ⟨rfl, zF.rf, hp.1.resolve_left (fun z => c9 z.1), hp.2.1⟩
  · skip
    have U : atU κ a0 := by
      rcases hp.1 with z | z
      · exact z
      · have y := z.2.2.2.1
        rw [y] at c22
        exact absurd c22 (by decide)
    obtain ⟨L3, L0, L1, L2, L4, L5⟩ := U
    replace L3 : zN κ (zR κ atPlan a0) ≤ 1 := by omega
    refine ⟨?_, ?_⟩
    · exact ⟨by decide, by decide⟩  -- b6
    intro κ_23 hκ_23
    intro W24
    refine ⟨?_, ?_⟩
    · rw [hκ_23]; exact if_pos rfl  -- b7
    intro κ_25 hκ_25
    intro W26
    have J0 := mkJ_s (f := atFirsts) (t := 20) (n := 1001) W W Ta0 (mkJ.rf) (show zr atFirsts = some 20 by decide +kernel) (by decide) rfl (by decide) (by decide) L0 (by decide) hκ_23 hκ_25 W26
    refine ⟨?_, ?_⟩
    · exact ⟨by decide, by decide⟩  -- b8
    intro κ_27 hκ_27
    intro W28
    refine ⟨?_, ?_⟩
    · rw [hκ_27]; exact if_pos rfl  -- b9
    intro κ_29 hκ_29
    intro W30
    have J1 := mkJ_s (f := atTotals) (t := 20) (n := 1000) W W26 Ta0 (J0) (show zr atTotals = some 20 by decide +kernel) (by decide) rfl (by decide) (by decide) L1 (by decide) hκ_27 hκ_29 W30
    refine ⟨?_, ?_⟩
    · exact ⟨by decide, by decide⟩  -- b10
    intro κ_31 hκ_31
    intro W32
    refine ⟨?_, ?_⟩
    · rw [hκ_31]; exact if_pos rfl  -- b11
    intro κ_33 hκ_33
    intro W34
    have J2 := mkJ_s (f := atGains) (t := 20) (n := 1000) W W30 Ta0 (J1) (show zr atGains = some 20 by decide +kernel) (by decide) rfl (by decide) (by decide) L2 (by decide) hκ_31 hκ_33 W34
    refine ⟨?_, ?_⟩
    · exact ⟨by decide, by decide⟩  -- b12
    intro κ_35 hκ_35
    intro W36
    refine ⟨?_, ?_⟩
    · rw [hκ_35]; exact if_pos rfl  -- b13
    intro κ_37 hκ_37
    intro W38
    have J3 := mkJ_s (f := atPlan) (t := 20) (n := 1000) W W34 Ta0 (J2) (show zr atPlan = some 20 by decide +kernel) (by decide) rfl (by decide) (by decide) L3 (by decide) hκ_35 hκ_37 W38
    refine ⟨?_, ?_⟩
    · exact ⟨by decide, by decide⟩  -- b14
    intro κ_39 hκ_39
    intro W40
    refine ⟨?_, ?_⟩
    · rw [hκ_39]; exact if_pos rfl  -- b15
    intro κ_41 hκ_41
    intro W42
    have J4 := mkJ_s (f := atChooses) (t := 23) (n := 1000) W W38 Ta0 (J3) (show zr atChooses = some 23 by decide +kernel) (by decide) rfl (by decide) (by decide) L4 (by decide) hκ_39 hκ_41 W42
    refine ⟨?_, ?_⟩
    · exact ⟨by decide, by decide⟩  -- b16
    intro κ_43 hκ_43
    intro W44
    refine ⟨?_, ?_⟩
    · rw [hκ_43]; exact if_pos rfl  -- b17
    intro κ_45 hκ_45
    intro W46
    refine hj62 _ _ W46 ?_ ?_
    · have J5 := mkJ_s (f := atHopeless) (t := 23) (n := 1000) W W42 Ta0 (J4) (show zr atHopeless = some 23 by decide +kernel) (by decide) rfl (by decide) (by decide) L5 (by decide) hκ_43 hκ_45 W46
      exact J5.1.t Ta0 (by decide)
    · have J5 := mkJ_s (f := atHopeless) (t := 23) (n := 1000) W W42 Ta0 (J4) (show zr atHopeless = some 23 by decide +kernel) (by decide) rfl (by decide) (by decide) L5 (by decide) hκ_43 hκ_45 W46
      have p := J5.2.2.2.2
      have r := J5.2.2.1
      have o := J5.2.2.2.1
      refine ⟨rfl, J5.1.mono (fun g b z => ⟨z.1, ?_⟩), ⟨(p (atFirsts, 1001) (by decide)).1, (p (atTotals, 1000) (by decide)).1, (p (atGains, 1000) (by decide)).1, (p (atPlan, 1000) (by decide)).1, (p (atChooses, 1000) (by decide)).1, (p (atHopeless, 1000) (by decide)).1⟩, ?_⟩
      · have m := z.2
        simp only [List.map_cons, List.map_nil, List.mem_cons, List.not_mem_nil, or_false] at m
        have e1 : (atFirsts : Nat) = 306 := rfl
        have e2 : (atTotals : Nat) = 307 := rfl
        have e3 : (atGains : Nat) = 308 := rfl
        have e4 : (atPlan : Nat) = 309 := rfl
        have e5 : (atChooses : Nat) = 310 := rfl
        have e6 : (atHopeless : Nat) = 311 := rfl
        omega
      · unfold atL
        rw [r atSorts a0 (fun z => absurd z.2 (by decide)), r atNumbers a0 (fun z => absurd z.2 (by decide)), r atWeights a0 (fun z => absurd z.2 (by decide)), (o _ _ (ty_atSorts W Ta0)).1, (o _ _ (ty_atNumbers W Ta0)).1, (o _ _ (ty_atWeights W Ta0)).1]
        exact hp.2.1
