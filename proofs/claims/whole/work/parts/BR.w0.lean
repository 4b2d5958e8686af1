section
set_option maxHeartbeats 1600000
/-! the class: rows made for the first time; Web's makeRows, Atlas's clear -/
/-- rows made for some fields of an object: all 0 -/
def mkJ (κ τ : zS) (a : Nat) (L : List (Nat × Nat)) : Prop := zF (fun g b => b = a ∧ g ∈ L.map Prod.fst) κ τ ∧ zI τ = zI κ ∧ (∀ g b, ¬ (b = a ∧ g ∈ L.map Prod.fst) → zR τ g b = zR κ g b) ∧ (∀ x d, zT κ x = d + 1 → zN τ x = zN κ x ∧ zA τ x = zA κ x) ∧ ∀ q, q ∈ L → zN τ (zR τ q.1 a) = q.2 ∧ zA τ (zR τ q.1 a) = (fun _ => 0) ∧ ∃ t, zT τ (zR τ q.1 a) = t + 1
theorem mkJ.rf {κ : zS} {a : Nat} : mkJ κ κ a [] := ⟨zF.rf, rfl, fun _ _ _ => rfl, fun _ _ _ => ⟨rfl, rfl⟩, fun _ h => absurd h List.not_mem_nil⟩
theorem mkJ_s {C : zC} {n0 a f t n c : Nat} {κ σ κ1 τ : zS} {L : List (Nat × Nat)} (W0 : zW C n0 κ) (W : zW C n0 σ) (T : zT κ a = c + 1) (J : mkJ κ σ a L) (hr : zr f = some t) (ht : 20 ≤ t ∧ c + 1 < 40) (hc : c + 1 = f / 100) (hf : f ≠ 0 ∧ f ≠ 605 ∧ f ≠ 800) (hL : f ∉ L.map Prod.fst) (h1 : zN κ (zR κ f a) ≤ 1) (h7 : 7 ≤ n) (e1 : κ1 = na σ t n) (e : τ = uo κ1 f a (zn σ)) (W2 : zW C n0 τ) : mkJ κ τ a ((f, n) :: L) := by
  obtain ⟨Z, I, R, O, P⟩ := J
  have Ts : zT σ a = c + 1 := Z.t T ht.2
  have rf : zR σ f a = zR κ f a := R f a (fun z => hL z.2)
  have ty0 := W0.r hr (T.trans hc)
  have l1 : zN σ (zR σ f a) ≤ 1 := by
    rw [rf, (O (zR κ f a) (t - 1) (by omega)).1]; exact h1
  obtain ⟨F, u1, u2, u3, u4, u5, u6⟩ := mk_row W hr ht.1 (Ts.trans hc) hf e1 e l1 h7
  have Tt : zT τ a = c + 1 := F.t Ts ht.2
  have tyn := W2.r hr (Tt.trans hc)
  refine ⟨(Z.mono (fun g b z => ⟨z.1, List.mem_cons_of_mem _ z.2⟩)).tr (F.mono (fun g b z => ⟨z.2, by rw [z.1]; exact List.mem_cons_self⟩)), u1.trans I, fun g b z => ?_, fun x d hx => ?_, fun q hq => ?_⟩
  · rw [u2 g b (fun y => z ⟨y.2, by rw [y.1]; exact List.mem_cons_self⟩), R g b (fun y => z ⟨y.1, List.mem_cons_of_mem _ y.2⟩)]
  · by_cases h40 : d + 1 < 40
    · have a1 := O x d hx
      have a2 := u5 x d (Z.t hx h40)
      exact ⟨a2.1.trans a1.1, a2.2.trans a1.2⟩
    · have a1 := O x d hx
      have ts : ∃ d', zT σ x = d' + 1 := by
        have nz := (Z.2.2.2.2.2.1 x (by omega)).1
        exact ⟨zT σ x - 1, by omega⟩
      obtain ⟨d', hd⟩ := ts
      have a2 := u5 x d' hd
      exact ⟨a2.1.trans a1.1, a2.2.trans a1.2⟩
  · rcases List.mem_cons.mp hq with rfl | hq
    · show zN τ (zR τ f a) = n ∧ zA τ (zR τ f a) = (fun _ => 0) ∧ ∃ t, zT τ (zR τ f a) = t + 1
      refine ⟨by rw [u3]; exact u4, by rw [u3]; exact u6, t - 1, by omega⟩
    · obtain ⟨p1, p2, d, p3⟩ := P q hq
      have hm : q.1 ∈ L.map Prod.fst := List.mem_map_of_mem hq
      have ne : q.1 ≠ f := fun z => hL (by rw [← z]; exact hm)
      have rq : zR τ q.1 a = zR σ q.1 a := u2 q.1 a (fun y => ne y.1)
      have a2 := u5 (zR σ q.1 a) d p3
      rw [rq]
      refine ⟨a2.1.trans p1, a2.2.trans p2, ?_⟩
      have nz := (F.2.2.2.2.2.1 (zR σ q.1 a) (by omega)).1
      exact ⟨zT τ (zR σ q.1 a) - 1, by omega⟩
def weM (κ : zS) (a : Nat) : Prop := (zN κ (zR κ weFirsts a)) = 1001 ∧ (zN κ (zR κ weBackFirsts a)) = 1001 ∧ (zN κ (zR κ weOpen a)) = 1000 ∧ (zN κ (zR κ weKnotFirsts a)) = 1001 ∧ (zN κ (zR κ weKnotOf a)) = 1000 ∧ (zN κ (zR κ weOrder a)) = 1000 ∧ (zN κ (zR κ weSeen a)) = 1000 ∧ (zN κ (zR κ weLow a)) = 1000 ∧ (zN κ (zR κ weCursor a)) = 1000 ∧ (zN κ (zR κ wePath a)) = 1000 ∧ (zN κ (zR κ weHeap a)) = 1000
/-- before the first rows are made -/
def weU (κ : zS) (a : Nat) : Prop := (zN κ (zR κ weOpen a)) = 0 ∧ (zN κ (zR κ weFirsts a)) ≤ 1 ∧ (zN κ (zR κ weBackFirsts a)) ≤ 1 ∧ (zN κ (zR κ weKnotFirsts a)) ≤ 1 ∧ (zN κ (zR κ weKnotOf a)) ≤ 1 ∧ (zN κ (zR κ weOrder a)) ≤ 1 ∧ (zN κ (zR κ weSeen a)) ≤ 1 ∧ (zN κ (zR κ weLow a)) ≤ 1 ∧ (zN κ (zR κ weCursor a)) ≤ 1 ∧ (zN κ (zR κ wePath a)) ≤ 1 ∧ (zN κ (zR κ weHeap a)) ≤ 1
def weL (κ : zS) (a : Nat) : Prop := ((zN κ (zR κ weSources a)) = (zN κ (zR κ weTargets a)) ∧ (zN κ (zR κ weEdges a)) = (zN κ (zR κ weTargets a))) ∧ 64 ≤ (zN κ (zR κ weTargets a)) ∧ (zN κ (zR κ weTargets a)) ≤ 20000
abbrev weRl : List (Nat × Nat) := [(weHeap, 1000), (wePath, 1000), (weCursor, 1000), (weLow, 1000), (weSeen, 1000), (weOrder, 1000), (weKnotOf, 1000), (weKnotFirsts, 1001), (weOpen, 1000), (weBackFirsts, 1001), (weFirsts, 1001)]
def atU (κ : zS) (a : Nat) : Prop := (zN κ (zR κ atPlan a)) = 0 ∧ (zN κ (zR κ atFirsts a)) ≤ 1 ∧ (zN κ (zR κ atTotals a)) ≤ 1 ∧ (zN κ (zR κ atGains a)) ≤ 1 ∧ (zN κ (zR κ atChooses a)) ≤ 1 ∧ (zN κ (zR κ atHopeless a)) ≤ 1
theorem weM_J {κ τ : zS} {a : Nat} (J : mkJ κ τ a weRl) : weM τ a := by
  have p := J.2.2.2.2
  exact ⟨(p (weFirsts, 1001) (by decide)).1, (p (weBackFirsts, 1001) (by decide)).1, (p (weOpen, 1000) (by decide)).1, (p (weKnotFirsts, 1001) (by decide)).1, (p (weKnotOf, 1000) (by decide)).1, (p (weOrder, 1000) (by decide)).1, (p (weSeen, 1000) (by decide)).1, (p (weLow, 1000) (by decide)).1, (p (weCursor, 1000) (by decide)).1, (p (wePath, 1000) (by decide)).1, (p (weHeap, 1000) (by decide)).1⟩
theorem weL_J {C : zC} {n0 a : Nat} {κ τ : zS} (W : zW C n0 κ) (T : zT κ a = 14) (J : mkJ κ τ a weRl) (L : weL κ a) : weL τ a := by
  have r := J.2.2.1
  have o := J.2.2.2.1
  unfold weL
  rw [r weTargets a (fun z => absurd z.2 (by decide)), r weSources a (fun z => absurd z.2 (by decide)), r weEdges a (fun z => absurd z.2 (by decide)), (o _ _ (ty_weTargets W T)).1, (o _ _ (ty_weSources W T)).1, (o _ _ (ty_weEdges W T)).1]
  exact L
theorem We_makeRows_c {C : zC} {n0 : Nat} {a0 : Nat} {κ : zS} {Q : zS → Prop} (W : zW C n0 κ) (Ta0 : zT κ a0 = 14)  (hp : (weU κ a0 ∨ weM κ a0) ∧ weL κ a0) (h : ∀ (κ' : zS), (zF (objF a0) κ κ' ∧ zI κ' = zI κ ∧ weM κ' a0 ∧ weL κ' a0) → Q κ') : zRun C 0 mWe_makeRows [.ref a0] κ (oV Q noX) := by
  refine We_makeRows_run W Ta0 ?_
  replace W := W.lo (Nat.le_trans W.1.2.1 W.1.2.2) (Nat.le_refl (zn κ))
  unfold w_We_makeRows_0
  refine ⟨fun c1 => ?_, fun c1 => ?_⟩
  · skip
    refine h _ ?_
    · have c9 : (zN κ (zR κ weOpen a0)) ≠ 0 := fun z => c1 (by rw [z]; rfl)
      exact ⟨zF.rf, rfl, hp.1.resolve_left (fun z => c9 z.1), hp.2⟩
  · skip
    have U : weU κ a0 := by
      rcases hp.1 with z | z
      · exact z
      · have y := z.2.2.1
        rw [y] at c1
        exact absurd c1 (by decide)
    obtain ⟨L2, L0, L1, L3, L4, L5, L6, L7, L8, L9, L10⟩ := U
    replace L2 : zN κ (zR κ weOpen a0) ≤ 1 := by omega
    refine ⟨?_, ?_⟩
    · exact ⟨by decide, by decide⟩  -- b2
    intro κ_2 hκ_2
    intro W3
    refine ⟨?_, ?_⟩
    · rw [hκ_2]; exact if_pos rfl  -- b3
    intro κ_4 hκ_4
    intro W5
    have J0 := mkJ_s (f := weFirsts) (t := 20) (n := 1001) W W Ta0 (mkJ.rf) (show zr weFirsts = some 20 by decide +kernel) (by decide) rfl (by decide) (by decide) L0 (by decide) hκ_2 hκ_4 W5
    refine ⟨?_, ?_⟩
    · exact ⟨by decide, by decide⟩  -- b4
    intro κ_6 hκ_6
    intro W7
    refine ⟨?_, ?_⟩
    · rw [hκ_6]; exact if_pos rfl  -- b5
    intro κ_8 hκ_8
    intro W9
    have J1 := mkJ_s (f := weBackFirsts) (t := 20) (n := 1001) W W5 Ta0 (J0) (show zr weBackFirsts = some 20 by decide +kernel) (by decide) rfl (by decide) (by decide) L1 (by decide) hκ_6 hκ_8 W9
    refine ⟨?_, ?_⟩
    · exact ⟨by decide, by decide⟩  -- b6
    intro κ_10 hκ_10
    intro W11
    refine ⟨?_, ?_⟩
    · rw [hκ_10]; exact if_pos rfl  -- b7
    intro κ_12 hκ_12
    intro W13
    have J2 := mkJ_s (f := weOpen) (t := 23) (n := 1000) W W9 Ta0 (J1) (show zr weOpen = some 23 by decide +kernel) (by decide) rfl (by decide) (by decide) L2 (by decide) hκ_10 hκ_12 W13
    refine ⟨?_, ?_⟩
    · exact ⟨by decide, by decide⟩  -- b8
    intro κ_14 hκ_14
    intro W15
    refine ⟨?_, ?_⟩
    · rw [hκ_14]; exact if_pos rfl  -- b9
    intro κ_16 hκ_16
    intro W17
    have J3 := mkJ_s (f := weKnotFirsts) (t := 20) (n := 1001) W W13 Ta0 (J2) (show zr weKnotFirsts = some 20 by decide +kernel) (by decide) rfl (by decide) (by decide) L3 (by decide) hκ_14 hκ_16 W17
    refine ⟨?_, ?_⟩
    · exact ⟨by decide, by decide⟩  -- b10
    intro κ_18 hκ_18
    intro W19
    refine ⟨?_, ?_⟩
    · rw [hκ_18]; exact if_pos rfl  -- b11
    intro κ_20 hκ_20
    intro W21
    have J4 := mkJ_s (f := weKnotOf) (t := 20) (n := 1000) W W17 Ta0 (J3) (show zr weKnotOf = some 20 by decide +kernel) (by decide) rfl (by decide) (by decide) L4 (by decide) hκ_18 hκ_20 W21
    refine ⟨?_, ?_⟩
    · exact ⟨by decide, by decide⟩  -- b12
    intro κ_22 hκ_22
    intro W23
    refine ⟨?_, ?_⟩
    · rw [hκ_22]; exact if_pos rfl  -- b13
    intro κ_24 hκ_24
    intro W25
    have J5 := mkJ_s (f := weOrder) (t := 20) (n := 1000) W W21 Ta0 (J4) (show zr weOrder = some 20 by decide +kernel) (by decide) rfl (by decide) (by decide) L5 (by decide) hκ_22 hκ_24 W25
    refine ⟨?_, ?_⟩
    · exact ⟨by decide, by decide⟩  -- b14
    intro κ_26 hκ_26
    intro W27
    refine ⟨?_, ?_⟩
    · rw [hκ_26]; exact if_pos rfl  -- b15
    intro κ_28 hκ_28
    intro W29
    have J6 := mkJ_s (f := weSeen) (t := 20) (n := 1000) W W25 Ta0 (J5) (show zr weSeen = some 20 by decide +kernel) (by decide) rfl (by decide) (by decide) L6 (by decide) hκ_26 hκ_28 W29
    refine ⟨?_, ?_⟩
    · exact ⟨by decide, by decide⟩  -- b16
    intro κ_30 hκ_30
    intro W31
    refine ⟨?_, ?_⟩
    · rw [hκ_30]; exact if_pos rfl  -- b17
    intro κ_32 hκ_32
    intro W33
    have J7 := mkJ_s (f := weLow) (t := 20) (n := 1000) W W29 Ta0 (J6) (show zr weLow = some 20 by decide +kernel) (by decide) rfl (by decide) (by decide) L7 (by decide) hκ_30 hκ_32 W33
    refine ⟨?_, ?_⟩
    · exact ⟨by decide, by decide⟩  -- b18
    intro κ_34 hκ_34
    intro W35
    refine ⟨?_, ?_⟩
    · rw [hκ_34]; exact if_pos rfl  -- b19
    intro κ_36 hκ_36
    intro W37
    have J8 := mkJ_s (f := weCursor) (t := 20) (n := 1000) W W33 Ta0 (J7) (show zr weCursor = some 20 by decide +kernel) (by decide) rfl (by decide) (by decide) L8 (by decide) hκ_34 hκ_36 W37
    refine ⟨?_, ?_⟩
    · exact ⟨by decide, by decide⟩  -- b20
    intro κ_38 hκ_38
    intro W39
    refine ⟨?_, ?_⟩
    · rw [hκ_38]; exact if_pos rfl  -- b21
    intro κ_40 hκ_40
    intro W41
    have J9 := mkJ_s (f := wePath) (t := 20) (n := 1000) W W37 Ta0 (J8) (show zr wePath = some 20 by decide +kernel) (by decide) rfl (by decide) (by decide) L9 (by decide) hκ_38 hκ_40 W41
    refine ⟨?_, ?_⟩
    · exact ⟨by decide, by decide⟩  -- b22
    intro κ_42 hκ_42
    intro W43
    refine ⟨?_, ?_⟩
    · rw [hκ_42]; exact if_pos rfl  -- b23
    intro κ_44 hκ_44
    intro W45
    refine h _ ?_
    · have J10 := mkJ_s (f := weHeap) (t := 20) (n := 1000) W W41 Ta0 (J9) (show zr weHeap = some 20 by decide +kernel) (by decide) rfl (by decide) (by decide) L10 (by decide) hκ_42 hκ_44 W45
      exact ⟨J10.1.mono (fun g b z => z.1), J10.2.1, weM_J J10, weL_J W Ta0 J10 hp.2⟩

abbrev clF (κ : zS) (a : Nat) : Nat → Nat → Prop := fun f x => (x = a ∧ atFirsts ≤ f) ∨ x = zR κ atStates a ∨ x = zR κ atEndings a
theorem At_clear_c {C : zC} {n0 : Nat} {a0 : Nat} {κ : zS} {Q : zS → Prop} (W : zW C n0 κ) (Ta0 : zT κ a0 = 3)  (hp : (atU κ a0 ∨ atM κ a0) ∧ atL κ a0 ∧ atH κ a0 ∧ zR κ atStates a0 ≠ zR κ atEndings a0) (h : ∀ (κ' : zS), (zF (clF κ a0) κ κ' ∧ atM κ' a0 ∧ atL κ' a0 ∧ atH κ' a0 ∧ (zI κ' hoTotal (zR κ' atStates a0) = 0 ∧ zI κ' hoTotal (zR κ' atEndings a0) = 0) ∧ zI κ' atNexts a0 = 0 ∧ zI κ' atRings a0 = 0) → Q κ') : zRun C 2 mAt_clear [.ref a0] κ (oV Q noX) := by
  refine At_clear_run W Ta0 ?_
  replace W := W.lo (Nat.le_trans W.1.2.1 W.1.2.2) (Nat.le_refl (zn κ))
  unfold w_At_clear_0
  have hj62 : ∀ (l0 : Nat) (τ : zS), zW C (zn κ) τ → zT τ l0 = 3 → (a0 = l0 ∧ zF (fun g b => b = a0 ∧ atFirsts ≤ g) κ τ ∧ atM τ a0 ∧ atL τ a0) → w_At_clear_62 C (zn κ) Q  l0 τ := by
    rintro _ τ62 W62 T62_0 ⟨rfl, j62⟩
    unfold w_At_clear_62
    intro T1
    obtain ⟨Z0, M0, L0⟩ := j62
    have n0 := at_ne W Ta0
    have rS : zR τ62 atStates a0 = zR κ atStates a0 := Z0.r (fun z => absurd z.2 (by decide))
    have rE : zR τ62 atEndings a0 = zR κ atEndings a0 := Z0.r (fun z => absurd z.2 (by decide))
    have H1 : hoI τ62 (zR τ62 atStates a0) 1000 142 2048 := by rw [rS]; exact hoI_zF Z0 W (ty_atStates W Ta0) (fun f z => n0.1.2.1 z.1) hp.2.2.1.1
    have H2 : hoI τ62 (zR τ62 atEndings a0) 1000 35 2048 := by rw [rE]; exact hoI_zF Z0 W (ty_atEndings W Ta0) (fun f z => n0.1.2.2 z.1) hp.2.2.1.2
    have ne : zR τ62 atStates a0 ≠ zR τ62 atEndings a0 := by rw [rS, rE]; exact hp.2.2.2
    have n1 := at_ne W62 T62_0
    refine Ho_clear_c W62 T1 1000 142 2048 ?_ (fun κ_2 q3 => ?_)
    · exact ⟨H1, hP1⟩  -- p1
    have a1 : ∀ f, ¬ hoF (zR τ62 atStates a0) f a0 := fun f z => n1.1.2.1 z.1.symm
    have r2 : ∀ f, zR κ_2 f a0 = zR τ62 f a0 := fun f => q3.1.r (a1 f)
    have H2b : hoI κ_2 (zR κ_2 atEndings a0) 1000 35 2048 := by rw [r2]; exact hoI_zF q3.1 W62 (ty_atEndings W62 T62_0) (fun f z => ne z.1.symm) H2
    have T2 : zT κ_2 a0 = 3 := q3.1.t T62_0 (by decide)
    intro W4
    intro M5
    intro T6
    refine Ho_clear_c W4 T6 1000 35 2048 ?_ (fun κ_7 q8 => ?_)
    · exact ⟨H2b, hP2⟩  -- p2
    intro W9
    intro M10
    intro T11
    refine Ar_fill_c W9 T11  (fun κ_12 q13 => ?_)
    intro W14
    intro M15
    intro κ_16 hκ_16
    intro W17
    intro κ_18 hκ_18
    intro W19
    intro κ_20 hκ_20
    intro W21
    refine h _ ?_
    · have n2 := at_ne W4 T2
      have a2 : ∀ f, ¬ hoF (zR κ_2 atEndings a0) f a0 := fun f z => n2.1.2.2 z.1.symm
      have r7 : ∀ f, zR κ_7 f a0 = zR τ62 f a0 := fun f => (q8.1.r (a2 f)).trans (r2 f)
      have T7 : zT κ_7 a0 = 3 := q8.1.t T2 (by decide)
      have ow := atRf_o W9 T7 (f := atPlan) (by decide)
      have Z12 : zF (fun g b => b = a0 ∧ atFirsts ≤ g) κ_7 κ_12 := by rw [q13]; exact zF_uf (by rw [ow]; exact ⟨rfl, show (306 : Nat) ≤ 309 by decide⟩)
      have Z16 : zF (fun g b => b = a0 ∧ atFirsts ≤ g) κ_12 κ_16 := by rw [hκ_16]; exact zF_ui ⟨rfl, by decide⟩
      have Z18 : zF (fun g b => b = a0 ∧ atFirsts ≤ g) κ_16 κ_18 := by rw [hκ_18]; exact zF_ui ⟨rfl, by decide⟩
      have Z20 : zF (fun g b => b = a0 ∧ atFirsts ≤ g) κ_18 κ_20 := by rw [hκ_20]; exact zF_ui ⟨rfl, by decide⟩
      have ZZ := ((Z12.tr Z16).tr Z18).tr Z20
      have R20 : zR κ_20 = zR κ_7 := by rw [hκ_20, hκ_18, hκ_16, q13]; rfl
      have N20 : zN κ_20 = zN κ_7 := by rw [hκ_20, hκ_18, hκ_16, q13]; rfl
      have nS : zR κ_7 atStates a0 ≠ a0 := by rw [r7]; exact n1.1.2.1
      have nE : zR κ_7 atEndings a0 ≠ a0 := by rw [r7]; exact n1.1.2.2
      have ln : ∀ f, f ∈ atRf → zN κ_7 (zR κ_7 f a0) = zN τ62 (zR τ62 f a0) := fun f hf => by
        obtain ⟨⟨t, h1, h2⟩, h3⟩ := atRf_r f hf
        have ty := W62.r h1 (T62_0.trans h3.symm)
        have t1 : zT τ62 (zR τ62 f a0) = (t - 1) + 1 := by omega
        have ty2 := W4.r h1 (T2.trans h3.symm)
        have t2 : zT κ_2 (zR κ_2 f a0) = (t - 1) + 1 := by omega
        have b2 := q8.1.l t2
        rw [q8.1.r (a2 f), b2, r2]
        exact q3.1.l t1
      have H1c : hoI κ_7 (zR κ_7 atStates a0) 1000 142 2048 := by
        rw [r7]
        have q := q3.2.1
        exact hoI_zF q8.1 W4 (q3.1.t (ty_atStates W62 T62_0) (by decide)) (fun f z => ne (z.1.trans (r2 atEndings))) q
      have H2c : hoI κ_7 (zR κ_7 atEndings a0) 1000 35 2048 := by
        rw [q8.1.r (a2 atEndings)]
        exact q8.2.1
      have s0 : zI κ_7 hoTotal (zR κ_7 atStates a0) = 0 := by
        rw [r7, q8.1.i (fun z => ne (z.1.trans (r2 atEndings)))]
        exact Int32.toInt_inj.mp (q3.2.2.2.trans t0i.symm)
      have e0 : zI κ_7 hoTotal (zR κ_7 atEndings a0) = 0 := by
        rw [q8.1.r (a2 atEndings)]
        exact Int32.toInt_inj.mp (q8.2.2.2.trans t0i.symm)
      refine ⟨(((Z0.mono (fun f x z => Or.inl z)).tr (q3.1.mono (fun f x z => Or.inr (Or.inl (z.1.trans rS))))).tr (q8.1.mono (fun f x z => Or.inr (Or.inr (z.1.trans ((r2 atEndings).trans rE)))))).tr (ZZ.mono (fun f x z => Or.inl z)), ?_, ?_, ⟨?_, ?_⟩, ⟨?_, ?_⟩, ?_, ?_⟩
      · unfold atM
        rw [R20, N20, ln atFirsts (by decide), ln atTotals (by decide), ln atGains (by decide), ln atPlan (by decide), ln atChooses (by decide), ln atHopeless (by decide)]
        exact M0
      · unfold atL
        rw [R20, N20, ln atSorts (by decide), ln atNumbers (by decide), ln atWeights (by decide)]
        exact L0
      · rw [R20]; exact hoI_zF ZZ W9 (ty_atStates W9 T7) (fun f z => nS z.1) H1c
      · rw [R20]; exact hoI_zF ZZ W9 (ty_atEndings W9 T7) (fun f z => nE z.1) H2c
      · rw [R20, ZZ.i (fun z => nS z.1)]; exact s0
      · rw [R20, ZZ.i (fun z => nE z.1)]; exact e0
      · rw [hκ_20, hκ_18]
        show zI κ_16 atNexts a0 = 0
        rw [hκ_16]
        exact if_pos ⟨rfl, rfl⟩
      · rw [hκ_20]
        show zI κ_18 atRings a0 = 0
        rw [hκ_18]
        exact if_pos ⟨rfl, rfl⟩
  refine ⟨fun c22 => ?_, fun c22 => ?_⟩
  · skip
    refine hj62 _ _ W ?_ ?_
    · exact Ta0  -- t4
    · have c9 : (zN κ (zR κ atPlan a0)) ≠ 0 := fun z => c22 (by rw [z]; rfl)
      exact ⟨rfl, zF.rf, hp.1.resolve_left (fun z => c9 z.1), hp.2.1⟩
  · skip
    have U : atU κ a0 := by
      rcases hp.1 with z | z
      · exact z
      · have y := z.2.2.2.1
        rw [y] at c22
        exact absurd c22 (by decide)
    obtain ⟨L3, L0, L1, L2, L4, L5⟩ := U
    replace L3 : zN κ (zR κ atPlan a0) ≤ 1 := by omega
    refine ⟨?_, ?_⟩
    · exact ⟨by decide, by decide⟩  -- b6
    intro κ_23 hκ_23
    intro W24
    refine ⟨?_, ?_⟩
    · rw [hκ_23]; exact if_pos rfl  -- b7
    intro κ_25 hκ_25
    intro W26
    have J0 := mkJ_s (f := atFirsts) (t := 20) (n := 1001) W W Ta0 (mkJ.rf) (show zr atFirsts = some 20 by decide +kernel) (by decide) rfl (by decide) (by decide) L0 (by decide) hκ_23 hκ_25 W26
    refine ⟨?_, ?_⟩
    · exact ⟨by decide, by decide⟩  -- b8
    intro κ_27 hκ_27
    intro W28
    refine ⟨?_, ?_⟩
    · rw [hκ_27]; exact if_pos rfl  -- b9
    intro κ_29 hκ_29
    intro W30
    have J1 := mkJ_s (f := atTotals) (t := 20) (n := 1000) W W26 Ta0 (J0) (show zr atTotals = some 20 by decide +kernel) (by decide) rfl (by decide) (by decide) L1 (by decide) hκ_27 hκ_29 W30
    refine ⟨?_, ?_⟩
    · exact ⟨by decide, by decide⟩  -- b10
    intro κ_31 hκ_31
    intro W32
    refine ⟨?_, ?_⟩
    · rw [hκ_31]; exact if_pos rfl  -- b11
    intro κ_33 hκ_33
    intro W34
    have J2 := mkJ_s (f := atGains) (t := 20) (n := 1000) W W30 Ta0 (J1) (show zr atGains = some 20 by decide +kernel) (by decide) rfl (by decide) (by decide) L2 (by decide) hκ_31 hκ_33 W34
    refine ⟨?_, ?_⟩
    · exact ⟨by decide, by decide⟩  -- b12
    intro κ_35 hκ_35
    intro W36
    refine ⟨?_, ?_⟩
    · rw [hκ_35]; exact if_pos rfl  -- b13
    intro κ_37 hκ_37
    intro W38
    have J3 := mkJ_s (f := atPlan) (t := 20) (n := 1000) W W34 Ta0 (J2) (show zr atPlan = some 20 by decide +kernel) (by decide) rfl (by decide) (by decide) L3 (by decide) hκ_35 hκ_37 W38
    refine ⟨?_, ?_⟩
    · exact ⟨by decide, by decide⟩  -- b14
    intro κ_39 hκ_39
    intro W40
    refine ⟨?_, ?_⟩
    · rw [hκ_39]; exact if_pos rfl  -- b15
    intro κ_41 hκ_41
    intro W42
    have J4 := mkJ_s (f := atChooses) (t := 23) (n := 1000) W W38 Ta0 (J3) (show zr atChooses = some 23 by decide +kernel) (by decide) rfl (by decide) (by decide) L4 (by decide) hκ_39 hκ_41 W42
    refine ⟨?_, ?_⟩
    · exact ⟨by decide, by decide⟩  -- b16
    intro κ_43 hκ_43
    intro W44
    refine ⟨?_, ?_⟩
    · rw [hκ_43]; exact if_pos rfl  -- b17
    intro κ_45 hκ_45
    intro W46
    refine hj62 _ _ W46 ?_ ?_
    · have J5 := mkJ_s (f := atHopeless) (t := 23) (n := 1000) W W42 Ta0 (J4) (show zr atHopeless = some 23 by decide +kernel) (by decide) rfl (by decide) (by decide) L5 (by decide) hκ_43 hκ_45 W46
      exact J5.1.t Ta0 (by decide)
    · have J5 := mkJ_s (f := atHopeless) (t := 23) (n := 1000) W W42 Ta0 (J4) (show zr atHopeless = some 23 by decide +kernel) (by decide) rfl (by decide) (by decide) L5 (by decide) hκ_43 hκ_45 W46
      have p := J5.2.2.2.2
      have r := J5.2.2.1
      have o := J5.2.2.2.1
      refine ⟨rfl, J5.1.mono (fun g b z => ⟨z.1, ?_⟩), ⟨(p (atFirsts, 1001) (by decide)).1, (p (atTotals, 1000) (by decide)).1, (p (atGains, 1000) (by decide)).1, (p (atPlan, 1000) (by decide)).1, (p (atChooses, 1000) (by decide)).1, (p (atHopeless, 1000) (by decide)).1⟩, ?_⟩
      · have m := z.2
        simp only [List.map_cons, List.map_nil, List.mem_cons, List.not_mem_nil, or_false] at m
        have e1 : (atFirsts : Nat) = 306 := rfl
        have e2 : (atTotals : Nat) = 307 := rfl
        have e3 : (atGains : Nat) = 308 := rfl
        have e4 : (atPlan : Nat) = 309 := rfl
        have e5 : (atChooses : Nat) = 310 := rfl
        have e6 : (atHopeless : Nat) = 311 := rfl
        omega
      · unfold atL
        rw [r atSorts a0 (fun z => absurd z.2 (by decide)), r atNumbers a0 (fun z => absurd z.2 (by decide)), r atWeights a0 (fun z => absurd z.2 (by decide)), (o _ _ (ty_atSorts W Ta0)).1, (o _ _ (ty_atNumbers W Ta0)).1, (o _ _ (ty_atWeights W Ta0)).1]
        exact hp.2.1

end
section
set_option maxHeartbeats 1600000
/-! the class: Web's weaveBack, reach -/
abbrev weRf : List Nat := [weFirsts, weTargets, weBackFirsts, weSources, weEdges, weOpen, weKnotFirsts, weKnotOf, weOrder, weSeen, weLow, weCursor, wePath, weHeap]
theorem weRf_r : ∀ f, f ∈ weRf → (∃ t, zr f = some t ∧ 20 ≤ t) ∧ f / 100 = 14 := by
  intro f h
  have z : ∀ q ∈ [(weFirsts, 20), (weTargets, 20), (weBackFirsts, 20), (weSources, 20), (weEdges, 20), (weOpen, 23), (weKnotFirsts, 20), (weKnotOf, 20), (weOrder, 20), (weSeen, 20), (weLow, 20), (weCursor, 20), (wePath, 20), (weHeap, 20)], zr q.1 = some q.2 ∧ 20 ≤ q.2 ∧ q.1 / 100 = 14 := by decide +kernel
  have m : ∃ t, (f, t) ∈ [(weFirsts, 20), (weTargets, 20), (weBackFirsts, 20), (weSources, 20), (weEdges, 20), (weOpen, 23), (weKnotFirsts, 20), (weKnotOf, 20), (weOrder, 20), (weSeen, 20), (weLow, 20), (weCursor, 20), (wePath, 20), (weHeap, 20)] := by
    simp only [List.mem_cons, List.not_mem_nil, or_false] at h
    rcases h with rfl | rfl | rfl | rfl | rfl | rfl | rfl | rfl | rfl | rfl | rfl | rfl | rfl | rfl
    · exact ⟨20, by decide⟩
    · exact ⟨20, by decide⟩
    · exact ⟨20, by decide⟩
    · exact ⟨20, by decide⟩
    · exact ⟨20, by decide⟩
    · exact ⟨23, by decide⟩
    · exact ⟨20, by decide⟩
    · exact ⟨20, by decide⟩
    · exact ⟨20, by decide⟩
    · exact ⟨20, by decide⟩
    · exact ⟨20, by decide⟩
    · exact ⟨20, by decide⟩
    · exact ⟨20, by decide⟩
    · exact ⟨20, by decide⟩
  obtain ⟨t, m⟩ := m
  have y := z _ m
  exact ⟨⟨t, y.1, y.2.1⟩, y.2.2⟩
theorem weRf_n {C : zC} {n0 a f g : Nat} {κ : zS} (W : zW C n0 κ) (T : zT κ a = 14) (hf : f ∈ weRf) (hg : g ∈ weRf) (h : f ≠ g) : zR κ f a ≠ zR κ g a := by
  obtain ⟨⟨t, h1, h2⟩, h3⟩ := weRf_r f hf
  obtain ⟨⟨u, g1, g2⟩, g3⟩ := weRf_r g hg
  exact ow_ne W h1 h2 (T.trans h3.symm) g1 g2 (T.trans g3.symm) h
theorem weRf_o {C : zC} {n0 a f : Nat} {κ : zS} (W : zW C n0 κ) (T : zT κ a = 14) (hf : f ∈ weRf) : zO κ (zR κ f a) = (f, a) := by
  obtain ⟨⟨t, h1, h2⟩, h3⟩ := weRf_r f hf
  exact W.o h1 h2 (T.trans h3.symm)
/-- only rows of one object were written -/
def weE (κ τ : zS) (a : Nat) : Prop := zF (objF a) κ τ ∧ zR τ = zR κ ∧ zI τ = zI κ ∧ zN τ = zN κ
theorem weE.rf {κ : zS} {a : Nat} : weE κ κ a := ⟨zF.rf, rfl, rfl, rfl⟩
theorem weE.tr {κ τ σ : zS} {a : Nat} (h : weE κ τ a) (g : weE τ σ a) : weE κ σ a := ⟨h.1.tr g.1, g.2.1.trans h.2.1, g.2.2.1.trans h.2.2.1, g.2.2.2.trans h.2.2.2⟩
theorem we_u {C : zC} {n0 a f i : Nat} {κ τ : zS} {x : Int32} (W : zW C n0 κ) (T : zT κ a = 14) (hf : f ∈ weRf) (e : τ = ua κ (zR κ f a) i x) : weE κ τ a ∧ zA τ (zR κ f a) = upd (zA κ (zR κ f a)) i x ∧ (∀ g, g ∈ weRf → g ≠ f → zA τ (zR κ g a) = zA κ (zR κ g a)) ∧ zT τ a = 14 := by
  have o := weRf_o W T hf
  refine ⟨⟨by rw [e]; exact zF_ua (by rw [o]), by rw [e]; rfl, by rw [e]; rfl, by rw [e]; rfl⟩, by rw [e]; exact if_pos rfl, fun g hg hn => by rw [e]; exact if_neg (weRf_n W T hg hf hn), by rw [e]; exact T⟩
theorem weM_E {κ τ : zS} {a : Nat} (h : weE κ τ a) (M : weM κ a) : weM τ a := by unfold weM; rw [h.2.1, h.2.2.2]; exact M
theorem weL_E {κ τ : zS} {a : Nat} (h : weE κ τ a) (M : weL κ a) : weL τ a := by unfold weL; rw [h.2.1, h.2.2.2]; exact M
/-- the atlas's rows stay -/
theorem at_E {C : zC} {n0 a b f : Nat} {κ τ : zS} (W : zW C n0 κ) (T : zT κ a = 14) (Tb : zT κ b = 3) (h : zF (objF a) κ τ) (hf : f ∈ atRf) : zR τ f b = zR κ f b ∧ zA τ (zR τ f b) = zA κ (zR κ f b) ∧ zN τ (zR τ f b) = zN κ (zR κ f b) := by
  have ne : b ≠ a := fun z => by rw [z, T] at Tb; exact absurd Tb (by decide)
  obtain ⟨⟨t, h1, h2⟩, h3⟩ := atRf_r f hf
  have T9 := Tb.trans h3.symm
  have ty := W.r h1 T9
  have t1 : zT κ (zR κ f b) = (t - 1) + 1 := by omega
  refine ⟨h.r ne, (h.row W h1 h2 T9 ne).1, ?_⟩
  rw [h.r ne]
  exact h.l t1
/-- which next is a link to which state -/
def lkD (κ : zS) (a : Nat) (p : Int32) (t k i : Nat) : Int32 := if (zA κ (zR κ atSorts a) i = 0 ∧ (p = 0 ∨ zA κ (zR κ atChooses a) k = 0 ∨ Int32.ofNat i = zA κ (zR κ atFirsts a) k + zA κ (zR κ atPlan a) k)) ∧ (zA κ (zR κ atNumbers a) i).toInt = (t : Int) then 1 else 0
theorem lkD_01 {κ : zS} {a : Nat} {p : Int32} {t k i : Nat} : lkD κ a p t k i = 0 ∨ lkD κ a p t k i = 1 := by
  unfold lkD
  split
  · exact Or.inr rfl
  · exact Or.inl rfl
theorem lkD_E {C : zC} {n0 a b : Nat} {κ τ : zS} {p : Int32} (W : zW C n0 κ) (T : zT κ a = 14) (Tb : zT κ b = 3) (h : zF (objF a) κ τ) : lkD τ b p = lkD κ b p := by
  funext t k i
  unfold lkD
  rw [(at_E W T Tb h (f := atSorts) (by decide)).2.1, (at_E W T Tb h (f := atChooses) (by decide)).2.1, (at_E W T Tb h (f := atFirsts) (by decide)).2.1, (at_E W T Tb h (f := atPlan) (by decide)).2.1, (at_E W T Tb h (f := atNumbers) (by decide)).2.1]
/-- counting links -/
def cNl (D : Nat → Nat → Nat → Int32) (F : Nat → Int32) (t k : Nat) : Int := sgI (fun j => wSm (D t j) (F j).toInt (F (j + 1)).toInt) k
def cP (D : Nat → Nat → Nat → Int32) (F : Nat → Int32) (t k : Nat) (x : Int) : Int := cNl D F t k + wSm (D t k) (F k).toInt x
abbrev d01 (D : Nat → Nat → Nat → Int32) : Prop := ∀ t k i, D t k i = 0 ∨ D t k i = 1
theorem wSm_0 {Wt : Nat → Int32} {lo : Int} : wSm Wt lo lo = 0 := by
  unfold wSm
  have z : (lo - lo).toNat = 0 := by omega
  rw [z]; rfl
theorem cP_0 {D : Nat → Nat → Nat → Int32} {F : Nat → Int32} {t k : Nat} : cP D F t k (F k).toInt = cNl D F t k := by
  unfold cP
  rw [wSm_0]; omega
theorem cP_e {D : Nat → Nat → Nat → Int32} {F : Nat → Int32} {t k : Nat} : cP D F t k (F (k + 1)).toInt = cNl D F t (k + 1) := rfl
theorem cP_s {D : Nat → Nat → Nat → Int32} {F : Nat → Int32} {t k : Nat} {x : Int} (h0 : 0 ≤ (F k).toInt) (h1 : (F k).toInt ≤ x) : cP D F t k (x + 1) = cP D F t k x + (D t k x.toNat).toInt := by
  unfold cP
  rw [wSm_ex (Wt := D t k) (Wt' := D t k) h0 h1 (fun _ _ => rfl)]
  omega
theorem d01_i {D : Nat → Nat → Nat → Int32} (d : d01 D) (t k i : Nat) : 0 ≤ (D t k i).toInt ∧ (D t k i).toInt ≤ 1 := by
  rcases d t k i with e | e
  · rw [e]; decide
  · rw [e]; decide
theorem wSm_mo {Wt : Nat → Int32} {lo x hi : Int} (p : ∀ i, 0 ≤ (Wt i).toInt) (h : x ≤ hi) : wSm Wt lo x ≤ wSm Wt lo hi := sgI_mo (by omega) (fun i _ => p _)
theorem wSm_p {Wt : Nat → Int32} {lo x : Int} (p : ∀ i, 0 ≤ (Wt i).toInt) : 0 ≤ wSm Wt lo x := by
  have := sgI_mo (f := fun i => (Wt (lo.toNat + i)).toInt) (n := 0) (m := (x - lo).toNat) (Nat.zero_le _) (fun i _ => p _)
  exact this
theorem cP_le {D : Nat → Nat → Nat → Int32} {F : Nat → Int32} {t k n : Nat} {x : Int} (d : d01 D) (h : x ≤ (F (k + 1)).toInt) (hk : k < n) : cP D F t k x ≤ cNl D F t n := by
  have a1 : cP D F t k x ≤ cP D F t k (F (k + 1)).toInt := by
    unfold cP
    have := wSm_mo (Wt := D t k) (lo := (F k).toInt) (fun i => (d01_i d t k i).1) h
    omega
  have a2 : cNl D F t (k + 1) ≤ cNl D F t n := sgI_mo (by omega) (fun i _ => wSm_p (fun j => (d01_i d t i j).1))
  rw [cP_e] at a1
  omega
theorem cNl_p {D : Nat → Nat → Nat → Int32} {F : Nat → Int32} {t k : Nat} (d : d01 D) : 0 ≤ cNl D F t k := by
  have := sgI_mo (f := fun j => wSm (D t j) (F j).toInt (F (j + 1)).toInt) (n := 0) (m := k) (Nat.zero_le _) (fun i _ => wSm_p (fun j => (d01_i d t i j).1))
  exact this
theorem cP_p {D : Nat → Nat → Nat → Int32} {F : Nat → Int32} {t k : Nat} {x : Int} (d : d01 D) : 0 ≤ cP D F t k x := by
  have a := cNl_p (F := F) (t := t) (k := k) d
  have b := wSm_p (Wt := D t k) (lo := (F k).toInt) (x := x) (fun j => (d01_i d t k j).1)
  unfold cP
  omega
/-- where the links to a state begin -/
def bkB (D : Nat → Nat → Nat → Int32) (F : Nat → Int32) (n : Nat) (L : Int) (B : Nat → Int32) : Prop := (B 0).toInt = 0 ∧ (∀ t, t < n → (B (t + 1)).toInt = (B t).toInt + cNl D F t n) ∧ (B n).toInt ≤ L
def bkC (D : Nat → Nat → Nat → Int32) (F : Nat → Int32) (n : Nat) (B cur : Nat → Int32) (k : Nat) (x : Int) : Prop := ∀ t, t < n → (cur t).toInt = (B t).toInt + cP D F t k x
def gdE (D : Nat → Nat → Nat → Int32) (F : Nat → Int32) (n t : Nat) (s e : Int32) : Prop := (0 ≤ s.toInt ∧ s.toInt < n) ∧ ((F s.toNatClampNeg).toInt ≤ e.toInt ∧ e.toInt < (F (s.toNatClampNeg + 1)).toInt) ∧ D t s.toNatClampNeg e.toNatClampNeg = 1
def bkE (D : Nat → Nat → Nat → Int32) (F : Nat → Int32) (n : Nat) (B cur Sr Ed : Nat → Int32) : Prop := ∀ t, t < n → ∀ b : Nat, (B t).toInt ≤ (b : Int) → (b : Int) < (cur t).toInt → gdE D F n t (Sr b) (Ed b)
theorem bkB_m {D : Nat → Nat → Nat → Int32} {F : Nat → Int32} {n : Nat} {L : Int} {B : Nat → Int32} (d : d01 D) (h : bkB D F n L B) : ∀ {t s : Nat}, s ≤ t → t ≤ n → (B s).toInt ≤ (B t).toInt := by
  intro t
  induction t with
  | zero =>
    intro s h1 _
    have : s = 0 := by omega
    rw [this]; exact Int.le_refl _
  | succ t ih =>
    intro s h1 h2
    by_cases z : s = t + 1
    · rw [z]; exact Int.le_refl _
    · have a1 := ih (s := s) (by omega) (by omega)
      have a2 := h.2.1 t (by omega)
      have a3 := cNl_p (F := F) (t := t) (k := n) d
      omega
theorem bk_n {D : Nat → Nat → Nat → Int32} {F : Nat → Int32} {n k : Nat} {B cur : Nat → Int32} {x : Int} (h : bkC D F n B cur k x) (h0 : 0 ≤ (F k).toInt) (h1 : (F k).toInt ≤ x) (z : ∀ t, t < n → D t k x.toNat = 0) : bkC D F n B cur k (x + 1) := fun t ht => by
  rw [cP_s h0 h1, z t ht, h t ht, t0i]; omega
/-- where the next link's place is -/
theorem bk_b {D : Nat → Nat → Nat → Int32} {F : Nat → Int32} {n k t : Nat} {B cur : Nat → Int32} {x L : Int} (d : d01 D) (hB : bkB D F n L B) (h : bkC D F n B cur k x) (h0 : 0 ≤ (F k).toInt) (h1 : (F k).toInt ≤ x) (h2 : x < (F (k + 1)).toInt) (hk : k < n) (ht : t < n) (z : D t k x.toNat = 1) : (0 ≤ (cur t).toInt ∧ (cur t).toInt < L) ∧ (B t).toInt ≤ (cur t).toInt ∧ (cur t).toInt < (B (t + 1)).toInt := by
  have a0 := bkB_m d hB (s := 0) (t := t) (Nat.zero_le _) (by omega)
  have a1 := bkB_m d hB (s := t + 1) (t := n) (by omega) (Nat.le_refl _)
  have a2 := h t ht
  have a3 := hB.2.1 t ht
  have a4 := cP_le (t := t) (n := n) d (x := x + 1) (F := F) (k := k) (by omega) hk
  rw [cP_s h0 h1, z, t1i] at a4
  have a5 := cP_p (F := F) (t := t) (k := k) (x := x) d
  have a6 := hB.2.2
  have a7 := hB.1
  omega
theorem bk_s {D : Nat → Nat → Nat → Int32} {F : Nat → Int32} {n k t : Nat} {B cur cur' Sr Ed Sr' Ed' : Nat → Int32} {L : Int} {K X p1 : Int32} (d : d01 D) (hB : bkB D F n L B) (h : bkC D F n B cur k X.toInt) (hE : bkE D F n B cur Sr Ed) (hn : n < 2147483648) (hK : K.toInt = (k : Int)) (h0 : 0 ≤ (F k).toInt) (h1 : (F k).toInt ≤ X.toInt) (h2 : X.toInt < (F (k + 1)).toInt) (hk : k < n) (ht : t < n) (z : D t k X.toInt.toNat = 1) (zo : ∀ s, s < n → s ≠ t → D s k X.toInt.toNat = 0) (ep : p1.toInt = (cur t).toInt + 1) (ec : cur' = upd cur t p1) (eS : Sr' = upd Sr (cur t).toNatClampNeg K) (eE : Ed' = upd Ed (cur t).toNatClampNeg X) : bkC D F n B cur' k (X.toInt + 1) ∧ bkE D F n B cur' Sr' Ed' := by
  obtain ⟨b1, b2, b3⟩ := bk_b d hB h h0 h1 h2 hk ht z
  have kc := cnk b1.1
  have kK : K.toNatClampNeg = k := by
    have := cnk (x := K) (by omega)
    omega
  refine ⟨fun s hs => ?_, fun s hs b g1 g2 => ?_⟩
  · rw [cP_s h0 h1, ec]
    by_cases e : s = t
    · subst e
      have q : upd cur s p1 s = p1 := if_pos rfl
      rw [q, z, t1i, ep, h s hs]; omega
    · have q : upd cur t p1 s = cur s := if_neg e
      rw [q, zo s hs e, t0i, h s hs]; omega
  · have q3 : s = t ∨ (upd cur t p1 s = cur s ∧ s ≠ t) := by
      by_cases e : s = t
      · exact Or.inl e
      · exact Or.inr ⟨if_neg e, e⟩
    rw [eS, eE]
    by_cases e : b = (cur t).toNatClampNeg
    · have ss : s = t := by
        rcases q3 with q | ⟨q, ne⟩
        · exact q
        · exfalso
          rw [ec, q] at g2
          have c1 : (cur s).toInt ≤ (B (s + 1)).toInt := by
            rw [h s hs, hB.2.1 s hs]
            have := cP_le (t := s) (n := n) d (x := X.toInt) (F := F) (k := k) (by omega) hk
            omega
          by_cases lt : s < t
          · have := bkB_m d hB (s := s + 1) (t := t) (by omega) (by omega)
            omega
          · have := bkB_m d hB (s := t + 1) (t := s) (by omega) (by omega)
            omega
      subst ss
      have q1 : upd Sr (cur s).toNatClampNeg K b = K := if_pos e
      have q2 : upd Ed (cur s).toNatClampNeg X b = X := if_pos e
      rw [q1, q2]
      unfold gdE
      rw [kK]
      exact ⟨by omega, ⟨h1, h2⟩, z⟩
    · have q1 : upd Sr (cur t).toNatClampNeg K b = Sr b := if_neg e
      have q2 : upd Ed (cur t).toNatClampNeg X b = Ed b := if_neg e
      rw [q1, q2]
      refine hE s hs b g1 ?_
      rcases q3 with q | ⟨q, ne⟩
      · subst q
        have q9 : upd cur s p1 s = p1 := if_pos rfl
        rw [ec, q9] at g2
        omega
      · rw [ec, q] at g2
        exact g2
/-- the atlas as the web reads it -/
def atW (κ : zS) (a n : Nat) : Prop := atM κ a ∧ atL κ a ∧ n ≤ 1000 ∧ (zI κ hoTotal (zR κ atStates a)).toInt = (n : Int) ∧ (zI κ atNexts a).toInt ≤ (zN κ (zR κ atNumbers a)) ∧ ∀ k, k < n → exK κ a k
/-- the sums of what was counted -/
def bkA (B0 B cur : Nat → Int32) (k : Nat) : Prop := (∀ t, t ≤ k → (B t).toInt = sgI (fun s => (B0 (s + 1)).toInt) t) ∧ (∀ t, k < t → B t = B0 t) ∧ ∀ t, t < k → cur t = B t
theorem bkA_s {B0 B cur B' cur' : Nat → Int32} {n k : Nat} (h : bkA B0 B cur k) (hk : k < n) (p : ∀ t, t < n → 0 ≤ (B0 (t + 1)).toInt) (hs : sgI (fun s => (B0 (s + 1)).toInt) n ≤ 20000) (eB : B' = upd B (k + 1) (B (k + 1) + B k)) (ec : cur' = upd cur k (B' k)) : bkA B0 B' cur' (k + 1) := by
  obtain ⟨h1, h2, h3⟩ := h
  have a1 := h1 k (Nat.le_refl _)
  have a2 := h2 (k + 1) (Nat.lt_succ_self k)
  have m1 := sgI_mo (f := fun s => (B0 (s + 1)).toInt) (n := k + 1) (m := n) (by omega) p
  have m0 := sgI_mo (f := fun s => (B0 (s + 1)).toInt) (n := 0) (m := k) (Nat.zero_le _) (fun i hi => p i (by omega))
  have pk := p k hk
  have sk : sgI (fun s => (B0 (s + 1)).toInt) (k + 1) = sgI (fun s => (B0 (s + 1)).toInt) k + (B0 (k + 1)).toInt := rfl
  have s0 : sgI (fun s => (B0 (s + 1)).toInt) 0 = 0 := rfl
  have e1 : (B (k + 1) + B k).toInt = sgI (fun s => (B0 (s + 1)).toInt) (k + 1) := by
    rw [add_i (by rw [a1, a2]; omega) (by rw [a1, a2]; omega), a1, a2, sk]; omega
  refine ⟨fun t ht => ?_, fun t ht => ?_, fun t ht => ?_⟩
  · rw [eB]
    by_cases z : t = k + 1
    · subst z
      have q : upd B (k + 1) (B (k + 1) + B k) (k + 1) = B (k + 1) + B k := if_pos rfl
      rw [q, e1]
    · have q : upd B (k + 1) (B (k + 1) + B k) t = B t := if_neg z
      rw [q]
      exact h1 t (by omega)
  · have q : upd B (k + 1) (B (k + 1) + B k) t = B t := if_neg (by omega)
    rw [eB, q]
    exact h2 t (by omega)
  · have q9 : B' t = B t := by rw [eB]; exact if_neg (by omega)
    by_cases z : t = k
    · rw [ec, z]; exact if_pos rfl
    · have q : upd cur k (B' k) t = cur t := if_neg z
      rw [ec, q, q9]
      exact h3 t (by omega)
theorem bkA_e {D : Nat → Nat → Nat → Int32} {F B0 B cur Sr Ed : Nat → Int32} {n : Nat} {L : Int} (h : bkA B0 B cur n) (p : ∀ t, t < n → (B0 (t + 1)).toInt = cNl D F t n) (hs : sgI (fun s => (B0 (s + 1)).toInt) n ≤ L) : bkB D F n L B ∧ bkC D F n B cur 0 (F 0).toInt ∧ bkE D F n B cur Sr Ed := by
  obtain ⟨h1, h2, h3⟩ := h
  refine ⟨⟨h1 0 (Nat.zero_le _), fun t ht => ?_, by rw [h1 n (Nat.le_refl _)]; exact hs⟩, fun t ht => ?_, fun t ht b g1 g2 => ?_⟩
  · rw [h1 (t + 1) ht, h1 t (by omega), ← p t ht]
    rfl
  · rw [cP_0, h3 t ht]
    have z : cNl D F t 0 = 0 := rfl
    rw [z]; omega
  · rw [h3 t ht] at g2
    omega
abbrev bkL : List Nat := [weBackFirsts, weCursor, weSources, weEdges]
def rwK (κ τ : zS) (a : Nat) (L : List Nat) : Prop := ∀ f, f ∈ weRf → f ∉ L → zA τ (zR κ f a) = zA κ (zR κ f a)
def bkI (κ τ : zS) (a b : Nat) (p : Int32) (n k : Nat) (x : Int) : Prop := weE κ τ a ∧ rwK κ τ a bkL ∧ bkB (lkD κ b p) (zA κ (zR κ atFirsts b)) n ((zN κ (zR κ weTargets a))) (zA τ (zR κ weBackFirsts a)) ∧ bkC (lkD κ b p) (zA κ (zR κ atFirsts b)) n (zA τ (zR κ weBackFirsts a)) (zA τ (zR κ weCursor a)) k x ∧ bkE (lkD κ b p) (zA κ (zR κ atFirsts b)) n (zA τ (zR κ weBackFirsts a)) (zA τ (zR κ weCursor a)) (zA τ (zR κ weSources a)) (zA τ (zR κ weEdges a))
theorem bkI_s {C : zC} {n0 a b n k t : Nat} {κ σ κ1 κ2 κ3 : zS} {p K X : Int32} (W : zW C n0 σ) (W1 : zW C n0 κ1) (W2 : zW C n0 κ2) (T : zT σ a = 14) (hL : (zN κ (zR κ weTargets a)) ≤ 20000) (H : bkI κ σ a b p n k X.toInt) (hn : n < 2147483648) (hK : K.toInt = (k : Int)) (h0 : 0 ≤ (zA κ (zR κ atFirsts b) k).toInt) (h1 : (zA κ (zR κ atFirsts b) k).toInt ≤ X.toInt) (h2 : X.toInt < (zA κ (zR κ atFirsts b) (k + 1)).toInt) (hk : k < n) (ht : t < n) (z : lkD κ b p t k X.toInt.toNat = 1) (zo : ∀ s, s < n → s ≠ t → lkD κ b p s k X.toInt.toNat = 0) (e1 : κ1 = ua σ (zR σ weSources a) (zA σ (zR σ weCursor a) t).toNatClampNeg K) (e2 : κ2 = ua κ1 (zR κ1 weEdges a) (zA κ1 (zR κ1 weCursor a) t).toNatClampNeg X) (e3 : κ3 = ua κ2 (zR κ2 weCursor a) t (zA κ2 (zR κ2 weCursor a) t + 1)) : bkI κ κ3 a b p n k (X.toInt + 1) := by
  obtain ⟨E, R, hB, hC, hE⟩ := H
  obtain ⟨u1, u2, u3, u4⟩ := we_u W T (f := weSources) (by decide) e1
  obtain ⟨v1, v2, v3, v4⟩ := we_u W1 u4 (f := weEdges) (by decide) e2
  obtain ⟨w1, w2, w3, w4⟩ := we_u W2 v4 (f := weCursor) (by decide) e3
  have rs := E.2.1
  have r1 : zR κ1 = zR κ := u1.2.1.trans rs
  have r2 : zR κ2 = zR κ := v1.2.1.trans r1
  rw [rs] at u2 u3
  rw [r1] at v2 v3
  rw [r2] at w2 w3
  have c1 : zA κ1 (zR κ weCursor a) = zA σ (zR κ weCursor a) := u3 weCursor (by decide) (by decide)
  have c2 : zA κ2 (zR κ weCursor a) = zA σ (zR κ weCursor a) := (v3 weCursor (by decide) (by decide)).trans c1
  have s3 : zA κ3 (zR κ weSources a) = upd (zA σ (zR κ weSources a)) (zA σ (zR κ weCursor a) t).toNatClampNeg K := (w3 weSources (by decide) (by decide)).trans ((v3 weSources (by decide) (by decide)).trans u2)
  have d3 : zA κ3 (zR κ weEdges a) = upd (zA σ (zR κ weEdges a)) (zA σ (zR κ weCursor a) t).toNatClampNeg X := by
    rw [w3 weEdges (by decide) (by decide), v2, u3 weEdges (by decide) (by decide), c1]
  have b3 : zA κ3 (zR κ weBackFirsts a) = zA σ (zR κ weBackFirsts a) := (w3 weBackFirsts (by decide) (by decide)).trans ((v3 weBackFirsts (by decide) (by decide)).trans (u3 weBackFirsts (by decide) (by decide)))
  rw [c2] at w2
  have d : d01 (lkD κ b p) := fun _ _ _ => lkD_01
  have bb := bk_b d hB hC h0 h1 h2 hk ht z
  have ep : (zA σ (zR κ weCursor a) t + 1).toInt = (zA σ (zR κ weCursor a) t).toInt + 1 := (cn1 bb.1.1 (by omega)).2
  obtain ⟨f1, f2⟩ := bk_s d hB hC hE hn hK h0 h1 h2 hk ht z zo ep w2 s3 d3
  refine ⟨((E.tr u1).tr v1).tr w1, fun f hf hl => ?_, by rw [b3]; exact hB, by rw [b3]; exact f1, by rw [b3]; exact f2⟩
  have n1 : f ≠ weSources := fun y => hl (by rw [y]; decide)
  have n2 : f ≠ weEdges := fun y => hl (by rw [y]; decide)
  have n3 : f ≠ weCursor := fun y => hl (by rw [y]; decide)
  rw [w3 f hf n3, v3 f hf n2, u3 f hf n1]
  exact R f hf hl
theorem lkD_1 {κ : zS} {a t k i : Nat} {p : Int32} (h : lkD κ a p t k i = 1) : (zA κ (zR κ atSorts a) i = 0 ∧ (p = 0 ∨ zA κ (zR κ atChooses a) k = 0 ∨ Int32.ofNat i = zA κ (zR κ atFirsts a) k + zA κ (zR κ atPlan a) k)) ∧ (zA κ (zR κ atNumbers a) i).toInt = (t : Int) := by
  unfold lkD at h
  split at h
  · assumption
  · exact absurd h (by decide)
/-- how many marks stand -/
def cBq (f : Nat → Int32) (n : Nat) : Int := sgI (fun k => if f k = 0 then 0 else 1) n
theorem cBq_up {f : Nat → Int32} {n k : Nat} {x : Int32} (hk : k < n) (h : f k = 0) (hx : x ≠ 0) : cBq (upd f k x) n = cBq f n + 1 := by
  refine sgI_up (j := k) hk (fun i _ hi => ?_) ?_
  · show (if (if i = k then x else f i) = 0 then (0 : Int) else 1) = if f i = 0 then 0 else 1
    rw [if_neg hi]
  · show (if (if k = k then x else f k) = 0 then (0 : Int) else 1) = (if f k = 0 then 0 else 1) + 1
    rw [if_pos rfl, if_neg hx, if_pos h]
    rfl
theorem cBq_le {f : Nat → Int32} : ∀ {n : Nat}, 0 ≤ cBq f n ∧ cBq f n ≤ n
  | 0 => ⟨Int.le_refl _, Int.le_refl _⟩
  | n + 1 => by
    have a := cBq_le (f := f) (n := n)
    have e : cBq f (n + 1) = cBq f n + (if f n = 0 then 0 else 1) := rfl
    rw [e]
    split <;> omega
abbrev rcL : List Nat := [weOpen, weHeap]
def rcI (κ τ : zS) (a n : Nat) (m : Int32) : Prop := weE κ τ a ∧ rwK κ τ a rcL ∧ m.toInt = cBq (zA τ (zR κ weOpen a)) n ∧ ∀ i : Nat, (i : Int) < m.toInt → 0 ≤ (zA τ (zR κ weHeap a) i).toInt ∧ (zA τ (zR κ weHeap a) i).toInt < n
theorem rcI_s {C : zC} {n0 a n : Nat} {κ σ κ1 κ2 : zS} {m x y : Int32} (W : zW C n0 σ) (W1 : zW C n0 κ1) (T : zT σ a = 14) (H : rcI κ σ a n m) (hn : n ≤ 1000) (hx : 0 ≤ x.toInt ∧ x.toInt < n) (h0 : zA σ (zR σ weOpen a) x.toNatClampNeg = 0) (hy : y ≠ 0) (e1 : κ1 = ua σ (zR σ weOpen a) x.toNatClampNeg y) (e2 : κ2 = ua κ1 (zR κ1 weHeap a) m.toNatClampNeg x) : m.toInt < n ∧ rcI κ κ2 a n (m + 1) := by
  obtain ⟨E, R, hm, hh⟩ := H
  obtain ⟨u1, u2, u3, u4⟩ := we_u W T (f := weOpen) (by decide) e1
  obtain ⟨v1, v2, v3, v4⟩ := we_u W1 u4 (f := weHeap) (by decide) e2
  have rs := E.2.1
  have r1 : zR κ1 = zR κ := u1.2.1.trans rs
  rw [rs] at u2 u3 h0
  rw [r1] at v2 v3
  have kx := cnk hx.1
  have a1 := cBq_le (f := zA κ2 (zR κ weOpen a)) (n := n)
  have a0 := cBq_le (f := zA σ (zR κ weOpen a)) (n := n)
  have o2 : zA κ2 (zR κ weOpen a) = upd (zA σ (zR κ weOpen a)) x.toNatClampNeg y := (v3 weOpen (by decide) (by decide)).trans u2
  have h2 : zA κ2 (zR κ weHeap a) = upd (zA σ (zR κ weHeap a)) m.toNatClampNeg x := by rw [v2, u3 weHeap (by decide) (by decide)]
  have c2 : cBq (zA κ2 (zR κ weOpen a)) n = cBq (zA σ (zR κ weOpen a)) n + 1 := by rw [o2]; exact cBq_up (by omega) h0 hy
  have em := cn1 (x := m) (by omega) (by omega)
  have km := cnk (x := m) (by omega)
  refine ⟨by omega, (E.tr u1).tr v1, fun f hf hl => ?_, by rw [em.2, c2, hm], fun i hi => ?_⟩
  · have n1 : f ≠ weOpen := fun z => hl (by rw [z]; decide)
    have n2 : f ≠ weHeap := fun z => hl (by rw [z]; decide)
    rw [v3 f hf n2, u3 f hf n1]
    exact R f hf hl
  · rw [h2]
    by_cases z : i = m.toNatClampNeg
    · have q : upd (zA σ (zR κ weHeap a)) m.toNatClampNeg x i = x := if_pos z
      rw [q]; exact hx
    · have q : upd (zA σ (zR κ weHeap a)) m.toNatClampNeg x i = zA σ (zR κ weHeap a) i := if_neg z
      rw [q]
      rw [em.2] at hi
      exact hh i (by omega)
theorem We_weaveBack_c {C : zC} {n0 : Nat} {a0 : Nat} {a1 : Nat} {a2 : Int32} {κ : zS} {Q : zS → Prop} (W : zW C n0 κ) (Ta0 : zT κ a0 = 14) (Ta1 : zT κ a1 = 3) (m9 : Nat) (hp : (weM κ a0 ∧ weL κ a0) ∧ (zI κ weTotal a0).toInt = (m9 : Int) ∧ atW κ a1 m9 ∧ (zA κ (zR κ weBackFirsts a0) 0).toInt = 0 ∧ (∀ t, t < m9 → (zA κ (zR κ weBackFirsts a0) (t + 1)).toInt = cNl (lkD κ a1 a2) (zA κ (zR κ atFirsts a1)) t m9) ∧ sgI (fun s => (zA κ (zR κ weBackFirsts a0) (s + 1)).toInt) m9 ≤ (zN κ (zR κ weTargets a0))) (h : ∀ (κ' : zS), (bkI κ κ' a0 a1 a2 m9 m9 (zA κ (zR κ atFirsts a1) m9).toInt) → Q κ') : zRun C 1 mWe_weaveBack [.ref a0, .ref a1, .int a2] κ (oV Q noX) := by
  refine We_weaveBack_run W Ta0 Ta1 ?_
  replace W := W.lo (Nat.le_trans W.1.2.1 W.1.2.2) (Nat.le_refl (zn κ))
  unfold w_We_weaveBack_0
  obtain ⟨⟨M, L⟩, tn, A, b0, bt, bs⟩ := hp
  obtain ⟨AM, AL, n1, nS, nb9, EK⟩ := A
  have lT := L.2.2
  have p0 : ∀ t, t < m9 → 0 ≤ (zA κ (zR κ weBackFirsts a0) (t + 1)).toInt := fun t ht => by rw [bt t ht]; exact cNl_p (fun _ _ _ => lkD_01)
  unfold w_We_weaveBack_2
  refine ⟨fun n l0 l1 l2 l3 τ => n = (1000 - l3.toInt).toNat ∧ (a0 = l0 ∧ a1 = l1 ∧ a2 = l2 ∧ weE κ τ a0 ∧ rwK κ τ a0 bkL ∧ (0 ≤ l3.toInt ∧ l3.toInt ≤ m9) ∧ bkA (zA κ (zR κ weBackFirsts a0)) (zA τ (zR κ weBackFirsts a0)) (zA τ (zR κ weCursor a0)) l3.toNatClampNeg), ⟨_, rfl, ?_⟩, ?_⟩
  · exact ⟨rfl, rfl, rfl, weE.rf, fun _ _ _ => rfl, ⟨by decide, by rw [t0i]; omega⟩, fun t ht => by
      have z : t = 0 := Nat.le_zero.mp ht
      rw [z]; exact b0, fun _ _ => rfl, fun t ht => absurd ht (Nat.not_lt_zero _)⟩
  rintro n2 _ _ _ x2_3 κ2 W2 T2_0 T2_1 ⟨hn2, rfl, rfl, rfl, i2⟩
  obtain ⟨E2, R2, k2, A2⟩ := i2
  have I2 := E2.2.2.1
  have kn2 := cnk k2.1
  refine ⟨fun c1 => ?_, fun c1 => ?_⟩
  · skip
    unfold w_We_weaveBack_47
    refine ⟨fun n l0 l1 l2 l3 τ => n = (1000 - l3.toInt).toNat ∧ (a0 = l0 ∧ a1 = l1 ∧ a2 = l2 ∧ (0 ≤ l3.toInt ∧ l3.toInt ≤ m9) ∧ bkI κ τ a0 a1 a2 m9 l3.toNatClampNeg (zA κ (zR κ atFirsts a1) l3.toNatClampNeg).toInt), ⟨_, rfl, ?_⟩, ?_⟩
    · rw [lei, I2] at c1
      have kk : x2_3.toNatClampNeg = m9 := by omega
      rw [kk] at A2
      have q := bkA_e (Sr := zA κ2 (zR κ weSources a0)) (Ed := zA κ2 (zR κ weEdges a0)) A2 bt bs
      exact ⟨rfl, rfl, rfl, ⟨by decide, by rw [t0i]; omega⟩, E2, R2, q.1, q.2.1, q.2.2⟩
    rintro n47 _ _ _ x47_3 κ47 W47 T47_0 T47_1 ⟨hn47, rfl, rfl, rfl, i47⟩
    obtain ⟨k47, H47⟩ := i47
    have E47 := H47.1
    have I47 := E47.2.2.1
    have kn47 := cnk k47.1
    refine ⟨fun c2 => ?_, fun c2 => ?_⟩
    · skip
      refine h _ ?_
      · rw [lei, I47] at c2
        have kk : x47_3.toNatClampNeg = m9 := by omega
        rw [kk] at H47
        exact H47
    · skip
      rw [lei, I47] at c2
      have lt47 : x47_3.toNatClampNeg < m9 := by omega
      have aF := at_E W Ta0 Ta1 E47.1 (f := atFirsts) (by decide)
      obtain ⟨X1, X2, X3, X4, X5⟩ := EK x47_3.toNatClampNeg lt47
      refine ⟨?_, ?_⟩
      · have l1 := AM.1
        rw [aF.2.2, inb_iff]; omega
      intro x3 hx3
      unfold w_We_weaveBack_63
      refine ⟨fun n l0 l1 l2 l3 l4 τ => n = (20000 - l4.toInt).toNat ∧ (a0 = l0 ∧ a1 = l1 ∧ a2 = l2 ∧ x47_3 = l3 ∧ (0 ≤ l4.toInt ∧ (zA κ (zR κ atFirsts a1) l3.toNatClampNeg).toInt ≤ l4.toInt ∧ l4.toInt ≤ (zA κ (zR κ atFirsts a1) (l3.toNatClampNeg + 1)).toInt) ∧ bkI κ τ a0 a1 a2 m9 l3.toNatClampNeg l4.toInt), ⟨_, rfl, ?_⟩, ?_⟩
      · rw [hx3, aF.2.1]
        exact ⟨rfl, rfl, rfl, rfl, ⟨X1.1, Int.le_refl _, X1.2.1⟩, H47⟩
      rintro n63 _ _ _ x63_3 x63_4 κ63 W63 T63_0 T63_1 ⟨hn63, rfl, rfl, rfl, i63⟩
      obtain ⟨rfl, x63, H63⟩ := i63
      have E63 := H63.1
      have gF := at_E W Ta0 Ta1 E63.1 (f := atFirsts) (by decide)
      have gS := at_E W Ta0 Ta1 E63.1 (f := atSorts) (by decide)
      have gN := at_E W Ta0 Ta1 E63.1 (f := atNumbers) (by decide)
      have kx := cnk x63.1
      have kx2 : x63_4.toInt.toNat = x63_4.toNatClampNeg := rfl
      have en := cn1 k47.1 (by omega)
      have x2 := X1.2.2
      have al := AL.1.1
      have al2 := AL.2.2
      have hj100 : ∀ (l0 : Nat) (l1 : Nat) (l2 : Int32) (l3 : Int32) (l4 : Int32) (τ : zS), zW C (zn κ) τ → zT τ l0 = 14 → zT τ l1 = 3 → (a0 = l0 ∧ a1 = l1 ∧ a2 = l2 ∧ κ63 = τ ∧ x47_3 = l3 ∧ x63_4 = l4 ∧ x63_4.toInt < (zA κ (zR κ atFirsts a1) (x47_3.toNatClampNeg + 1)).toInt ∧ lkD κ a1 a2 (zA κ (zR κ atNumbers a1) x63_4.toNatClampNeg).toNatClampNeg x47_3.toNatClampNeg x63_4.toNatClampNeg = 1) → w_We_weaveBack_100 C (zn κ) Q (fun (l0' : Nat) (l1' : Nat) (l2' : Int32) (l3' : Int32) (τ : zS) => ∃ k < n47, (fun (n : Nat) (l0 : Nat) (l1 : Nat) (l2 : Int32) (l3 : Int32) (τ : zS) => n = (1000 - l3.toInt).toNat ∧ (a0 = l0 ∧ a1 = l1 ∧ a2 = l2 ∧ (0 ≤ l3.toInt ∧ l3.toInt ≤ m9) ∧ bkI κ τ a0 a1 a2 m9 l3.toNatClampNeg (zA κ (zR κ atFirsts a1) l3.toNatClampNeg).toInt)) k l0' l1' l2' l3' τ) (fun (l0' : Nat) (l1' : Nat) (l2' : Int32) (l3' : Int32) (l4' : Int32) (τ : zS) => ∃ k < n63, (fun (n : Nat) (l0 : Nat) (l1 : Nat) (l2 : Int32) (l3 : Int32) (l4 : Int32) (τ : zS) => n = (20000 - l4.toInt).toNat ∧ (a0 = l0 ∧ a1 = l1 ∧ a2 = l2 ∧ x47_3 = l3 ∧ (0 ≤ l4.toInt ∧ (zA κ (zR κ atFirsts a1) l3.toNatClampNeg).toInt ≤ l4.toInt ∧ l4.toInt ≤ (zA κ (zR κ atFirsts a1) (l3.toNatClampNeg + 1)).toInt) ∧ bkI κ τ a0 a1 a2 m9 l3.toNatClampNeg l4.toInt)) k l0' l1' l2' l3' l4' τ) l0 l1 l2 l3 l4 τ := by
        rintro _ _ _ y100_3 y100_4 τ100 W100 T100_0 T100_1 ⟨rfl, rfl, rfl, j100⟩
        unfold w_We_weaveBack_100
        obtain ⟨rfl, rfl, rfl, c12, zk⟩ := j100
        have zs := lkD_1 zk
        have nx := (X2 x63_4.toNatClampNeg (by omega) (by omega)).1 zs.1.1
        have e1 := cn1 x63.1 (by omega)
        refine ⟨?_, ?_⟩
        · rw [gN.2.2, inb_iff]; omega  -- b6
        intro x4 hx4
        rw [gN.2.1] at hx4
        rw [← hx4] at nx zk
        have kt := cnk nx.1
        have tn4 : x4.toNatClampNeg < m9 := by omega
        have bb := bk_b (fun _ _ _ => lkD_01) H63.2.2.1 H63.2.2.2.1 X1.1 x63.2.1 c12 lt47 tn4 (by rw [kx2]; exact zk)
        have mC := M.2.2.2.2.2.2.2.2.1
        have rs := E63.2.1
        have ns := E63.2.2.2
        refine ⟨?_, ?_⟩
        · rw [rs, ns, inb_iff]; omega  -- b7
        refine ⟨?_, ?_⟩
        · have l1 := L.1.1
          rw [rs, ns, inb_iff]; omega
        intro κ_5 hκ_5
        intro W6
        have U1 := we_u W63 T63_0 (f := weSources) (by decide) hκ_5
        have r5 : zR κ_5 = zR κ := U1.1.2.1.trans rs
        have n5 : zN κ_5 = zN κ := U1.1.2.2.2.trans ns
        have c5 : zA κ_5 (zR κ weCursor a0) = zA κ63 (zR κ weCursor a0) := by
          have q := U1.2.2.1 weCursor (by decide) (by decide)
          rw [rs] at q
          exact q
        refine ⟨?_, ?_⟩
        · rw [r5, n5, inb_iff]; omega  -- b9
        refine ⟨?_, ?_⟩
        · have l1 := L.1.2
          rw [r5, n5, c5, inb_iff]; omega
        intro κ_7 hκ_7
        intro W8
        have U2 := we_u W6 U1.2.2.2 (f := weEdges) (by decide) hκ_7
        have r7 : zR κ_7 = zR κ := U2.1.2.1.trans r5
        have n7 : zN κ_7 = zN κ := U2.1.2.2.2.trans n5
        refine ⟨?_, ?_⟩
        · rw [r7, n7, inb_iff]; omega  -- b11
        refine ⟨?_, ?_⟩
        · rw [r7, n7, inb_iff]; omega  -- b12
        intro κ_9 hκ_9
        intro W10
        intro x11 hx11
        refine ⟨_, ?_, rfl, ?_⟩
        · rw [hn63, hx11, e1.2]; omega  -- d13
        · rw [hx11, e1.2]
          exact ⟨rfl, rfl, rfl, rfl, by omega, bkI_s W63 W6 W8 T63_0 (by omega) H63 (by omega) (by omega) X1.1 x63.2.1 c12 lt47 tn4 zk (fun t _ ht => if_neg (fun z => by
            have y := z.2
            rw [kx2, ← hx4] at y
            omega)) hκ_5 hκ_7 hκ_9⟩
      refine ⟨?_, ?_⟩
      · have l1 := AM.1
        rw [gF.2.2, inb_iff, en.2]; omega
      refine ⟨fun c12 => ?_, fun c12 => ?_⟩
      · skip
        intro x13 hx13
        refine ⟨_, ?_, rfl, ?_⟩
        · rw [hn47, hx13, en.2]; omega  -- d16
        · rw [lei, en.1, gF.2.1] at c12
          have e9 : x63_4.toInt = (zA κ (zR κ atFirsts a1) (x47_3.toNatClampNeg + 1)).toInt := by omega
          rw [hx13, en.1, en.2]
          refine ⟨rfl, rfl, rfl, by omega, H63.1, H63.2.1, H63.2.2.1, ?_, H63.2.2.2.2⟩
          intro t ht
          have y := H63.2.2.2.1 t ht
          rw [e9, cP_e, ← cP_0] at y
          exact y
      · skip
        rw [lei, en.1, gF.2.1] at c12
        have e1 := cn1 x63.1 (by omega)
        refine ⟨?_, ?_⟩
        · rw [gS.2.2, inb_iff]; omega  -- b18
        refine ⟨fun c14 => ?_, fun c14 => ?_⟩
        · skip
          intro x15 hx15
          refine ⟨_, ?_, rfl, ?_⟩
          · rw [hn63, hx15, e1.2]; omega  -- d19
          · rw [gS.2.1] at c14
            rw [hx15, e1.2]
            refine ⟨rfl, rfl, rfl, rfl, by omega, H63.1, H63.2.1, H63.2.2.1, bk_n H63.2.2.2.1 X1.1 (by omega) (fun t _ => if_neg (fun z => c14 z.1.1)), H63.2.2.2.2⟩
        · skip
          refine ⟨fun c16 => ?_, fun c16 => ?_⟩
          · skip
            refine hj100 _ _ _ _ _ _ W63 ?_ ?_ ?_
            · exact T63_0  -- t21
            · exact T63_1  -- t22
            · rw [gS.2.1] at c14
              have nx := (X2 x63_4.toNatClampNeg (by omega) (by omega)).1 c14
              exact ⟨rfl, rfl, rfl, rfl, rfl, rfl, by omega, if_pos ⟨⟨c14, Or.inl c16⟩, by rw [cnk nx.1]⟩⟩
          · skip
            intro T17
            refine At_isTaken_c W63 T17  ?_ (fun r18 q20 => ?_)
            · have M63 : atM κ63 a1 := by
                have g := fun f hf => (at_E W Ta0 Ta1 E63.1 (f := f) hf).2.2
                unfold atM
                rw [g atFirsts (by decide), g atTotals (by decide), g atGains (by decide), g atPlan (by decide), g atChooses (by decide), g atHopeless (by decide)]
                exact AM
              exact ⟨M63, k47.1, by omega⟩
            have gC := at_E W Ta0 Ta1 E63.1 (f := atChooses) (by decide)
            have gP := at_E W Ta0 Ta1 E63.1 (f := atPlan) (by decide)
            rw [gC.2.1, gF.2.1, gP.2.1] at q20
            have eo : Int32.ofNat x63_4.toNatClampNeg = x63_4 := Int32.toInt_inj.mp (by rw [ofn_i (by omega)]; omega)
            intro W21
            intro M22
            refine ⟨fun c23 => ?_, fun c23 => ?_⟩
            · skip
              intro x24 hx24
              refine ⟨_, ?_, rfl, ?_⟩
              · rw [hn63, hx24, e1.2]; omega  -- d25
              · rw [gS.2.1] at c14
                rw [hx24, e1.2]
                refine ⟨rfl, rfl, rfl, rfl, by omega, H63.1, H63.2.1, H63.2.2.1, bk_n H63.2.2.2.1 X1.1 (by omega) (fun t _ => if_neg (fun z => ?_)), H63.2.2.2.2⟩
                rcases z.1.2 with y | y | y
                · exact c16 y
                · exact q20.2.mpr (Or.inl y) c23
                · rw [kx2, eo] at y
                  exact q20.2.mpr (Or.inr y) c23
            · skip
              refine hj100 _ _ _ _ _ _ W21 ?_ ?_ ?_
              · exact T63_0  -- t27
              · exact T63_1  -- t28
              · rw [gS.2.1] at c14
                have nx := (X2 x63_4.toNatClampNeg (by omega) (by omega)).1 c14
                refine ⟨rfl, rfl, rfl, rfl, rfl, rfl, by omega, if_pos ⟨⟨c14, Or.inr ?_⟩, by rw [cnk nx.1]⟩⟩
                rcases q20.2.mp c23 with y | y
                · exact Or.inl y
                · exact Or.inr (by rw [eo]; exact y)
  · skip
    rw [lei, I2] at c1
    have en2 := cn1 k2.1 (by omega)
    have mB := M.2.1
    have mC := M.2.2.2.2.2.2.2.2.1
    have rs := E2.2.1
    have ns := E2.2.2.2
    refine ⟨?_, ?_⟩
    · rw [rs, ns, inb_iff, en2.2]; omega  -- b30
    refine ⟨?_, ?_⟩
    · rw [rs, ns, inb_iff]; omega  -- b31
    refine ⟨?_, ?_⟩
    · rw [rs, ns, inb_iff, en2.2]; omega  -- b32
    intro κ_25 hκ_25
    intro W26
    have U := we_u W2 T2_0 (f := weBackFirsts) (by decide) hκ_25
    have r5 : zR κ_25 = zR κ := U.1.2.1.trans rs
    have n5 : zN κ_25 = zN κ := U.1.2.2.2.trans ns
    refine ⟨?_, ?_⟩
    · rw [r5, n5, inb_iff]; omega  -- b33
    refine ⟨?_, ?_⟩
    · rw [r5, n5, inb_iff]; omega  -- b34
    intro κ_27 hκ_27
    intro W28
    intro x29 hx29
    refine ⟨_, ?_, rfl, ?_⟩
    · rw [hn2, hx29, en2.2]; omega  -- d35
    · have V := we_u W26 U.2.2.2 (f := weCursor) (by decide) hκ_27
      have u2 := U.2.1
      have u3 := U.2.2.1
      have v2 := V.2.1
      have v3 := V.2.2.1
      rw [rs] at u2 u3
      rw [r5] at v2 v3
      rw [en2.1] at u2
      have eB : zA κ_27 (zR κ weBackFirsts a0) = upd (zA κ2 (zR κ weBackFirsts a0)) (x2_3.toNatClampNeg + 1) (zA κ2 (zR κ weBackFirsts a0) (x2_3.toNatClampNeg + 1) + zA κ2 (zR κ weBackFirsts a0) x2_3.toNatClampNeg) := (v3 weBackFirsts (by decide) (by decide)).trans u2
      have eC : zA κ_27 (zR κ weCursor a0) = upd (zA κ2 (zR κ weCursor a0)) x2_3.toNatClampNeg (zA κ_27 (zR κ weBackFirsts a0) x2_3.toNatClampNeg) := by
        rw [v2, u3 weCursor (by decide) (by decide), v3 weBackFirsts (by decide) (by decide)]
      rw [hx29, en2.1, en2.2]
      refine ⟨rfl, rfl, rfl, (E2.tr U.1).tr V.1, fun f hf hl => ?_, by omega, bkA_s A2 (by omega) p0 (by omega) eB eC⟩
      have n1 : f ≠ weBackFirsts := fun y => hl (by rw [y]; decide)
      have n2 : f ≠ weCursor := fun y => hl (by rw [y]; decide)
      rw [v3 f hf n2, u3 f hf n1]
      exact R2 f hf hl

theorem We_reach_c {C : zC} {n0 : Nat} {a0 : Nat} {a1 : Int32} {κ : zS} {Q : zS → Prop} (W : zW C n0 κ) (Ta0 : zT κ a0 = 14) (m9 : Nat) (hp : (weM κ a0 ∧ weL κ a0) ∧ ((zI κ weTotal a0).toInt = (m9 : Int) ∧ m9 ≤ 1000) ∧ a1.toInt = cBq (zA κ (zR κ weOpen a0)) m9 ∧ (∀ i : Nat, (i : Int) < a1.toInt → 0 ≤ (zA κ (zR κ weHeap a0) i).toInt ∧ (zA κ (zR κ weHeap a0) i).toInt < m9) ∧ ∀ t, t < m9 → (0 ≤ (zA κ (zR κ weBackFirsts a0) t).toInt ∧ (zA κ (zR κ weBackFirsts a0) (t + 1)).toInt ≤ (zN κ (zR κ weTargets a0))) ∧ ∀ b : Nat, (zA κ (zR κ weBackFirsts a0) t).toInt ≤ (b : Int) → (b : Int) < (zA κ (zR κ weBackFirsts a0) (t + 1)).toInt → 0 ≤ (zA κ (zR κ weSources a0) b).toInt ∧ (zA κ (zR κ weSources a0) b).toInt < m9) (h : ∀ (κ' : zS), (weE κ κ' a0 ∧ rwK κ κ' a0 rcL) → Q κ') : zRun C 0 mWe_reach [.ref a0, .int a1] κ (oV Q noX) := by
  refine We_reach_run W Ta0 ?_
  replace W := W.lo (Nat.le_trans W.1.2.1 W.1.2.2) (Nat.le_refl (zn κ))
  unfold w_We_reach_0
  obtain ⟨⟨M, L⟩, ⟨tn, n1⟩, ac, hh, BK⟩ := hp
  have lT := L.2.2
  have lS := L.1.1
  have m2 := M.2.1
  have m3 := M.2.2.1
  have m11 := M.2.2.2.2.2.2.2.2.2.2
  unfold w_We_reach_4
  refine ⟨fun n l0 l2 l3 τ => n = (1000 - l3.toInt).toNat ∧ (a0 = l0 ∧ 0 ≤ l3.toInt ∧ rcI κ τ a0 m9 l2), ⟨_, rfl, ?_⟩, ?_⟩
  · exact ⟨rfl, by decide, weE.rf, fun _ _ _ => rfl, ac, hh⟩  -- j1
  rintro n4 _ x4_2 x4_3 κ4 W4 T4_0 ⟨hn4, rfl, i4⟩
  obtain ⟨k4, H4⟩ := i4
  have rs := H4.1.2.1
  have ns := H4.1.2.2.2
  have is := H4.1.2.2.1
  have kn := cnk k4
  refine ⟨fun c1 => ?_, fun c1 => ?_⟩
  · skip
    refine h _ ?_
    · exact ⟨H4.1, H4.2.1⟩  -- q2
  · skip
    refine ⟨fun c2 => ?_, fun c2 => ?_⟩
    · skip
      refine h _ ?_
      · exact ⟨H4.1, H4.2.1⟩  -- q3
    · skip
      rw [lei] at c1 c2
      rw [is] at c2
      refine ⟨?_, ?_⟩
      · rw [rs, ns, inb_iff]; omega  -- b4
      intro x3 hx3
      rw [rs] at hx3
      have hk := H4.2.2.2 x4_3.toNatClampNeg (by omega)
      rw [← hx3] at hk
      refine ⟨?_, ?_⟩
      · rw [rs, ns, inb_iff]; omega  -- b5
      intro x4 hx4
      unfold w_We_reach_34
      refine ⟨fun n l0 l2 l3 l4 l5 τ => n = (20000 - l5.toInt).toNat ∧ (a0 = l0 ∧ x4_3 = l3 ∧ (0 ≤ l4.toInt ∧ l4.toInt < m9) ∧ (zA κ (zR κ weBackFirsts a0) l4.toNatClampNeg).toInt ≤ l5.toInt ∧ rcI κ τ a0 m9 l2), ⟨_, rfl, ?_⟩, ?_⟩
      · have bF : zA κ4 (zR κ weBackFirsts a0) = zA κ (zR κ weBackFirsts a0) := H4.2.1 weBackFirsts (by decide) (by decide)
        rw [hx4, rs, bF]
        exact ⟨rfl, rfl, hk, Int.le_refl _, H4⟩
      rintro n34 _ x34_2 x34_3 x34_4 x34_5 κ34 W34 T34_0 ⟨hn34, rfl, i34⟩
      obtain ⟨rfl, k34, b34, H34⟩ := i34
      have rt := H34.1.2.1
      have nt := H34.1.2.2.2
      have kq := cnk k34.1
      have eq := cn1 k34.1 (by omega)
      have BB := BK x34_4.toNatClampNeg (by omega)
      have bF : zA κ34 (zR κ weBackFirsts a0) = zA κ (zR κ weBackFirsts a0) := H34.2.1 weBackFirsts (by decide) (by decide)
      have bS : zA κ34 (zR κ weSources a0) = zA κ (zR κ weSources a0) := H34.2.1 weSources (by decide) (by decide)
      refine ⟨?_, ?_⟩
      · rw [rt, nt, inb_iff, eq.2]; omega  -- b7
      refine ⟨fun c5 => ?_, fun c5 => ?_⟩
      · skip
        intro x6 hx6
        refine ⟨_, ?_, rfl, ?_⟩
        · have e3 := cn1 k4 (by omega)
          rw [hn4, hx6, e3.2]; omega
        · have e3 := cn1 k4 (by omega)
          exact ⟨rfl, by rw [hx6, e3.2]; omega, H34⟩
      · skip
        rw [lei, rt, bF, eq.1] at c5
        have k5 := cnk (x := x34_5) (by omega)
        have e5 := cn1 (x := x34_5) (by omega) (by omega)
        refine ⟨?_, ?_⟩
        · rw [rt, nt, inb_iff]; omega  -- b10
        intro x7 hx7
        rw [rt, bS] at hx7
        have hs := BB.2 x34_5.toNatClampNeg (by omega) (by omega)
        rw [← hx7] at hs
        refine ⟨?_, ?_⟩
        · rw [rt, nt, inb_iff]; omega  -- b11
        refine ⟨fun c8 => ?_, fun c8 => ?_⟩
        · skip
          intro x9 hx9
          refine ⟨_, ?_, rfl, ?_⟩
          · rw [hn34, hx9, e5.2]; omega  -- d12
          · exact ⟨rfl, rfl, k34, by rw [hx9, e5.2]; omega, H34⟩  -- i13
        · skip
          refine ⟨?_, ?_⟩
          · rw [rt, nt, inb_iff]; omega  -- b14
          intro κ_10 hκ_10
          intro W11
          have U := we_u W34 T34_0 (f := weOpen) (by decide) hκ_10
          have lm : x34_2.toInt < m9 := by
            have z := rcI_s (κ2 := ua κ_10 (zR κ_10 weHeap a0) x34_2.toNatClampNeg x7) W34 W11 T34_0 H34 n1 hs c8 (by decide) hκ_10 rfl
            exact z.1
          have lm0 : 0 ≤ x34_2.toInt := by rw [H34.2.2.1]; exact cBq_le.1
          refine ⟨?_, ?_⟩
          · rw [U.1.2.1, U.1.2.2.2, rt, nt, inb_iff]; omega  -- b15
          intro κ_12 hκ_12
          intro W13
          intro x14 hx14
          intro x15 hx15
          refine ⟨_, ?_, rfl, ?_⟩
          · rw [hn34, hx15, e5.2]; omega  -- d16
          · rw [hx14]
            exact ⟨rfl, rfl, k34, by rw [hx15, e5.2]; omega, (rcI_s W34 W11 T34_0 H34 n1 hs c8 (by decide) hκ_10 hκ_12).2⟩

end
section
set_option maxHeartbeats 1600000
/-! the class: Web's weave -/
theorem we_gr {C : zC} {n0 f c t n : Nat} {κ κ1 κ2 : zS} (W : zW C n0 κ) (hr : zr f = some t) (ht : 20 ≤ t) (T : zT κ c = f / 100) (e1 : κ1 = na κ t n) (e : κ2 = uo κ1 f c (zn κ)) (cS : n + wS f (zN κ (zR κ f c)) ≤ wS f n) (cC : 4 + wC f (zN κ (zR κ f c)) ≤ wC f n) : zF (fun g b => g = f ∧ b = c) κ κ2 ∧ zI κ2 = zI κ ∧ (∀ g b, ¬ (g = f ∧ b = c) → zR κ2 g b = zR κ g b) ∧ zR κ2 f c = zn κ ∧ zN κ2 (zn κ) = n ∧ (∀ x d, zT κ x = d + 1 → zN κ2 x = zN κ x ∧ zA κ2 x = zA κ x) := by
  have F : zF (fun g b => g = f ∧ b = c) κ κ2 := zF_uo W hr ht T ht ⟨rfl, rfl⟩ (na_h e1) e cS cC
  refine ⟨F, by rw [e, e1]; rfl, fun g b h => by rw [e, e1]; exact if_neg h, by rw [e]; exact if_pos ⟨rfl, rfl⟩, ?_, fun x d hx => ⟨F.l hx, ?_⟩⟩
  · rw [e, e1]
    exact if_pos rfl
  · rw [e, e1]
    exact if_neg (W.nw hx)
theorem we_c {f o n : Nat} (hf : f = 1402 ∨ f = 1404 ∨ f = 1405) (h64 : 64 ≤ o) (ho : o < 20000) (hn : n = 20000 ∨ (2 * o ≤ n ∧ n < 20000)) : n + wS f o ≤ wS f n ∧ 4 + wC f o ≤ wC f n := by
  have c : cap9 f = 20000 := by
    rcases hf with rfl | rfl | rfl <;> rfl
  have h0 : f ≠ 0 ∧ f ≠ 605 ∧ f ≠ 800 := by omega
  unfold wS wC
  rw [if_neg h0.1, if_neg h0.2.1, if_neg h0.2.2, if_neg h0.1, if_neg h0.2.1, if_neg h0.2.2, if_neg h0.1, if_neg h0.2.1, if_neg h0.2.2, if_neg h0.1, if_neg h0.2.1, if_neg h0.2.2, c]
  split <;> split <;> omega
/-- the atlas as it was -/
theorem atW_E {C : zC} {n0 a b n : Nat} {κ τ : zS} (W : zW C n0 κ) (T : zT κ a = 14) (Tb : zT κ b = 3) (h : zF (objF a) κ τ) (A : atW κ b n) : atW τ b n := by
  have ne : b ≠ a := fun z => by rw [z, T] at Tb; exact absurd Tb (by decide)
  have ts := ty_atStates W Tb
  have te := ty_atEndings W Tb
  have ns : zR κ atStates b ≠ a := fun z => by rw [z, T] at ts; exact absurd ts (by decide)
  have ne2 : zR κ atEndings b ≠ a := fun z => by rw [z, T] at te; exact absurd te (by decide)
  have g := fun f hf => at_E W T Tb h (f := f) hf
  obtain ⟨A1, A2, A3, A4, A5, A6⟩ := A
  have rs : zR τ atStates b = zR κ atStates b := h.r ne
  have re : zR τ atEndings b = zR κ atEndings b := h.r ne
  refine ⟨?_, ?_, A3, ?_, ?_, fun k hk => ?_⟩
  · unfold atM
    rw [(g atFirsts (by decide)).2.2, (g atTotals (by decide)).2.2, (g atGains (by decide)).2.2, (g atPlan (by decide)).2.2, (g atChooses (by decide)).2.2, (g atHopeless (by decide)).2.2]
    exact A1
  · unfold atL
    rw [(g atSorts (by decide)).2.2, (g atNumbers (by decide)).2.2, (g atWeights (by decide)).2.2]
    exact A2
  · rw [rs, h.i ns]; exact A4
  · rw [h.i ne, (g atNumbers (by decide)).2.2]; exact A5
  · unfold exK
    rw [rs, re, h.i ns, h.i ne2, h.i ne, (g atFirsts (by decide)).2.1, (g atTotals (by decide)).2.1, (g atChooses (by decide)).2.1, (g atSorts (by decide)).2.1, (g atNumbers (by decide)).2.1, (g atWeights (by decide)).2.1]
    exact A6 k hk
def wfO (n : Nat) (L : Int) (wf tg : Nat → Int32) : Prop := (∀ k, k ≤ n → 0 ≤ (wf k).toInt ∧ (wf k).toInt ≤ (wf n).toInt) ∧ (∀ k, k < n → (wf k).toInt ≤ (wf (k + 1)).toInt) ∧ (wf n).toInt ≤ L ∧ ∀ i : Nat, (i : Int) < (wf n).toInt → 0 ≤ (tg i).toInt ∧ (tg i).toInt < n
/-- a web in order -/
def weG (κ : zS) (w a : Nat) (p : Int32) (n : Nat) : Prop := (weM κ w ∧ weL κ w) ∧ ((zI κ weTotal w).toInt = (n : Int) ∧ n ≤ 1000) ∧ wfO n ((zN κ (zR κ weTargets w))) (zA κ (zR κ weFirsts w)) (zA κ (zR κ weTargets w)) ∧ bkB (lkD κ a p) (zA κ (zR κ atFirsts a)) n ((zN κ (zR κ weTargets w))) (zA κ (zR κ weBackFirsts w)) ∧ ∀ t, t < n → ∀ b : Nat, (zA κ (zR κ weBackFirsts w) t).toInt ≤ (b : Int) → (b : Int) < (zA κ (zR κ weBackFirsts w) (t + 1)).toInt → gdE (lkD κ a p) (zA κ (zR κ atFirsts a)) n t (zA κ (zR κ weSources w) b) (zA κ (zR κ weEdges w) b)
/-- on the way through the nexts -/
def wvI (κ τ : zS) (w a : Nat) (p : Int32) (n k : Nat) (x : Int) (q : Nat) (ln wt : Int32) : Prop := weE κ τ w ∧ ((zA τ (zR κ weBackFirsts w) 0).toInt = 0 ∧ (∀ t, t < n → (zA τ (zR κ weBackFirsts w) (t + 1)).toInt = cP (lkD κ a p) (zA κ (zR κ atFirsts a)) t k x ∧ (zA τ (zR κ weBackFirsts w) (t + 1)).toInt ≤ ln.toInt) ∧ sgI (fun s => (zA τ (zR κ weBackFirsts w) (s + 1)).toInt) n = ln.toInt) ∧ (0 ≤ ln.toInt ∧ (ln.toInt = 0 ∨ ln.toInt ≤ x)) ∧ ((∀ j, j < q → 0 ≤ (zA τ (zR κ weFirsts w) j).toInt ∧ (zA τ (zR κ weFirsts w) j).toInt ≤ ln.toInt) ∧ ∀ j, j + 1 < q → (zA τ (zR κ weFirsts w) j).toInt ≤ (zA τ (zR κ weFirsts w) (j + 1)).toInt) ∧ (∀ i : Nat, (i : Int) < ln.toInt → 0 ≤ (zA τ (zR κ weTargets w) i).toInt ∧ (zA τ (zR κ weTargets w) i).toInt < n) ∧ wt.toInt = cBq (zA τ (zR κ weOpen w)) q ∧ ∀ i : Nat, (i : Int) < wt.toInt → 0 ≤ (zA τ (zR κ weHeap w) i).toInt ∧ (zA τ (zR κ weHeap w) i).toInt < n
/-- no link -/
theorem wv_n {κ σ : zS} {w a n k q : Nat} {p ln wt : Int32} {x : Int} (H : wvI κ σ w a p n k x q ln wt) (h0 : 0 ≤ (zA κ (zR κ atFirsts a) k).toInt) (h1 : (zA κ (zR κ atFirsts a) k).toInt ≤ x) (z : ∀ t, t < n → lkD κ a p t k x.toNat = 0) : wvI κ σ w a p n k (x + 1) q ln wt := by
  obtain ⟨E, ⟨B0, B1, B2⟩, l, R⟩ := H
  refine ⟨E, ⟨B0, fun t ht => ⟨?_, (B1 t ht).2⟩, B2⟩, ⟨l.1, by omega⟩, R⟩
  rw [cP_s h0 h1, z t ht, t0i, (B1 t ht).1]
  omega
/-- a link -/
theorem wv_l {C : zC} {n0 w a n k q t : Nat} {κ σ κ1 κ2 : zS} {p ln wt X to i1 : Int32} (W : zW C n0 σ) (W1 : zW C n0 κ1) (T : zT σ w = 14) (H : wvI κ σ w a p n k X.toInt q ln wt) (hn : n ≤ 1000) (hl : ln.toInt < 20000) (h0 : 0 ≤ (zA κ (zR κ atFirsts a) k).toInt) (h1 : (zA κ (zR κ atFirsts a) k).toInt ≤ X.toInt) (ht : t < n) (et : to.toInt = (t : Int)) (ei : i1.toNatClampNeg = t + 1) (z : lkD κ a p t k X.toInt.toNat = 1) (zo : ∀ s, s < n → s ≠ t → lkD κ a p s k X.toInt.toNat = 0) (e1 : κ1 = ua σ (zR σ weTargets w) ln.toNatClampNeg to) (e2 : κ2 = ua κ1 (zR κ1 weBackFirsts w) i1.toNatClampNeg (zA κ1 (zR κ1 weBackFirsts w) i1.toNatClampNeg + 1)) : wvI κ κ2 w a p n k (X.toInt + 1) q (ln + 1) wt := by
  obtain ⟨E, ⟨B0, B1, B2⟩, l, ⟨f1, f2⟩, tg, ct, hp⟩ := H
  obtain ⟨u1, u2, u3, u4⟩ := we_u W T (f := weTargets) (by decide) e1
  obtain ⟨v1, v2, v3, v4⟩ := we_u W1 u4 (f := weBackFirsts) (by decide) e2
  have rs := E.2.1
  have r1 : zR κ1 = zR κ := u1.2.1.trans rs
  rw [rs] at u2 u3
  rw [r1, u3 weBackFirsts (by decide) (by decide), ei] at v2
  rw [r1] at v3
  have el := cn1 l.1 (by omega)
  have kl := cnk l.1
  have b1 := B1 t ht
  have bp : 0 ≤ (zA σ (zR κ weBackFirsts w) (t + 1)).toInt := by rw [b1.1]; exact cP_p (fun _ _ _ => lkD_01)
  have eb : (zA σ (zR κ weBackFirsts w) (t + 1) + 1).toInt = (zA σ (zR κ weBackFirsts w) (t + 1)).toInt + 1 := (cn1 bp (by omega)).2
  have g1 : zA κ2 (zR κ weTargets w) = upd (zA σ (zR κ weTargets w)) ln.toNatClampNeg to := (v3 weTargets (by decide) (by decide)).trans u2
  have g2 : zA κ2 (zR κ weFirsts w) = zA σ (zR κ weFirsts w) := (v3 weFirsts (by decide) (by decide)).trans (u3 weFirsts (by decide) (by decide))
  have g3 : zA κ2 (zR κ weOpen w) = zA σ (zR κ weOpen w) := (v3 weOpen (by decide) (by decide)).trans (u3 weOpen (by decide) (by decide))
  have g4 : zA κ2 (zR κ weHeap w) = zA σ (zR κ weHeap w) := (v3 weHeap (by decide) (by decide)).trans (u3 weHeap (by decide) (by decide))
  have ub : ∀ s, s ≠ t + 1 → zA κ2 (zR κ weBackFirsts w) s = zA σ (zR κ weBackFirsts w) s := fun s hs => by rw [v2]; exact if_neg hs
  have ut : zA κ2 (zR κ weBackFirsts w) (t + 1) = zA σ (zR κ weBackFirsts w) (t + 1) + 1 := by rw [v2]; exact if_pos rfl
  unfold wvI
  rw [g1, g2, g3, g4, el.2]
  refine ⟨(E.tr u1).tr v1, ⟨by rw [ub 0 (by omega)]; exact B0, fun s hs => ?_, ?_⟩, by omega, ⟨fun j hj => ⟨(f1 j hj).1, by have := (f1 j hj).2; omega⟩, f2⟩, fun i hi => ?_, ct, hp⟩
  · have c1 := B1 s hs
    rw [cP_s h0 h1]
    by_cases y : s = t
    · subst y
      rw [ut, eb, z, t1i]
      omega
    · rw [ub (s + 1) (by omega), zo s hs y, t0i]
      omega
  · rw [sgI_up (f := fun s => (zA σ (zR κ weBackFirsts w) (s + 1)).toInt) (j := t) (d := 1) ht (fun i _ hi => by
      show (zA κ2 (zR κ weBackFirsts w) (i + 1)).toInt = _
      rw [ub (i + 1) (by omega)]) (by
      show (zA κ2 (zR κ weBackFirsts w) (t + 1)).toInt = _
      rw [ut, eb]), B2]
  · by_cases y : i = ln.toNatClampNeg
    · have q9 : upd (zA σ (zR κ weTargets w)) ln.toNatClampNeg to i = to := if_pos y
      rw [q9]; omega
    · have q9 : upd (zA σ (zR κ weTargets w)) ln.toNatClampNeg to i = zA σ (zR κ weTargets w) i := if_neg y
      rw [q9]
      exact tg i (by omega)
theorem cBq_x {f g : Nat → Int32} {n : Nat} (h : ∀ i, i < n → f i = g i) : cBq f n = cBq g n := sgI_eq (fun i hi => by
  show (if f i = 0 then (0 : Int) else 1) = if g i = 0 then 0 else 1
  rw [h i hi])
/-- the state is open -/
theorem wv_o {C : zC} {n0 w a n k : Nat} {κ σ κ1 κ2 : zS} {p ln wt K : Int32} {x : Int} (W : zW C n0 σ) (W1 : zW C n0 κ1) (T : zT σ w = 14) (H : wvI κ σ w a p n k x (k + 1) ln wt) (hn : n ≤ 1000) (hk : k < n) (eK : K.toInt = (k : Int)) (h : zA σ (zR σ weOpen w) k = 0) (e1 : κ1 = ua σ (zR σ weOpen w) k 1) (e2 : κ2 = ua κ1 (zR κ1 weHeap w) wt.toNatClampNeg K) : (0 ≤ wt.toInt ∧ wt.toInt < n) ∧ wvI κ κ2 w a p n k x (k + 1) ln (wt + 1) := by
  obtain ⟨E, Bq, l, ff, tg, ct, hp⟩ := H
  obtain ⟨u1, u2, u3, u4⟩ := we_u W T (f := weOpen) (by decide) e1
  obtain ⟨v1, v2, v3, v4⟩ := we_u W1 u4 (f := weHeap) (by decide) e2
  have rs := E.2.1
  have r1 : zR κ1 = zR κ := u1.2.1.trans rs
  rw [rs] at u2 u3 h
  rw [r1, u3 weHeap (by decide) (by decide)] at v2
  rw [r1] at v3
  have g1 : zA κ2 (zR κ weTargets w) = zA σ (zR κ weTargets w) := (v3 weTargets (by decide) (by decide)).trans (u3 weTargets (by decide) (by decide))
  have g2 : zA κ2 (zR κ weFirsts w) = zA σ (zR κ weFirsts w) := (v3 weFirsts (by decide) (by decide)).trans (u3 weFirsts (by decide) (by decide))
  have g3 : zA κ2 (zR κ weBackFirsts w) = zA σ (zR κ weBackFirsts w) := (v3 weBackFirsts (by decide) (by decide)).trans (u3 weBackFirsts (by decide) (by decide))
  have g4 : zA κ2 (zR κ weOpen w) = upd (zA σ (zR κ weOpen w)) k 1 := (v3 weOpen (by decide) (by decide)).trans u2
  have ck : cBq (zA σ (zR κ weOpen w)) (k + 1) = cBq (zA σ (zR κ weOpen w)) k + 0 := by
    show cBq (zA σ (zR κ weOpen w)) k + (if zA σ (zR κ weOpen w) k = 0 then 0 else 1) = _
    rw [if_pos h]
  have cl := cBq_le (f := zA σ (zR κ weOpen w)) (n := k)
  have c2 : cBq (zA κ2 (zR κ weOpen w)) (k + 1) = cBq (zA σ (zR κ weOpen w)) (k + 1) + 1 := by
    rw [g4]; exact cBq_up (Nat.lt_succ_self k) h (by decide)
  have ew := cn1 (x := wt) (by omega) (by omega)
  have kw := cnk (x := wt) (by omega)
  refine ⟨by omega, ?_⟩
  unfold wvI
  rw [g1, g2, g3, ew.2, c2]
  refine ⟨(E.tr u1).tr v1, Bq, l, ff, tg, by omega, fun i hi => ?_⟩
  rw [v2]
  by_cases y : i = wt.toNatClampNeg
  · have q9 : upd (zA σ (zR κ weHeap w)) wt.toNatClampNeg K i = K := if_pos y
    rw [q9]; omega
  · have q9 : upd (zA σ (zR κ weHeap w)) wt.toNatClampNeg K i = zA σ (zR κ weHeap w) i := if_neg y
    rw [q9]
    exact hp i (by omega)
/-- a state begins -/
theorem wv_b {C : zC} {n0 w a n k : Nat} {κ σ κ1 κ2 : zS} {p ln wt : Int32} {x : Int} (W : zW C n0 σ) (W1 : zW C n0 κ1) (T : zT σ w = 14) (H : wvI κ σ w a p n k x k ln wt) (e1 : κ1 = ua σ (zR σ weFirsts w) k ln) (e2 : κ2 = ua κ1 (zR κ1 weOpen w) k 0) : wvI κ κ2 w a p n k x (k + 1) ln wt := by
  obtain ⟨E, Bq, l, ⟨f1, f2⟩, tg, ct, hp⟩ := H
  obtain ⟨u1, u2, u3, u4⟩ := we_u W T (f := weFirsts) (by decide) e1
  obtain ⟨v1, v2, v3, v4⟩ := we_u W1 u4 (f := weOpen) (by decide) e2
  have rs := E.2.1
  have r1 : zR κ1 = zR κ := u1.2.1.trans rs
  rw [rs] at u2 u3
  rw [r1, u3 weOpen (by decide) (by decide)] at v2
  rw [r1] at v3
  have g1 : zA κ2 (zR κ weTargets w) = zA σ (zR κ weTargets w) := (v3 weTargets (by decide) (by decide)).trans (u3 weTargets (by decide) (by decide))
  have g2 : zA κ2 (zR κ weFirsts w) = upd (zA σ (zR κ weFirsts w)) k ln := (v3 weFirsts (by decide) (by decide)).trans u2
  have g3 : zA κ2 (zR κ weBackFirsts w) = zA σ (zR κ weBackFirsts w) := (v3 weBackFirsts (by decide) (by decide)).trans (u3 weBackFirsts (by decide) (by decide))
  have g4 : zA κ2 (zR κ weHeap w) = zA σ (zR κ weHeap w) := (v3 weHeap (by decide) (by decide)).trans (u3 weHeap (by decide) (by decide))
  have c2 : cBq (zA κ2 (zR κ weOpen w)) (k + 1) = cBq (zA σ (zR κ weOpen w)) k := by
    show cBq (zA κ2 (zR κ weOpen w)) k + (if zA κ2 (zR κ weOpen w) k = 0 then 0 else 1) = _
    have z : zA κ2 (zR κ weOpen w) k = 0 := by rw [v2]; exact if_pos rfl
    rw [if_pos z, cBq_x (g := zA σ (zR κ weOpen w)) (fun i hi => by rw [v2]; exact if_neg (Nat.ne_of_lt hi))]
    omega
  unfold wvI
  rw [g1, g3, g4, c2]
  have uk : zA κ2 (zR κ weFirsts w) k = ln := by rw [g2]; exact if_pos rfl
  have uj : ∀ j, j ≠ k → zA κ2 (zR κ weFirsts w) j = zA σ (zR κ weFirsts w) j := fun j hj => by rw [g2]; exact if_neg hj
  refine ⟨(E.tr u1).tr v1, Bq, l, ⟨fun j hj => ?_, fun j hj => ?_⟩, tg, ct, hp⟩
  · by_cases y : j = k
    · rw [y, uk]; exact ⟨l.1, Int.le_refl _⟩
    · rw [uj j y]; exact f1 j (by omega)
  · rw [uj j (by omega)]
    by_cases y : j + 1 = k
    · rw [y, uk]; exact (f1 j (by omega)).2
    · rw [uj (j + 1) y]; exact f2 j (by omega)
/-- and ends -/
theorem wv_e {κ σ : zS} {w a n k q : Nat} {p ln wt : Int32} (H : wvI κ σ w a p n k (zA κ (zR κ atFirsts a) (k + 1)).toInt q ln wt) : wvI κ σ w a p n (k + 1) (zA κ (zR κ atFirsts a) (k + 1)).toInt q ln wt := by
  obtain ⟨E, ⟨B0, B1, B2⟩, R⟩ := H
  refine ⟨E, ⟨B0, fun t ht => ⟨?_, (B1 t ht).2⟩, B2⟩, R⟩
  rw [cP_0, (B1 t ht).1, cP_e]
theorem sgI_z {f : Nat → Int} : ∀ {n : Nat}, (∀ i, i < n → f i = 0) → sgI f n = 0
  | 0, _ => rfl
  | n + 1, h => by
    show sgI f n + f n = 0
    rw [sgI_z (fun i hi => h i (Nat.lt_succ_of_lt hi)), h n (Nat.lt_succ_self n)]
    rfl
theorem We_weave_c {C : zC} {n0 : Nat} {a0 : Nat} {a1 : Nat} {a2 : Int32} {κ : zS} {Q : zS → Prop} (W : zW C n0 κ) (Ta0 : zT κ a0 = 14) (Ta1 : zT κ a1 = 3) (m9 : Nat) (hp : (weU κ a0 ∨ weM κ a0) ∧ weL κ a0 ∧ atW κ a1 m9) (h : ∀ (κ' : zS), (zF (objF a0) κ κ' ∧ weG κ' a0 a1 a2 m9 ∧ atW κ' a1 m9) → Q κ') : zRun C 2 mWe_weave [.ref a0, .ref a1, .int a2] κ (oV Q noX) := by
  refine We_weave_run W Ta0 Ta1 ?_
  replace W := W.lo (Nat.le_trans W.1.2.1 W.1.2.2) (Nat.le_refl (zn κ))
  unfold w_We_weave_0
  obtain ⟨U0, L0, A0⟩ := hp
  have hj61 : ∀ (l0 : Nat) (l1 : Nat) (l2 : Int32) (τ : zS), zW C (zn κ) τ → zT τ l0 = 14 → zT τ l1 = 3 → (a0 = l0 ∧ a1 = l1 ∧ a2 = l2 ∧ (weM τ a0 ∧ weL τ a0) ∧ zF (objF a0) κ τ ∧ (zI τ weTotal a0).toInt = (m9 : Int) ∧ (zI κ atNexts a1).toInt ≤ (zN τ (zR τ weTargets a0))) → w_We_weave_61 C (zn κ) Q  l0 l1 l2 τ := by
    rintro _ _ _ τ61 W61 T61_0 T61_1 ⟨rfl, rfl, rfl, j61⟩
    unfold w_We_weave_61
    intro T1
    refine Ar_fill_c W61 T1  (fun κ_2 q3 => ?_)
    have Zf : zF (objF a0) τ61 κ_2 := by rw [q3]; exact zF_uf (by rw [weRf_o W61 T61_0 (by decide)])
    have R2 : zR κ_2 = zR τ61 := by rw [q3]; rfl
    have N2 : zN κ_2 = zN τ61 := by rw [q3]; rfl
    have I2 : zI κ_2 = zI τ61 := by rw [q3]; rfl
    have T2 : zT κ_2 a0 = 14 := Zf.t T61_0 (by decide)
    have T2b : zT κ_2 a1 = 3 := Zf.t T61_1 (by decide)
    have ZZ := j61.2.1.tr Zf
    have M2 : weM κ_2 a0 := by unfold weM; rw [R2, N2]; exact j61.1.1
    have L2 : weL κ_2 a0 := by unfold weL; rw [R2, N2]; exact j61.1.2
    have t2 : (zI κ_2 weTotal a0).toInt = (m9 : Int) := by rw [I2]; exact j61.2.2.1
    have A2 : atW κ_2 a1 m9 := atW_E W Ta0 Ta1 ZZ A0
    have nx2 : (zI κ_2 atNexts a1).toInt ≤ zN κ_2 (zR κ_2 weTargets a0) := by
      have ne : a1 ≠ a0 := fun z => by rw [z, Ta0] at Ta1; exact absurd Ta1 (by decide)
      rw [ZZ.i ne, N2, R2]
      exact j61.2.2.2
    have b2 : ∀ t, t ≤ 1000 → zA κ_2 (zR κ_2 weBackFirsts a0) t = 0 := fun t ht => by
      rw [R2, q3]
      have l := j61.1.1.2.1
      refine (congrFun (if_pos rfl) t).trans ?_
      exact if_pos ⟨Nat.zero_le _, by omega⟩
    have A9 := A2
    obtain ⟨AM, AL, n1, nS, nb9, EK⟩ := A2
    have lT := L2.2.2
    have lS := L2.1.1
    have m1 := M2.1
    have m2 := M2.2.1
    have m3 := M2.2.2.1
    have m11 := M2.2.2.2.2.2.2.2.2.2.2
    have al := AL.1.1
    have al2 := AL.2.2
    intro W4
    intro M5
    unfold w_We_weave_77
    refine ⟨fun n l0 l1 l2 l3 l4 l5 τ => n = (1000 - l5.toInt).toNat ∧ (a0 = l0 ∧ a1 = l1 ∧ a2 = l2 ∧ (0 ≤ l5.toInt ∧ l5.toInt ≤ m9) ∧ wvI κ_2 τ a0 a1 a2 m9 l5.toNatClampNeg (zA κ_2 (zR κ_2 atFirsts a1) l5.toNatClampNeg).toInt l5.toNatClampNeg l3 l4), ⟨_, rfl, ?_⟩, ?_⟩
    · refine ⟨rfl, rfl, rfl, ⟨by decide, by rw [t0i]; omega⟩, weE.rf, ⟨by rw [b2 0 (by omega)]; rfl, fun t ht => ?_, ?_⟩, ⟨by decide, Or.inl rfl⟩, ⟨fun j hj => absurd hj (Nat.not_lt_zero _), fun j hj => absurd hj (Nat.not_lt_zero _)⟩, fun i hi => ?_, rfl, fun i hi => ?_⟩
      · rw [b2 (t + 1) (by omega)]
        refine ⟨?_, Int.le_refl _⟩
        show _ = cP _ _ t 0 (zA κ_2 (zR κ_2 atFirsts a1) 0).toInt
        rw [cP_0]
        rfl
      · refine sgI_z (fun i hi => ?_)
        rw [b2 (i + 1) (by omega)]
        rfl
      · rw [t0i] at hi; omega
      · rw [t0i] at hi; omega
    rintro n77 _ _ _ x77_3 x77_4 x77_5 κ77 W77 T77_0 T77_1 ⟨hn77, rfl, rfl, rfl, i77⟩
    obtain ⟨k77, H77⟩ := i77
    have rs := H77.1.2.1
    have ns := H77.1.2.2.2
    have is := H77.1.2.2.1
    have kn := cnk k77.1
    have l77 := H77.2.2.1
    refine ⟨fun c6 => ?_, fun c6 => ?_⟩
    · skip
      refine ⟨?_, ?_⟩
      · rw [rs, ns, is, inb_iff]; omega  -- b2
      intro κ_7 hκ_7
      intro W8
      intro T9
      intro T10
      rw [lei, is] at c6
      have kk : x77_5.toNatClampNeg = m9 := by omega
      rw [kk] at H77
      have U := we_u W77 T77_0 (f := weFirsts) (by decide) hκ_7
      have E7 := H77.1.tr U.1
      have M7 := weM_E E7 M2
      have L7 := weL_E E7 L2
      have A7 := atW_E W4 T2 T2b E7.1 A9
      have lk7 := lkD_E (p := a2) W4 T2 T2b E7.1
      have f7 := (at_E W4 T2 T2b E7.1 (f := atFirsts) (by decide)).2.1
      have r7 := E7.2.1
      have u3 := U.2.2.1
      have u2 := U.2.1
      rw [rs] at u3
      have tk : (zI κ_2 weTotal a0).toNatClampNeg = m9 := by
        have := cnk (x := zI κ_2 weTotal a0) (by omega)
        omega
      rw [rs, is, tk] at u2
      have b7 : zA κ_7 (zR κ_2 weBackFirsts a0) = zA κ77 (zR κ_2 weBackFirsts a0) := u3 weBackFirsts (by decide) (by decide)
      obtain ⟨-, ⟨B0, B1, B2⟩, ll, ⟨f1, f2⟩, tg, ct, hh⟩ := H77
      have lnb : x77_3.toInt ≤ zN κ_2 (zR κ_2 weTargets a0) := by
        by_cases z : m9 = 0
        · have y : x77_3.toInt = 0 := by rw [← B2, z]; rfl
          omega
        · have y := (EK (m9 - 1) (by omega)).1.2.2
          have e : m9 - 1 + 1 = m9 := by omega
          rw [e] at y
          omega
      refine We_weaveBack_c W8 T9 T10 m9 ?_ (fun κ_11 q12 => ?_)
      · refine ⟨⟨M7, L7⟩, by rw [E7.2.2.1]; exact t2, A7, ?_, fun t ht => ?_, ?_⟩
        · rw [r7, b7]; exact B0
        · rw [lk7, f7, r7, b7, (B1 t ht).1, cP_0]
        · rw [r7, b7, E7.2.2.2, B2]; exact lnb
      obtain ⟨E11, R11, B11, C11, D11⟩ := q12
      have r11 : zR κ_11 = zR κ_7 := E11.2.1
      have d01q : d01 (lkD κ_7 a1 a2) := fun _ _ _ => lkD_01
      have C12 : ∀ t, t < m9 → (zA κ_11 (zR κ_7 weCursor a0) t).toInt = (zA κ_11 (zR κ_7 weBackFirsts a0) (t + 1)).toInt := fun t ht => by
        rw [C11 t ht, cP_0, B11.2.1 t ht]
      intro W13
      intro M14
      intro T15
      refine We_reach_c W13 T15 m9 ?_ (fun κ_16 q17 => ?_)
      · refine ⟨⟨weM_E E11 M7, weL_E E11 L7⟩, ⟨by rw [E11.2.2.1, E7.2.2.1]; exact t2, n1⟩, ?_, fun i hi => ?_, fun t ht => ⟨⟨?_, ?_⟩, fun b g1 g2 => ?_⟩⟩
        · rw [r11, R11 weOpen (by decide) (by decide), r7, u3 weOpen (by decide) (by decide)]; exact ct
        · rw [r11, R11 weHeap (by decide) (by decide), r7, u3 weHeap (by decide) (by decide)]; exact hh i hi
        · rw [r11]
          have y := bkB_m d01q B11 (s := 0) (t := t) (Nat.zero_le _) (by omega)
          have y0 := B11.1
          omega
        · rw [r11, E11.2.2.2]
          have y := bkB_m d01q B11 (s := t + 1) (t := m9) (by omega) (Nat.le_refl _)
          have y0 := B11.2.2
          omega
        · rw [r11] at g1 g2
          rw [r11]
          have y := D11 t ht b g1 (by rw [C12 t ht]; exact g2)
          exact y.1
      intro W18
      intro M19
      refine h _ ?_
      · have E16 := q17.1
        have R16 := q17.2
        have EE := E11.tr E16
        have r16 : zR κ_16 = zR κ_7 := EE.2.1
        have row : ∀ f, f ∈ weRf → f ∉ rcL → zA κ_16 (zR κ_16 f a0) = zA κ_11 (zR κ_7 f a0) := fun f h1 h2 => by
          rw [r16, ← r11]
          exact R16 f h1 h2
        have k1 : zA κ_16 (zR κ_16 weFirsts a0) = upd (zA κ77 (zR κ_2 weFirsts a0)) m9 x77_3 := by rw [row weFirsts (by decide) (by decide), R11 weFirsts (by decide) (by decide), r7, u2]
        have k2 : zA κ_16 (zR κ_16 weTargets a0) = zA κ77 (zR κ_2 weTargets a0) := by rw [row weTargets (by decide) (by decide), R11 weTargets (by decide) (by decide), r7, u3 weTargets (by decide) (by decide)]
        have lkE := lkD_E (p := a2) W8 T9 T10 EE.1
        have fE := (at_E W8 T9 T10 EE.1 (f := atFirsts) (by decide)).2.1
        have nE : zN κ_16 (zR κ_16 weTargets a0) = zN κ_7 (zR κ_7 weTargets a0) := by rw [r16, EE.2.2.2]
        have n7 : zN κ_7 (zR κ_7 weTargets a0) = zN κ_2 (zR κ_2 weTargets a0) := by rw [r7, E7.2.2.2]
        have um : upd (zA κ77 (zR κ_2 weFirsts a0)) m9 x77_3 m9 = x77_3 := if_pos rfl
        have uj : ∀ j, j < m9 → upd (zA κ77 (zR κ_2 weFirsts a0)) m9 x77_3 j = zA κ77 (zR κ_2 weFirsts a0) j := fun j hj => if_neg (Nat.ne_of_lt hj)
        refine ⟨(ZZ.tr E7.1).tr EE.1, ⟨⟨weM_E EE M7, weL_E EE L7⟩, ⟨by rw [EE.2.2.1, E7.2.2.1]; exact t2, n1⟩, ?_, ?_, fun t ht b g1 g2 => ?_⟩, atW_E W8 T9 T10 EE.1 A7⟩
        · rw [k1, k2, nE, n7]
          unfold wfO
          rw [um]
          refine ⟨fun k hk => ?_, fun k hk => ?_, lnb, tg⟩
          · by_cases z : k = m9
            · rw [z, um]; exact ⟨ll.1, Int.le_refl _⟩
            · rw [uj k (by omega)]; exact f1 k (by omega)
          · rw [uj k hk]
            by_cases z : k + 1 = m9
            · rw [z, um]; exact (f1 k hk).2
            · rw [uj (k + 1) (by omega)]; exact f2 k (by omega)
        · rw [lkE, fE, nE, row weBackFirsts (by decide) (by decide)]; exact B11
        · rw [row weBackFirsts (by decide) (by decide)] at g1 g2
          rw [lkE, fE, row weSources (by decide) (by decide), row weEdges (by decide) (by decide)]
          exact D11 t ht b g1 (by rw [C12 t ht]; exact g2)
    · skip
      rw [lei, is] at c6
      have lt77 : x77_5.toNatClampNeg < m9 := by omega
      obtain ⟨X1, X2, X3, X4, X5⟩ := EK x77_5.toNatClampNeg lt77
      refine ⟨?_, ?_⟩
      · rw [rs, ns, inb_iff]; omega  -- b6
      intro κ_20 hκ_20
      intro W21
      have U := we_u W77 T77_0 (f := weFirsts) (by decide) hκ_20
      refine ⟨?_, ?_⟩
      · rw [U.1.2.1, U.1.2.2.2, rs, ns, inb_iff]; omega  -- b7
      intro κ_22 hκ_22
      intro W23
      have nv0 : vp_nar .boolean (0 : Int32) = 0 := rfl
      rw [nv0] at hκ_22
      have V := we_u W21 U.2.2.2 (f := weOpen) (by decide) hκ_22
      have E22 := (H77.1.tr U.1).tr V.1
      have g22 := at_E W4 T2 T2b E22.1 (f := atFirsts) (by decide)
      refine ⟨?_, ?_⟩
      · have l1 := AM.1
        rw [g22.2.2, inb_iff]; omega
      intro x24 hx24
      unfold w_We_weave_111
      refine ⟨fun n l0 l1 l2 l3 l4 l5 l6 τ => n = (20000 - l6.toInt).toNat ∧ (a0 = l0 ∧ a1 = l1 ∧ a2 = l2 ∧ x77_5 = l5 ∧ ((zA κ_2 (zR κ_2 atFirsts a1) x77_5.toNatClampNeg).toInt ≤ l6.toInt ∧ l6.toInt ≤ (zA κ_2 (zR κ_2 atFirsts a1) (x77_5.toNatClampNeg + 1)).toInt) ∧ wvI κ_2 τ a0 a1 a2 m9 x77_5.toNatClampNeg l6.toInt (x77_5.toNatClampNeg + 1) l3 l4), ⟨_, rfl, ?_⟩, ?_⟩
      · rw [hx24, g22.2.1]
        exact ⟨rfl, rfl, rfl, rfl, ⟨Int.le_refl _, X1.2.1⟩, wv_b W77 W21 T77_0 H77 hκ_20 hκ_22⟩
      rintro n111 _ _ _ x111_3 x111_4 x111_5 x111_6 κ111 W111 T111_0 T111_1 ⟨hn111, rfl, rfl, rfl, i111⟩
      obtain ⟨rfl, x111, H111⟩ := i111
      have rt := H111.1.2.1
      have nt := H111.1.2.2.2
      have Z111 := H111.1.1
      have gF := at_E W4 T2 T2b Z111 (f := atFirsts) (by decide)
      have gS := at_E W4 T2 T2b Z111 (f := atSorts) (by decide)
      have gN := at_E W4 T2 T2b Z111 (f := atNumbers) (by decide)
      have kx := cnk (x := x111_6) (by omega)
      have kx2 : x111_6.toInt.toNat = x111_6.toNatClampNeg := rfl
      have l111 := H111.2.2.1
      have e6 := cn1 (x := x111_6) (by omega) (by omega)
      have en := cn1 k77.1 (by omega)
      have hj143 : ∀ (l0 : Nat) (l1 : Nat) (l2 : Int32) (l3 : Int32) (l4 : Int32) (l5 : Int32) (l6 : Int32) (τ : zS), zW C (zn κ) τ → zT τ l0 = 14 → zT τ l1 = 3 → (a0 = l0 ∧ a1 = l1 ∧ a2 = l2 ∧ κ111 = τ ∧ x111_3 = l3 ∧ x111_4 = l4 ∧ x77_5 = l5 ∧ x111_6 = l6 ∧ x111_6.toInt < (zA κ_2 (zR κ_2 atFirsts a1) (x77_5.toNatClampNeg + 1)).toInt ∧ (a2 = 0 ∨ zA κ_2 (zR κ_2 atChooses a1) x77_5.toNatClampNeg = 0 ∨ Int32.ofNat x111_6.toNatClampNeg = zA κ_2 (zR κ_2 atFirsts a1) x77_5.toNatClampNeg + zA κ_2 (zR κ_2 atPlan a1) x77_5.toNatClampNeg)) → w_We_weave_143 C (zn κ) Q (fun (l0' : Nat) (l1' : Nat) (l2' : Int32) (l3' : Int32) (l4' : Int32) (l5' : Int32) (τ : zS) => ∃ k < n77, (fun (n : Nat) (l0 : Nat) (l1 : Nat) (l2 : Int32) (l3 : Int32) (l4 : Int32) (l5 : Int32) (τ : zS) => n = (1000 - l5.toInt).toNat ∧ (a0 = l0 ∧ a1 = l1 ∧ a2 = l2 ∧ (0 ≤ l5.toInt ∧ l5.toInt ≤ m9) ∧ wvI κ_2 τ a0 a1 a2 m9 l5.toNatClampNeg (zA κ_2 (zR κ_2 atFirsts a1) l5.toNatClampNeg).toInt l5.toNatClampNeg l3 l4)) k l0' l1' l2' l3' l4' l5' τ) (fun (l0' : Nat) (l1' : Nat) (l2' : Int32) (l3' : Int32) (l4' : Int32) (l5' : Int32) (l6' : Int32) (τ : zS) => ∃ k < n111, (fun (n : Nat) (l0 : Nat) (l1 : Nat) (l2 : Int32) (l3 : Int32) (l4 : Int32) (l5 : Int32) (l6 : Int32) (τ : zS) => n = (20000 - l6.toInt).toNat ∧ (a0 = l0 ∧ a1 = l1 ∧ a2 = l2 ∧ x77_5 = l5 ∧ ((zA κ_2 (zR κ_2 atFirsts a1) x77_5.toNatClampNeg).toInt ≤ l6.toInt ∧ l6.toInt ≤ (zA κ_2 (zR κ_2 atFirsts a1) (x77_5.toNatClampNeg + 1)).toInt) ∧ wvI κ_2 τ a0 a1 a2 m9 x77_5.toNatClampNeg l6.toInt (x77_5.toNatClampNeg + 1) l3 l4)) k l0' l1' l2' l3' l4' l5' l6' τ) l0 l1 l2 l3 l4 l5 l6 τ := by
        rintro _ _ _ y143_3 y143_4 y143_5 y143_6 τ143 W143 T143_0 T143_1 ⟨rfl, rfl, rfl, j143⟩
        unfold w_We_weave_143
        obtain ⟨rfl, rfl, rfl, rfl, rfl, c40, lk⟩ := j143
        refine ⟨?_, ?_⟩
        · rw [gS.2.2, inb_iff]; omega  -- b10
        refine ⟨fun c25 => ?_, fun c25 => ?_⟩
        · skip
          refine ⟨?_, ?_⟩
          · rw [rt, nt, inb_iff]; omega  -- b11
          refine ⟨fun c26 => ?_, fun c26 => ?_⟩
          · skip
            intro x27 hx27
            refine ⟨_, ?_, rfl, ?_⟩
            · rw [hn111, hx27, e6.2]; omega  -- d12
            · rw [gS.2.1] at c25
              rw [hx27, e6.2]
              exact ⟨rfl, rfl, rfl, rfl, by omega, wv_n H111 X1.1 x111.1 (fun t _ => if_neg (fun z => c25 z.1.1))⟩
          · skip
            refine ⟨?_, ?_⟩
            · rw [rt, nt, inb_iff]; omega  -- b14
            intro κ_28 hκ_28
            intro W29
            have nv1 : vp_nar .boolean (1 : Int32) = 1 := rfl
            rw [nv1] at hκ_28
            have U9 := we_u W111 T111_0 (f := weOpen) (by decide) hκ_28
            have wb := (wv_o (κ2 := ua κ_28 (zR κ_28 weHeap a0) x111_4.toNatClampNeg x77_5) W111 W29 T111_0 H111 n1 lt77 (by omega) c26 hκ_28 rfl).1
            refine ⟨?_, ?_⟩
            · rw [U9.1.2.1, U9.1.2.2.2, rt, nt, inb_iff]; omega  -- b15
            intro κ_30 hκ_30
            intro W31
            intro x32 hx32
            intro x33 hx33
            refine ⟨_, ?_, rfl, ?_⟩
            · rw [hn111, hx33, e6.2]; omega  -- d16
            · rw [gS.2.1] at c25
              rw [hx32, hx33, e6.2]
              exact ⟨rfl, rfl, rfl, rfl, by omega, wv_n (wv_o W111 W29 T111_0 H111 n1 lt77 (by omega) c26 hκ_28 hκ_30).2 X1.1 x111.1 (fun t _ => if_neg (fun z => c25 z.1.1))⟩
        · skip
          rw [gS.2.1] at c25
          have nx := (X2 x111_6.toNatClampNeg (by omega) (by omega)).1 c25
          have et := cn1 nx.1 (by omega)
          have kt := cnk nx.1
          refine ⟨?_, ?_⟩
          · rw [gN.2.2, inb_iff]; omega  -- b18
          refine ⟨?_, ?_⟩
          · have y := L2.2.1
            rw [rt, nt, inb_iff]; omega
          intro κ_34 hκ_34
          intro W35
          intro x36 hx36
          rw [gN.2.1] at hκ_34
          have U34 := we_u W111 T111_0 (f := weTargets) (by decide) hκ_34
          have g34 := at_E W4 T2 T2b (Z111.tr U34.1.1) (f := atNumbers) (by decide)
          refine ⟨?_, ?_⟩
          · rw [g34.2.2, inb_iff]; omega  -- b20
          refine ⟨?_, ?_⟩
          · rw [g34.2.1, U34.1.2.1, U34.1.2.2.2, rt, nt, inb_iff, et.2]; omega  -- b21
          refine ⟨?_, ?_⟩
          · rw [g34.2.1, U34.1.2.1, U34.1.2.2.2, rt, nt, inb_iff, et.2]; omega  -- b22
          intro κ_37 hκ_37
          intro W38
          intro x39 hx39
          refine ⟨_, ?_, rfl, ?_⟩
          · rw [hn111, hx39, e6.2]; omega  -- d23
          · rw [g34.2.1] at hκ_37
            rw [hx36, hx39, e6.2]
            refine ⟨rfl, rfl, rfl, rfl, by omega, wv_l (t := (zA κ_2 (zR κ_2 atNumbers a1) x111_6.toNatClampNeg).toNatClampNeg) W111 W35 T111_0 H111 n1 (by omega) X1.1 x111.1 (by omega) kt.symm et.1 (if_pos ⟨⟨c25, lk⟩, kt.symm⟩) (fun s _ hs => if_neg (fun z => ?_)) hκ_34 hκ_37⟩
            have y := z.2
            rw [kx2] at y
            omega
      refine ⟨?_, ?_⟩
      · have l1 := AM.1
        rw [gF.2.2, inb_iff, en.2]; omega
      refine ⟨fun c40 => ?_, fun c40 => ?_⟩
      · skip
        intro x41 hx41
        refine ⟨_, ?_, rfl, ?_⟩
        · rw [hn77, hx41, en.2]; omega  -- d26
        · rw [lei, en.1, gF.2.1] at c40
          have e9 : x111_6.toInt = (zA κ_2 (zR κ_2 atFirsts a1) (x77_5.toNatClampNeg + 1)).toInt := by omega
          rw [e9] at H111
          rw [hx41, en.1, en.2]
          exact ⟨rfl, rfl, rfl, by omega, wv_e H111⟩
      · skip
        rw [lei, en.1, gF.2.1] at c40
        refine ⟨fun c42 => ?_, fun c42 => ?_⟩
        · skip
          refine hj143 _ _ _ _ _ _ _ _ W111 ?_ ?_ ?_
          · exact T111_0  -- t28
          · exact T111_1  -- t29
          · exact ⟨rfl, rfl, rfl, rfl, rfl, rfl, rfl, rfl, by omega, Or.inl c42⟩  -- k30
        · skip
          intro T43
          refine At_isTaken_c W111 T43  ?_ (fun r44 q46 => ?_)
          · exact ⟨(atW_E W4 T2 T2b Z111 A9).1, k77.1, by omega⟩  -- p31
          have gC := at_E W4 T2 T2b Z111 (f := atChooses) (by decide)
          have gP := at_E W4 T2 T2b Z111 (f := atPlan) (by decide)
          rw [gC.2.1, gF.2.1, gP.2.1] at q46
          have eo : Int32.ofNat x111_6.toNatClampNeg = x111_6 := Int32.toInt_inj.mp (by rw [ofn_i (by omega)]; omega)
          intro W47
          intro M48
          refine ⟨fun c49 => ?_, fun c49 => ?_⟩
          · skip
            refine hj143 _ _ _ _ _ _ _ _ W47 ?_ ?_ ?_
            · exact T111_0  -- t32
            · exact T111_1  -- t33
            · refine ⟨rfl, rfl, rfl, rfl, rfl, rfl, rfl, rfl, by omega, Or.inr ?_⟩
              rcases q46.2.mp c49 with y | y
              · exact Or.inl y
              · exact Or.inr (by rw [eo]; exact y)
          · skip
            intro x50 hx50
            refine ⟨_, ?_, rfl, ?_⟩
            · rw [hn111, hx50, e6.2]; omega  -- d35
            · rw [hx50, e6.2]
              refine ⟨rfl, rfl, rfl, rfl, by omega, wv_n H111 X1.1 x111.1 (fun t _ => if_neg (fun z => ?_))⟩
              rcases z.1.2 with y | y | y
              · exact c42 y
              · exact q46.2.mpr (Or.inl y) c49
              · rw [kx2, eo] at y
                exact q46.2.mpr (Or.inr y) c49
  intro T51
  refine We_makeRows_c W T51  ?_ (fun κ_52 q53 => ?_)
  · exact ⟨U0, L0⟩  -- p37
  intro W54
  intro M55
  intro κ_56 hκ_56
  intro W57
  have ne : a1 ≠ a0 := fun z => by rw [z, Ta0] at Ta1; exact absurd Ta1 (by decide)
  have Z56 : zF (objF a0) κ κ_56 := q53.1.tr (by rw [hκ_56]; exact zF_ui rfl)
  have R56 : zR κ_56 = zR κ_52 := by rw [hκ_56]; rfl
  have N56 : zN κ_56 = zN κ_52 := by rw [hκ_56]; rfl
  have M56 : weM κ_56 a0 := by unfold weM; rw [R56, N56]; exact q53.2.2.1
  have L56 : weL κ_56 a0 := by unfold weL; rw [R56, N56]; exact q53.2.2.2
  have rS : zR κ_52 atStates a1 = zR κ atStates a1 := q53.1.r ne
  have t56 : (zI κ_56 weTotal a0).toInt = (m9 : Int) := by
    have e : zI κ_56 weTotal a0 = zI κ_52 hoTotal (zR κ_52 atStates a1) := by rw [hκ_56]; exact if_pos ⟨rfl, rfl⟩
    rw [e, rS, q53.2.1]
    exact A0.2.2.2.1
  have T56 : zT κ_56 a0 = 14 := Z56.t Ta0 (by decide)
  have T56b : zT κ_56 a1 = 3 := Z56.t Ta1 (by decide)
  have oN := W57.n (ty_weTargets W57 T56)
  have a5 := A0.2.2.2.2.1
  have a2l := A0.2.1.2.2
  have l64 := L56.2.1
  refine ⟨fun c58 => ?_, fun c58 => ?_⟩
  · skip
    refine hj61 _ _ _ _ W57 ?_ ?_ ?_
    · exact T56  -- t38
    · exact T56b  -- t39
    · rw [lei, ofn_i oN, Z56.i ne] at c58
      exact ⟨rfl, rfl, rfl, ⟨M56, L56⟩, Z56, t56, c58⟩
  · skip
    intro x59 hx59
    rw [lei, ofn_i oN, Z56.i ne] at c58
    have e20 : (20000 : Int32).toInt = 20000 := rfl
    have e2 : (zI κ_56 atNexts a1 * 2).toInt = (zI κ atNexts a1).toInt * 2 := by rw [Z56.i ne, mul_i (by rw [t2i]; omega) (by rw [t2i]; omega), t2i]
    have xb : x59.toInt = 20000 ∨ (x59.toInt = 2 * (zI κ atNexts a1).toInt ∧ x59.toInt ≤ 20000) := by
      rw [hx59]
      split
      · exact Or.inl e20
      · rename_i z
        rw [lti, e20, e2] at z
        rw [e2]; omega
    have kx := cnk (x := x59) (by omega)
    have xn : x59.toNatClampNeg = 20000 ∨ (2 * zN κ_56 (zR κ_56 weTargets a0) ≤ x59.toNatClampNeg ∧ x59.toNatClampNeg < 20000) := by omega
    have lE1 := L56.1.1
    have lE2 := L56.1.2
    refine ⟨?_, ?_⟩
    · exact ⟨by rw [lei, t0i]; omega, by omega⟩  -- b41
    intro κ_60 hκ_60
    intro W61
    refine ⟨?_, ?_⟩
    · rw [hκ_60]; exact if_pos rfl  -- b42
    intro κ_62 hκ_62
    intro W63
    have c1 := we_c (f := weTargets) (o := zN κ_56 (zR κ_56 weTargets a0)) (n := x59.toNatClampNeg) (Or.inl rfl) (by omega) (by omega) (by omega)
    obtain ⟨F1, u1, u2, u3, u4, u5⟩ := we_gr W57 (show zr weTargets = some 20 by decide +kernel) (by decide) T56 hκ_60 hκ_62 c1.1 c1.2
    have T62 : zT κ_62 a0 = 14 := F1.t T56 (by decide)
    have s62 : zN κ_62 (zR κ_62 weSources a0) = zN κ_56 (zR κ_56 weSources a0) := by rw [u2 weSources a0 (fun z => absurd z.1 (by decide)), (u5 _ _ (ty_weSources W57 T56)).1]
    refine ⟨?_, ?_⟩
    · exact ⟨by rw [lei, t0i]; omega, by omega⟩  -- b43
    intro κ_64 hκ_64
    intro W65
    refine ⟨?_, ?_⟩
    · rw [hκ_64]; exact if_pos rfl  -- b44
    intro κ_66 hκ_66
    intro W67
    have c2 := we_c (f := weSources) (o := zN κ_62 (zR κ_62 weSources a0)) (n := x59.toNatClampNeg) (Or.inr (Or.inl rfl)) (by omega) (by omega) (by omega)
    obtain ⟨F2, v1, v2, v3, v4, v5⟩ := we_gr W63 (show zr weSources = some 20 by decide +kernel) (by decide) T62 hκ_64 hκ_66 c2.1 c2.2
    have T66 : zT κ_66 a0 = 14 := F2.t T62 (by decide)
    have s66 : zN κ_66 (zR κ_66 weEdges a0) = zN κ_56 (zR κ_56 weEdges a0) := by rw [v2 weEdges a0 (fun z => absurd z.1 (by decide)), (v5 _ _ (ty_weEdges W63 T62)).1, u2 weEdges a0 (fun z => absurd z.1 (by decide)), (u5 _ _ (ty_weEdges W57 T56)).1]
    refine ⟨?_, ?_⟩
    · exact ⟨by rw [lei, t0i]; omega, by omega⟩  -- b45
    intro κ_68 hκ_68
    intro W69
    refine ⟨?_, ?_⟩
    · rw [hκ_68]; exact if_pos rfl  -- b46
    intro κ_70 hκ_70
    intro W71
    have c3 := we_c (f := weEdges) (o := zN κ_66 (zR κ_66 weEdges a0)) (n := x59.toNatClampNeg) (Or.inr (Or.inr rfl)) (by omega) (by omega) (by omega)
    obtain ⟨F3, w1, w2, w3, w4, w5⟩ := we_gr W67 (show zr weEdges = some 20 by decide +kernel) (by decide) T66 hκ_68 hκ_70 c3.1 c3.2
    refine hj61 _ _ _ _ W71 ?_ ?_ ?_
    · have c3 := we_c (f := weEdges) (o := zN κ_66 (zR κ_66 weEdges a0)) (n := x59.toNatClampNeg) (Or.inr (Or.inr rfl)) (by omega) (by omega) (by omega)
      obtain ⟨F3, w1, w2, w3, w4, w5⟩ := we_gr W67 (show zr weEdges = some 20 by decide +kernel) (by decide) T66 hκ_68 hκ_70 c3.1 c3.2
      exact F3.t T66 (by decide)
    · have c3 := we_c (f := weEdges) (o := zN κ_66 (zR κ_66 weEdges a0)) (n := x59.toNatClampNeg) (Or.inr (Or.inr rfl)) (by omega) (by omega) (by omega)
      obtain ⟨F3, w1, w2, w3, w4, w5⟩ := we_gr W67 (show zr weEdges = some 20 by decide +kernel) (by decide) T66 hκ_68 hκ_70 c3.1 c3.2
      exact F3.t (F2.t (F1.t T56b (by decide)) (by decide)) (by decide)
    · have c3 := we_c (f := weEdges) (o := zN κ_66 (zR κ_66 weEdges a0)) (n := x59.toNatClampNeg) (Or.inr (Or.inr rfl)) (by omega) (by omega) (by omega)
      obtain ⟨F3, w1, w2, w3, w4, w5⟩ := we_gr W67 (show zr weEdges = some 20 by decide +kernel) (by decide) T66 hκ_68 hκ_70 c3.1 c3.2
      have tT : zT κ_62 (zn κ_56) = 20 := by rw [← u3]; exact ty_weTargets W63 T62
      have tS : zT κ_66 (zn κ_62) = 20 := by rw [← v3]; exact ty_weSources W67 T66
      have rT : zR κ_70 weTargets a0 = zn κ_56 := (w2 weTargets a0 (fun z => absurd z.1 (by decide))).trans ((v2 weTargets a0 (fun z => absurd z.1 (by decide))).trans u3)
      have rS2 : zR κ_70 weSources a0 = zn κ_62 := (w2 weSources a0 (fun z => absurd z.1 (by decide))).trans v3
      have nT : zN κ_70 (zn κ_56) = x59.toNatClampNeg := ((w5 _ _ (F2.t tT (by decide))).1).trans (((v5 _ _ tT).1).trans u4)
      have nS2 : zN κ_70 (zn κ_62) = x59.toNatClampNeg := ((w5 _ _ tS).1).trans v4
      have ow : ∀ f, f ∈ weRf → f ≠ weTargets → f ≠ weSources → f ≠ weEdges → zN κ_70 (zR κ_70 f a0) = zN κ_56 (zR κ_56 f a0) := fun f hf h1 h2 h3 => by
        obtain ⟨⟨t, g1, g2⟩, g3⟩ := weRf_r f hf
        have ty := W57.r g1 (T56.trans g3.symm)
        have y1 : zT κ_56 (zR κ_56 f a0) = (t - 1) + 1 := by omega
        have ty2 := W63.r g1 (T62.trans g3.symm)
        have y2 : zT κ_62 (zR κ_62 f a0) = (t - 1) + 1 := by omega
        have ty3 := W67.r g1 (T66.trans g3.symm)
        have y3 : zT κ_66 (zR κ_66 f a0) = (t - 1) + 1 := by omega
        rw [w2 f a0 (fun z => h3 z.1), (w5 _ _ y3).1, v2 f a0 (fun z => h2 z.1), (v5 _ _ y2).1, u2 f a0 (fun z => h1 z.1), (u5 _ _ y1).1]
      refine ⟨rfl, rfl, rfl, ⟨?_, ?_⟩, ((Z56.tr (F1.mono (fun f x z => z.2))).tr (F2.mono (fun f x z => z.2))).tr (F3.mono (fun f x z => z.2)), ?_, ?_⟩
      · unfold weM
        rw [ow weFirsts (by decide) (by decide) (by decide) (by decide), ow weBackFirsts (by decide) (by decide) (by decide) (by decide), ow weOpen (by decide) (by decide) (by decide) (by decide), ow weKnotFirsts (by decide) (by decide) (by decide) (by decide), ow weKnotOf (by decide) (by decide) (by decide) (by decide), ow weOrder (by decide) (by decide) (by decide) (by decide), ow weSeen (by decide) (by decide) (by decide) (by decide), ow weLow (by decide) (by decide) (by decide) (by decide), ow weCursor (by decide) (by decide) (by decide) (by decide), ow wePath (by decide) (by decide) (by decide) (by decide), ow weHeap (by decide) (by decide) (by decide) (by decide)]
        exact M56
      · unfold weL
        rw [rT, rS2, w3, nT, nS2, w4]
        exact ⟨⟨rfl, rfl⟩, by omega, by omega⟩
      · rw [w1, v1, u1]; exact t56
      · rw [rT, nT]; omega

end
