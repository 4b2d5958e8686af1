set_option maxHeartbeats 1600000
/-! the class: Atlas's rows: made, and made longer -/
/-- a field gets a longer row, and its length pays for it -/
theorem gr_g {C : zC} {n0 f c s t n : Nat} {κ κ1 κ2 : zS} (W : zW C n0 κ) (hr : zr f = some t) (ht : 20 ≤ t) (T : zT κ c = f / 100) (q : cpR κ κ1 s t n) (e : κ2 = uo κ1 f c (zn κ)) (cS : n + wS f (zN κ (zR κ f c)) ≤ wS f n) (cC : 4 + wC f (zN κ (zR κ f c)) ≤ wC f n) : zF (fun g b => g = f ∧ b = c) κ κ2 ∧ zI κ2 = zI κ ∧ (∀ g b, ¬ (g = f ∧ b = c) → zR κ2 g b = zR κ g b) ∧ zR κ2 f c = zn κ ∧ zN κ2 (zn κ) = n ∧ (∀ x d, zT κ x = d + 1 → zN κ2 x = zN κ x ∧ zA κ2 x = zA κ x) ∧ (∀ i, i < n → i < zN κ s → zA κ2 (zn κ) i = zA κ s i) := by
  have F : zF (fun g b => g = f ∧ b = c) κ κ2 := zF_uo W hr ht T ht ⟨rfl, rfl⟩ q.1 e cS cC
  obtain ⟨⟨g1, g2, g3, g4, g5, g6, -⟩, k1, k2, k3⟩ := q
  refine ⟨F, by rw [e]; exact g3, fun g b h => by rw [e]; exact (if_neg h).trans (congrFun (congrFun g4 g) b), by rw [e]; exact if_pos ⟨rfl, rfl⟩, ?_, fun x d hx => ⟨F.l hx, ?_⟩, fun i h1 h3 => ?_⟩
  · rw [e]
    show zN κ1 (zn κ) = n
    rw [g2]; exact if_pos rfl
  · rw [e]; exact (g5 x (W.nw hx)).1
  · rw [e]; exact k2 i h1 h3
/-- a field gets its first row -/
theorem mk_row {C : zC} {n0 f c t n : Nat} {κ κ1 κ2 : zS} (W : zW C n0 κ) (hr : zr f = some t) (ht : 20 ≤ t) (T : zT κ c = f / 100) (hf : f ≠ 0 ∧ f ≠ 605 ∧ f ≠ 800) (e1 : κ1 = na κ t n) (e : κ2 = uo κ1 f c (zn κ)) (h1 : zN κ (zR κ f c) ≤ 1) (h7 : 7 ≤ n) : zF (fun g b => g = f ∧ b = c) κ κ2 ∧ zI κ2 = zI κ ∧ (∀ g b, ¬ (g = f ∧ b = c) → zR κ2 g b = zR κ g b) ∧ zR κ2 f c = zn κ ∧ zN κ2 (zn κ) = n ∧ (∀ x d, zT κ x = d + 1 → zN κ2 x = zN κ x ∧ zA κ2 x = zA κ x) ∧ zA κ2 (zn κ) = fun _ => 0 := by
  have a := wS_le (f := f) (n := zN κ (zR κ f c)) hf.1 hf.2.1 hf.2.2
  have b := wS_le (f := f) (n := n) hf.1 hf.2.1 hf.2.2
  have c1 := wC_le (f := f) (n := zN κ (zR κ f c)) hf.1 hf.2.1 hf.2.2
  have d := wC_le (f := f) (n := n) hf.1 hf.2.1 hf.2.2
  have F : zF (fun g b => g = f ∧ b = c) κ κ2 := zF_uo W hr ht T ht ⟨rfl, rfl⟩ (na_h e1) e (by omega) (by omega)
  refine ⟨F, by rw [e, e1]; rfl, fun g b h => by rw [e, e1]; exact if_neg h, by rw [e]; exact if_pos ⟨rfl, rfl⟩, ?_, fun x d hx => ⟨F.l hx, ?_⟩, ?_⟩
  · rw [e, e1]
    exact if_pos rfl
  · rw [e, e1]
    exact if_neg (W.nw hx)
  · rw [e, e1]
    exact if_pos rfl
abbrev atRf : List Nat := [atFirsts, atTotals, atGains, atPlan, atChooses, atHopeless, atSorts, atNumbers, atWeights]
theorem atRf_r : ∀ f, f ∈ atRf → (∃ t, zr f = some t ∧ 20 ≤ t) ∧ f / 100 = 3 := by
  intro f h
  have z : ∀ q ∈ [(atFirsts, 20), (atTotals, 20), (atGains, 20), (atPlan, 20), (atChooses, 23), (atHopeless, 23), (atSorts, 20), (atNumbers, 20), (atWeights, 20)], zr q.1 = some q.2 ∧ 20 ≤ q.2 ∧ q.1 / 100 = 3 := by decide +kernel
  simp only [List.mem_cons, List.not_mem_nil, or_false] at h
  rcases h with rfl | rfl | rfl | rfl | rfl | rfl | rfl | rfl | rfl
  · exact ⟨⟨20, (z (306, 20) (by decide)).1, by decide⟩, rfl⟩
  · exact ⟨⟨20, (z (307, 20) (by decide)).1, by decide⟩, rfl⟩
  · exact ⟨⟨20, (z (308, 20) (by decide)).1, by decide⟩, rfl⟩
  · exact ⟨⟨20, (z (309, 20) (by decide)).1, by decide⟩, rfl⟩
  · exact ⟨⟨23, (z (310, 23) (by decide)).1, by decide⟩, rfl⟩
  · exact ⟨⟨23, (z (311, 23) (by decide)).1, by decide⟩, rfl⟩
  · exact ⟨⟨20, (z (312, 20) (by decide)).1, by decide⟩, rfl⟩
  · exact ⟨⟨20, (z (313, 20) (by decide)).1, by decide⟩, rfl⟩
  · exact ⟨⟨20, (z (314, 20) (by decide)).1, by decide⟩, rfl⟩
theorem atRf_n {C : zC} {n0 a f g : Nat} {κ : zS} (W : zW C n0 κ) (T : zT κ a = 3) (hf : f ∈ atRf) (hg : g ∈ atRf) (h : f ≠ g) : zR κ f a ≠ zR κ g a := by
  obtain ⟨⟨t, h1, h2⟩, h3⟩ := atRf_r f hf
  obtain ⟨⟨u, g1, g2⟩, g3⟩ := atRf_r g hg
  exact ow_ne W h1 h2 (T.trans h3.symm) g1 g2 (T.trans g3.symm) h
theorem atRf_o {C : zC} {n0 a f : Nat} {κ : zS} (W : zW C n0 κ) (T : zT κ a = 3) (hf : f ∈ atRf) : zO κ (zR κ f a) = (f, a) := by
  obtain ⟨⟨t, h1, h2⟩, h3⟩ := atRf_r f hf
  exact W.o h1 h2 (T.trans h3.symm)
/-- the nexts' rows -/
abbrev adF (a : Nat) : Nat → Nat → Prop := fun f x => x = a ∧ (f = atSorts ∨ f = atNumbers ∨ f = atWeights ∨ f = atNexts)
/-- rows of the nexts, made longer perhaps -/
def adJ (κ τ : zS) (a : Nat) : Prop := zF (adF a) κ τ ∧ zI τ = zI κ ∧ (∀ f b, ¬ adF a f b → zR τ f b = zR κ f b) ∧ atL τ a ∧ (zI κ atNexts a).toInt < (zN τ (zR τ atNumbers a)) ∧ ∀ i : Nat, (i : Int) < (zI κ atNexts a).toInt → zA τ (zR τ atSorts a) i = zA κ (zR κ atSorts a) i ∧ zA τ (zR τ atNumbers a) i = zA κ (zR κ atNumbers a) i ∧ zA τ (zR τ atWeights a) i = zA κ (zR κ atWeights a) i
/-- one next more -/
def adN (κ τ : zS) (a : Nat) (s n w : Int32) : Prop := zF (adF a) κ τ ∧ (∀ f b, ¬ (f = atNexts ∧ b = a) → zI τ f b = zI κ f b) ∧ (∀ f b, ¬ adF a f b → zR τ f b = zR κ f b) ∧ atL τ a ∧ ((zI τ atNexts a).toInt = (zI κ atNexts a).toInt + 1 ∧ (zI τ atNexts a).toInt ≤ (zN τ (zR τ atNumbers a))) ∧ (∀ i : Nat, (i : Int) < (zI κ atNexts a).toInt → zA τ (zR τ atSorts a) i = zA κ (zR κ atSorts a) i ∧ zA τ (zR τ atNumbers a) i = zA κ (zR κ atNumbers a) i ∧ zA τ (zR τ atWeights a) i = zA κ (zR κ atWeights a) i) ∧ zA τ (zR τ atSorts a) ((zI κ atNexts a).toInt).toNat = s ∧ zA τ (zR τ atNumbers a) ((zI κ atNexts a).toInt).toNat = n ∧ zA τ (zR τ atWeights a) ((zI κ atNexts a).toInt).toNat = w
theorem ad_n {C : zC} {n0 a : Nat} {κ τ κ1 κ3 κ5 κ7 : zS} {s n w : Int32} (W : zW C n0 τ) (T : zT τ a = 3) (J : adJ κ τ a) (h0 : 0 ≤ (zI κ atNexts a).toInt) (e1 : κ1 = ua τ (zR τ atSorts a) (zI τ atNexts a).toNatClampNeg s) (e3 : κ3 = ua κ1 (zR κ1 atNumbers a) (zI κ1 atNexts a).toNatClampNeg n) (e5 : κ5 = ua κ3 (zR κ3 atWeights a) (zI κ3 atNexts a).toNatClampNeg w) (e7 : κ7 = ui κ5 atNexts a (zI κ5 atNexts a + 1)) : adN κ κ7 a s n w := by
  obtain ⟨F, jI, jR, jL, jl, jA⟩ := J
  have r1 : zR κ1 = zR τ := by rw [e1]; rfl
  have r3 : zR κ3 = zR τ := by rw [e3]; exact r1
  have r5 : zR κ5 = zR τ := by rw [e5]; exact r3
  have r7 : zR κ7 = zR τ := by rw [e7]; exact r5
  have i1 : zI κ1 = zI κ := by rw [e1]; exact jI
  have i3 : zI κ3 = zI κ := by rw [e3]; exact i1
  have i5 : zI κ5 = zI κ := by rw [e5]; exact i3
  have n7 : zN κ7 = zN τ := by rw [e7, e5, e3, e1]; rfl
  rw [jI] at e1
  rw [r1, i1] at e3
  rw [r3, i3] at e5
  rw [i5] at e7
  have o1 : zO κ1 = zO τ := by rw [e1]; rfl
  have o3 : zO κ3 = zO τ := by rw [e3]; exact o1
  have f1 : zF (adF a) τ κ1 := by rw [e1]; exact zF_ua (by rw [atRf_o W T (by decide)]; exact ⟨rfl, Or.inl rfl⟩)
  have f3 : zF (adF a) κ1 κ3 := by rw [e3]; exact zF_ua (by rw [o1, atRf_o W T (by decide)]; exact ⟨rfl, Or.inr (Or.inl rfl)⟩)
  have f5 : zF (adF a) κ3 κ5 := by rw [e5]; exact zF_ua (by rw [o3, atRf_o W T (by decide)]; exact ⟨rfl, Or.inr (Or.inr (Or.inl rfl))⟩)
  have f7 : zF (adF a) κ5 κ7 := by rw [e7]; exact zF_ui ⟨rfl, Or.inr (Or.inr (Or.inr rfl))⟩
  have n12 := atRf_n W T (f := atSorts) (g := atNumbers) (by decide) (by decide) (by decide)
  have n13 := atRf_n W T (f := atSorts) (g := atWeights) (by decide) (by decide) (by decide)
  have n23 := atRf_n W T (f := atNumbers) (g := atWeights) (by decide) (by decide) (by decide)
  have kn : (zI κ atNexts a).toNatClampNeg = ((zI κ atNexts a).toInt).toNat := rfl
  have a7 : zA κ7 = zA κ5 := by rw [e7]; rfl
  have aS : zA κ7 (zR τ atSorts a) = upd (zA τ (zR τ atSorts a)) ((zI κ atNexts a).toInt).toNat s := by
    rw [a7, e5]
    refine (if_neg n13).trans ?_
    show zA κ3 _ = _
    rw [e3]
    refine (if_neg n12).trans ?_
    show zA κ1 _ = _
    rw [e1]
    exact if_pos rfl
  have aN : zA κ7 (zR τ atNumbers a) = upd (zA τ (zR τ atNumbers a)) ((zI κ atNexts a).toInt).toNat n := by
    rw [a7, e5]
    refine (if_neg n23).trans ?_
    show zA κ3 _ = _
    rw [e3]
    refine (if_pos rfl).trans ?_
    have q : zA κ1 (zR τ atNumbers a) = zA τ (zR τ atNumbers a) := by rw [e1]; exact if_neg (fun z => n12 z.symm)
    show upd (zA κ1 (zR τ atNumbers a)) _ _ = _
    rw [q, kn]
  have aW : zA κ7 (zR τ atWeights a) = upd (zA τ (zR τ atWeights a)) ((zI κ atNexts a).toInt).toNat w := by
    rw [a7, e5]
    refine (if_pos rfl).trans ?_
    have q : zA κ3 (zR τ atWeights a) = zA τ (zR τ atWeights a) := by
      rw [e3]
      refine (if_neg (fun z => n23 z.symm)).trans ?_
      show zA κ1 _ = _
      rw [e1]
      exact if_neg (fun z => n13 z.symm)
    show upd (zA κ3 (zR τ atWeights a)) _ _ = _
    rw [q, kn]
  have x7 : zI κ7 atNexts a = zI κ atNexts a + 1 := by rw [e7]; exact if_pos ⟨rfl, rfl⟩
  have jb := jL.2.2
  have t7 : (zI κ7 atNexts a).toInt = (zI κ atNexts a).toInt + 1 := by rw [x7, add_i (by rw [t1i]; omega) (by rw [t1i]; omega), t1i]
  refine ⟨(((F.tr f1).tr f3).tr f5).tr f7, fun f b z => ?_, fun f b z => by rw [r7]; exact jR f b z, ?_, ⟨t7, by rw [t7, r7, n7]; omega⟩, fun i hi => ?_, ?_, ?_, ?_⟩
  · rw [e7]
    exact (if_neg z).trans (congrFun (congrFun i5 f) b)
  · unfold atL
    rw [r7, n7]
    exact jL
  · have g := jA i hi
    rw [r7, aS, aN, aW]
    have ni : i ≠ ((zI κ atNexts a).toInt).toNat := by omega
    exact ⟨(if_neg ni).trans g.1, (if_neg ni).trans g.2.1, (if_neg ni).trans g.2.2⟩
  · rw [r7, aS]; exact if_pos rfl
  · rw [r7, aN]; exact if_pos rfl
  · rw [r7, aW]; exact if_pos rfl
/-- what a longer row costs -/
theorem ad_c {f o n : Nat} (hf : f = 312 ∨ f = 313 ∨ f = 314) (h64 : 64 ≤ o) (ho : o < 20000) (hn : n = 20000 ∨ n = 2 * o) : n + wS f o ≤ wS f n ∧ 4 + wC f o ≤ wC f n := by
  have c : cap9 f = 20000 := by
    rcases hf with rfl | rfl | rfl <;> rfl
  have h0 : f ≠ 0 ∧ f ≠ 605 ∧ f ≠ 800 := by omega
  unfold wS wC
  rw [if_neg h0.1, if_neg h0.2.1, if_neg h0.2.2, if_neg h0.1, if_neg h0.2.1, if_neg h0.2.2, if_neg h0.1, if_neg h0.2.1, if_neg h0.2.2, if_neg h0.1, if_neg h0.2.1, if_neg h0.2.2, c]
  split <;> split <;> omega
theorem At_addNext_c {C : zC} {n0 : Nat} {a0 : Nat} {a1 : Int32} {a2 : Int32} {a3 : Int32} {κ : zS} {Q : Int32 → zS → Prop} (W : zW C n0 κ) (Ta0 : zT κ a0 = 3)  (hp : atL κ a0 ∧ 0 ≤ (zI κ atNexts a0).toInt ∧ (zI κ atNexts a0).toInt ≤ (zN κ (zR κ atNumbers a0))) (h : ∀ (v : Int32) (κ' : zS), ((v = 0 ∧ κ' = κ) ∨ (v = 1 ∧ adN κ κ' a0 a1 a2 a3)) → Q v κ') : zRun C 2 mAt_addNext [.ref a0, .int a1, .int a2, .int a3] κ (oI Q noX) := by
  refine At_addNext_run W Ta0 ?_
  replace W := W.lo (Nat.le_trans W.1.2.1 W.1.2.2) (Nat.le_refl (zn κ))
  unfold w_At_addNext_0
  obtain ⟨H, p0, p1⟩ := hp
  have oN := W.n (ty_atSorts W Ta0)
  have H1 := H.1
  have H2 := H.2
  have hj77 : ∀ (l0 : Nat) (l1 : Int32) (l2 : Int32) (l3 : Int32) (τ : zS), zW C (zn κ) τ → zT τ l0 = 3 → (a0 = l0 ∧ a1 = l1 ∧ a2 = l2 ∧ a3 = l3 ∧ adJ κ τ a0) → w_At_addNext_77 C (zn κ) Q  l0 l1 l2 l3 τ := by
    rintro _ _ _ _ τ77 W77 T77_0 ⟨rfl, rfl, rfl, rfl, j77⟩
    unfold w_At_addNext_77
    refine ⟨?_, ?_⟩
    · have a := j77.2.2.2.1.1.1
      have c := j77.2.2.2.2.1
      rw [j77.2.1, inb_iff]; omega
    intro κ_1 hκ_1
    intro W2
    refine ⟨?_, ?_⟩
    · have c := j77.2.2.2.2.1
      rw [hκ_1]
      show inb (zI τ77 atNexts a0) (zN τ77 (zR τ77 atNumbers a0))
      rw [j77.2.1, inb_iff]; omega
    intro κ_3 hκ_3
    intro W4
    refine ⟨?_, ?_⟩
    · have a := j77.2.2.2.1.1.2
      have c := j77.2.2.2.2.1
      rw [hκ_3, hκ_1]
      show inb (zI τ77 atNexts a0) (zN τ77 (zR τ77 atWeights a0))
      rw [j77.2.1, inb_iff]; omega
    intro κ_5 hκ_5
    intro W6
    intro κ_7 hκ_7
    intro W8
    refine h _ _ ?_
    · exact Or.inr ⟨rfl, ad_n W77 T77_0 j77 p0 hκ_1 hκ_3 hκ_5 hκ_7⟩  -- q4
  refine ⟨fun c9 => ?_, fun c9 => ?_⟩
  · skip
    refine ⟨fun c10 => ?_, fun c10 => ?_⟩
    · skip
      refine hj77 _ _ _ _ _ W ?_ ?_
      · exact Ta0  -- t5
      · rw [lti, ofn_i oN] at c10
        exact ⟨rfl, rfl, rfl, rfl, zF.rf, rfl, fun _ _ _ => rfl, H, by omega, fun _ _ => ⟨rfl, rfl, rfl⟩⟩
    · skip
      intro x11 hx11
      intro T12
      have e20 : (20000 : Int32).toInt = 20000 := rfl
      rw [lti, e20] at c9
      have d9 : (zI κ atNexts a0).toInt = zN κ (zR κ atNumbers a0) := by rw [lti, ofn_i oN] at c10; omega
      have e2 : (zI κ atNexts a0 * 2).toInt = (zI κ atNexts a0).toInt * 2 := by rw [mul_i (by rw [t2i]; omega) (by rw [t2i]; omega), t2i]
      have xb : (x11.toInt = 20000 ∨ x11.toInt = 2 * zN κ (zR κ atNumbers a0)) ∧ x11.toInt ≤ 20000 := by
        rw [hx11]
        split
        · rw [e20]; omega
        · rename_i z
          rw [lti, e20, e2] at z
          rw [e2]; omega
      have kn := cnk (x := x11) (by omega)
      have xn : x11.toNatClampNeg = 20000 ∨ x11.toNatClampNeg = 2 * zN κ (zR κ atNumbers a0) := by omega
      refine Ar_copyOf_c W T12  ?_ (fun r13 κ_14 q15 => ?_)
      · exact ⟨⟨by rw [lei, t0i]; omega, by omega⟩, fun e => by
          have e9 := congrArg Int32.toInt e
          rw [ofn_i oN] at e9
          omega⟩
      intro W16
      intro M17
      intro T18
      refine ⟨?_, ?_⟩
      · rw [q15.1]; exact q15.2.2.1  -- b8
      intro κ_19 hκ_19
      intro W20
      intro T21
      have h19 : κ_19 = uo κ_14 atSorts a0 (zn κ) := by rw [hκ_19, q15.1]
      have k1 := ad_c (f := atSorts) (o := zN κ (zR κ atSorts a0)) (n := x11.toNatClampNeg) (Or.inl rfl) (by omega) (by omega) (by omega)
      obtain ⟨F1, u1, u2, u3, u4, u5, u6⟩ := gr_g (f := atSorts) W (show zr atSorts = some 20 by decide +kernel) (by decide) Ta0 q15.2 h19 k1.1 k1.2
      have T19 := F1.t Ta0 (by decide)
      have rN : zR κ_19 atNumbers a0 = zR κ atNumbers a0 := u2 atNumbers a0 (fun z => absurd z.1 (by decide))
      have nN := u5 _ _ (ty_atNumbers W Ta0)
      have pN := W20.n (ty_atNumbers W20 T19)
      refine Ar_copyOf_c W20 T21  ?_ (fun r22 κ_23 q24 => ?_)
      · exact ⟨⟨by rw [lei, t0i]; omega, by omega⟩, fun e => by
          have e9 := congrArg Int32.toInt e
          rw [ofn_i pN, rN, nN.1] at e9
          omega⟩
      intro W25
      intro M26
      intro T27
      refine ⟨?_, ?_⟩
      · rw [q24.1]; exact q24.2.2.1  -- b10
      intro κ_28 hκ_28
      intro W29
      intro T30
      have h28 : κ_28 = uo κ_23 atNumbers a0 (zn κ_19) := by rw [hκ_28, q24.1]
      have k2 := ad_c (f := atNumbers) (o := zN κ_19 (zR κ_19 atNumbers a0)) (n := x11.toNatClampNeg) (Or.inr (Or.inl rfl)) (by rw [rN, nN.1]; omega) (by rw [rN, nN.1]; omega) (by rw [rN, nN.1]; omega)
      obtain ⟨F2, v1, v2, v3, v4, v5, v6⟩ := gr_g (f := atNumbers) W20 (show zr atNumbers = some 20 by decide +kernel) (by decide) T19 q24.2 h28 k2.1 k2.2
      have T28 := F2.t T19 (by decide)
      have rw1 : zR κ_19 atWeights a0 = zR κ atWeights a0 := u2 atWeights a0 (fun z => absurd z.1 (by decide))
      have rw2 : zR κ_28 atWeights a0 = zR κ_19 atWeights a0 := v2 atWeights a0 (fun z => absurd z.1 (by decide))
      have nw1 := u5 _ _ (ty_atWeights W Ta0)
      have nw2 := v5 _ _ (ty_atWeights W20 T19)
      have ln : zN κ_28 (zR κ_28 atWeights a0) = zN κ (zR κ atNumbers a0) := by rw [rw2, nw2.1, rw1, nw1.1]; omega
      have lN := W29.n (ty_atWeights W29 T28)
      refine Ar_copyOf_c W29 T30  ?_ (fun r31 κ_32 q33 => ?_)
      · exact ⟨⟨by rw [lei, t0i]; omega, by omega⟩, fun e => by
          have e9 := congrArg Int32.toInt e
          rw [ofn_i lN, ln] at e9
          omega⟩
      intro W34
      intro M35
      intro T36
      refine ⟨?_, ?_⟩
      · rw [q33.1]; exact q33.2.2.1  -- b12
      intro κ_37 hκ_37
      intro W38
      have h37 : κ_37 = uo κ_32 atWeights a0 (zn κ_28) := by rw [hκ_37, q33.1]
      have k3 := ad_c (f := atWeights) (o := zN κ_28 (zR κ_28 atWeights a0)) (n := x11.toNatClampNeg) (Or.inr (Or.inr rfl)) (by rw [ln]; omega) (by rw [ln]; omega) (by rw [ln]; omega)
      obtain ⟨F3, w1, w2, w3, w4, w5, w6⟩ := gr_g (f := atWeights) W29 (show zr atWeights = some 20 by decide +kernel) (by decide) T28 q33.2 h37 k3.1 k3.2
      refine hj77 _ _ _ _ _ W38 ?_ ?_
      · exact F3.t T28 (by decide)  -- t13
      · have tS : zT κ_19 (zn κ) = 20 := by rw [← u3]; exact ty_atSorts W20 T19
        have tN : zT κ_28 (zn κ_19) = 20 := by rw [← v3]; exact ty_atNumbers W29 T28
        have rS : zR κ_37 atSorts a0 = zn κ := (w2 atSorts a0 (fun z => absurd z.1 (by decide))).trans ((v2 atSorts a0 (fun z => absurd z.1 (by decide))).trans u3)
        have rM : zR κ_37 atNumbers a0 = zn κ_19 := (w2 atNumbers a0 (fun z => absurd z.1 (by decide))).trans v3
        have nS : zN κ_37 (zn κ) = x11.toNatClampNeg := ((w5 _ _ (F2.t tS (by decide))).1).trans (((v5 _ _ tS).1).trans u4)
        have nM : zN κ_37 (zn κ_19) = x11.toNatClampNeg := ((w5 _ _ tN).1).trans v4
        refine ⟨rfl, rfl, rfl, rfl, ((F1.mono (fun f x z => ⟨z.2, Or.inl z.1⟩)).tr (F2.mono (fun f x z => ⟨z.2, Or.inr (Or.inl z.1)⟩))).tr (F3.mono (fun f x z => ⟨z.2, Or.inr (Or.inr (Or.inl z.1))⟩)), w1.trans (v1.trans u1), fun f b z => ?_, ?_, ?_, fun i hi => ⟨?_, ?_, ?_⟩⟩
        · rw [w2 f b (fun e => z ⟨e.2, Or.inr (Or.inr (Or.inl e.1))⟩), v2 f b (fun e => z ⟨e.2, Or.inr (Or.inl e.1)⟩), u2 f b (fun e => z ⟨e.2, Or.inl e.1⟩)]
        · unfold atL
          rw [rS, rM, w3, nS, nM, w4]
          exact ⟨⟨rfl, rfl⟩, by omega, by omega⟩
        · rw [rM, nM]; omega
        · rw [rS, (w5 _ _ (F2.t tS (by decide))).2, (v5 _ _ tS).2]
          exact u6 i (by omega) (by omega)
        · rw [rM, (w5 _ _ tN).2, v6 i (by omega) (by rw [rN, nN.1]; omega), rN, nN.2]
        · rw [w3, w6 i (by omega) (by rw [ln]; omega), rw2, nw2.2, rw1, nw1.2]
  · skip
    refine h _ _ ?_
    · exact Or.inl ⟨rfl, rfl⟩  -- q15
