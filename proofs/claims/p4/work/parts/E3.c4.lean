set_option maxHeartbeats 1600000
/-! the class: ChanceWorks' calls that touch the tape and its own fields alone -/
/-- the tape's bytes and their number -/
def twF9 (t : Nat) : Nat → Nat → Prop := fun f b => b = t ∧ (f = taLength ∨ f = taBytes)
theorem Ta_widen_c2 {C : zC} {n0 : Nat} {a0 : Nat} {a1 : Int32} {κ : zS} {Q : zS → Prop} (W : zW C n0 κ) (Ta0 : zT κ a0 = 13)  (hp : taI κ a0 ∧ 0 ≤ a1.toInt ∧ a1.toInt ≤ 10240) (h : ∀ (κ' : zS), (zF (oneF taBytes a0) κ κ' ∧ taI κ' a0 ∧ zI κ' = zI κ ∧ a1.toInt ≤ (zN κ' (zR κ' taBytes a0)) ∧ (zN κ (zR κ taBytes a0)) ≤ (zN κ' (zR κ' taBytes a0)) ∧ (∀ j, j < zN κ (zR κ taBytes a0) → zA κ' (zR κ' taBytes a0) j = zA κ (zR κ taBytes a0) j)) → Q κ') : zRun C 2 mTa_widen [.ref a0, .int a1] κ (oV Q noX) := by
  refine Ta_widen_run W Ta0 ?_
  replace W := W.lo (Nat.le_trans W.1.2.1 W.1.2.2) (Nat.le_refl (zn κ))
  unfold w_Ta_widen_0
  obtain ⟨H, p0, p1⟩ := hp
  have B := H.1
  have bN := W.n (ty_taBytes W Ta0)
  refine ⟨fun c1 => ?_, fun c1 => ?_⟩
  · skip
    refine h _ ?_
    · rw [lei, ofn_i bN] at c1
      exact ⟨zF.rf, H, rfl, c1, Nat.le_refl _, fun _ _ => rfl⟩
  · skip
    intro T2
    have c9 : (zN κ (zR κ taBytes a0) : Int) < a1.toInt := by rw [lei, ofn_i bN] at c1; omega
    have e2 : (a1 * 2).toInt = a1.toInt * 2 := by rw [mul_i (by rw [t2i]; omega) (by rw [t2i]; omega), t2i]
    have kn := cnk (x := a1 * 2) (by omega)
    refine Ar_copyOfB_c W T2  ?_ (fun r3 κ_4 q5 => ?_)
    · exact ⟨⟨by rw [lei, t0i]; omega, by omega⟩, fun e => by
        have e9 := congrArg Int32.toInt e
        rw [ofn_i bN] at e9
        omega⟩
    intro W6
    intro M7
    intro T8
    refine ⟨?_, ?_⟩
    · rw [q5.1]; exact q5.2.2.1  -- b3
    intro κ_9 hκ_9
    intro W10
    refine h _ ?_
    · have h9 : κ_9 = uo κ_4 taBytes a0 (zn κ) := by rw [hκ_9, q5.1]
      obtain ⟨F9, u1, u2, u3, u4, u5, -⟩ := gr_f (f := taBytes) W (by decide +kernel) (by decide) Ta0 (by decide) q5.2 h9 (by omega) (by omega)
      refine ⟨F9, ?_, u1, ?_, ?_, fun j hj => ?_⟩
      · unfold taI
        rw [u1, u3, u4, u2 taKinds a0 (fun z => absurd z.1 (by decide)), u2 taPlaces a0 (fun z => absurd z.1 (by decide)), u2 taLengths a0 (fun z => absurd z.1 (by decide)), (u5 _ _ (ty_taKinds W Ta0)).1, (u5 _ _ (ty_taPlaces W Ta0)).1, (u5 _ _ (ty_taLengths W Ta0)).1]
        exact ⟨⟨H.1.1, by omega, by omega, by omega⟩, H.2⟩
      · rw [u3, u4]; omega
      · rw [u3, u4]; omega
      · rw [u3, h9]
        exact q5.2.2.2.1 j (by omega) hj

/-- bytes written of a word -/
def adI9 (κ : zS) (a0 : Nat) (w : Int32) (k : Int) (τ : zS) : Prop := (∀ j, j < (zI κ taLength a0).toInt.toNat → zA τ (zR τ taBytes a0) j = zA κ (zR κ taBytes a0) j) ∧ (∀ i : Nat, (i : Int) < k → zA τ (zR τ taBytes a0) ((zI κ taLength a0).toInt.toNat + i) = bw9 w i)
theorem ad_09 {κ : zS} {a0 : Nat} {w : Int32} : adI9 κ a0 w ((24 - (24 : Int32).toInt) / 8) κ := ⟨fun _ _ => rfl, fun i hi => absurd hi (by show ¬ (i : Int) < 0; omega)⟩
theorem ua_99 {κ : zS} {r i j : Nat} {x : Int32} : zA (ua κ r i x) r j = if j = i then x else zA κ r j := by
  show (if r = r then upd (κ.2.2.2.2.1 r) i x else κ.2.2.2.2.1 r) j = _
  rw [if_pos rfl]
  unfold upd
  rfl
theorem bw_99 {w l : Int32} {i : Nat} (h0 : 0 ≤ l.toInt) (h1 : l.toInt ≤ 24) (h2 : l.toInt % 8 = 0) (hi : (i : Int) = (24 - l.toInt) / 8) : vp_nar .byte (Int8.toInt32 (Int32.toInt8 (w >>> (l &&& 31)))) = bw9 w i := by
  have e : l = (24 : Int32) - 8 * Int32.ofNat i := by
    have k : l.toInt = 24 ∨ l.toInt = 16 ∨ l.toInt = 8 ∨ l.toInt = 0 := by omega
    rcases k with k | k | k | k
    · have q : i = 0 := by omega
      rw [q]; exact Int32.toInt_inj.mp (k.trans rfl)
    · have q : i = 1 := by omega
      rw [q]; exact Int32.toInt_inj.mp (k.trans rfl)
    · have q : i = 2 := by omega
      rw [q]; exact Int32.toInt_inj.mp (k.trans rfl)
    · have q : i = 3 := by omega
      rw [q]; exact Int32.toInt_inj.mp (k.trans rfl)
  unfold bw9
  rw [← e]
theorem ad_s9 {κ τ υ : zS} {a0 : Nat} {w l : Int32} (hl : 0 ≤ (zI κ taLength a0).toInt) (h1 : l.toInt ≤ 24) (h0 : ¬ l.toInt < 0) (h2 : l.toInt % 8 = 0) (hN : (zI τ taLength a0).toInt ≤ 67108864) (ml : (zI τ taLength a0).toInt * 8 = (zI κ taLength a0).toInt * 8 + (24 - l.toInt)) (mR : zR τ = zR κ) (h : adI9 κ a0 w ((24 - l.toInt) / 8) τ) (hu : ∀ j, zA υ (zR υ taBytes a0) j = if j = (zI τ taLength a0).toNatClampNeg then vp_nar .byte (Int8.toInt32 (Int32.toInt8 (w >>> (l &&& 31)))) else zA τ (zR τ taBytes a0) j) : adI9 κ a0 w ((24 - (l.toInt - 8)) / 8) υ := by
  have ci : (zI τ taLength a0).toNatClampNeg = (zI κ taLength a0).toInt.toNat + ((24 - l.toInt) / 8).toNat := by
    have z := cnk (x := zI τ taLength a0) (by omega)
    omega
  refine ⟨fun j hj => ?_, fun i hi => ?_⟩
  · rw [hu, if_neg (by omega)]
    exact h.1 j hj
  · rw [hu]
    by_cases q : (i : Int) = (24 - l.toInt) / 8
    · rw [if_pos (by omega)]
      exact bw_99 (by omega) h1 h2 q
    · rw [if_neg (by omega)]
      exact h.2 i (by omega)
theorem Ta_addWord_c2 {C : zC} {n0 : Nat} {a0 : Nat} {a1 : Int32} {κ : zS} {Q : zS → Prop} (W : zW C n0 κ) (Ta0 : zT κ a0 = 13)  (hp : taI κ a0 ∧ (zI κ taLength a0).toInt + 4 ≤ (zN κ (zR κ taBytes a0))) (h : ∀ (κ' : zS), (zF (twF9 a0) κ κ' ∧ taI κ' a0 ∧ zR κ' = zR κ ∧ zN κ' = zN κ ∧ (zI κ' taLength a0).toInt = (zI κ taLength a0).toInt + 4 ∧ (∀ f, f ≠ taLength → zI κ' f a0 = zI κ f a0) ∧ adI9 κ a0 a1 4 κ') → Q κ') : zRun C 0 mTa_addWord [.ref a0, .int a1] κ (oV Q noX) := by
  refine Ta_addWord_run W Ta0 ?_
  replace W := W.lo (Nat.le_trans W.1.2.1 W.1.2.2) (Nat.le_refl (zn κ))
  unfold w_Ta_addWord_0
  obtain ⟨H, p0⟩ := hp
  have B := H.1
  have bN := W.n (ty_taBytes W Ta0)
  unfold w_Ta_addWord_3
  refine ⟨fun n l0 l1 l2 τ => n = (l2.toInt + 8).toNat ∧ (a0 = l0 ∧ a1 = l1 ∧ (-8 ≤ l2.toInt ∧ l2.toInt ≤ 24 ∧ l2.toInt % 8 = 0) ∧ zF (twF9 a0) κ τ ∧ zR τ = zR κ ∧ zN τ = zN κ ∧ (∀ f, f ≠ taLength → zI τ f a0 = zI κ f a0) ∧ (zI τ taLength a0).toInt * 8 = (zI κ taLength a0).toInt * 8 + (24 - l2.toInt) ∧ adI9 κ a0 a1 ((24 - l2.toInt) / 8) τ), ⟨_, rfl, ?_⟩, ?_⟩
  · exact ⟨rfl, rfl, by decide, zF.rf, rfl, rfl, fun _ _ => rfl, by show _ = _ + ((24 : Int) - 24); omega, ad_09⟩  -- j1
  rintro n3 _ _ x3_2 κ3 W3 T3_0 ⟨hn3, rfl, rfl, i3⟩
  obtain ⟨⟨m0, m1, m2⟩, F, mR, mN, mI, ml, mA⟩ := i3
  refine ⟨fun c1 => ?_, fun c1 => ?_⟩
  · skip
    refine h _ ?_
    · rw [lti, t0i] at c1
      have e : (zI κ3 taLength a0).toInt = (zI κ taLength a0).toInt + 4 := by omega
      have e8 : x3_2.toInt = -8 := by omega
      rw [e8, show ((24 : Int) - -8) / 8 = 4 by decide] at mA
      refine ⟨F, ?_, mR, mN, e, mI, mA⟩
      unfold taI
      rw [mR, mN, e, mI taTotal (by decide)]
      exact ⟨⟨by omega, by omega, H.1.2.2⟩, H.2⟩
  · skip
    refine ⟨fun c2 => ?_, fun c2 => ?_⟩
    · skip
      refine h _ ?_
      · exfalso
        rw [lti, t0i] at c1
        rw [mR, mN, lei, ofn_i bN] at c2
        omega
    · skip
      refine ⟨?_, ?_⟩
      · rw [lti, t0i] at c1
        rw [mR, mN, lei, ofn_i bN] at c2
        rw [mR, mN, inb_iff]
        omega
      intro κ_3 hκ_3
      intro W4
      intro κ_5 hκ_5
      intro W6
      intro x7 hx7
      rw [lti, t0i] at c1
      have f8 : (-8 : Int32).toInt = -8 := rfl
      have e7 : x7.toInt = x3_2.toInt - 8 := by rw [hx7, add_i (by rw [f8]; omega) (by rw [f8]; omega), f8]; omega
      refine ⟨_, ?_, rfl, ?_⟩
      · rw [hn3, e7]; omega  -- d5
      · have f1 : zF (twF9 a0) κ3 κ_3 := by rw [hκ_3]; exact zF_ua (by rw [ow_taBytes W3 T3_0]; exact ⟨rfl, Or.inr rfl⟩)
        have f2 : zF (twF9 a0) κ_3 κ_5 := by rw [hκ_5]; exact zF_ui ⟨rfl, Or.inl rfl⟩
        have i3 : zI κ_3 = zI κ3 := by rw [hκ_3]; rfl
        have is : zI κ_5 taLength a0 = zI κ3 taLength a0 + 1 := by
          rw [hκ_5]
          refine (if_pos ⟨rfl, rfl⟩).trans ?_
          rw [i3]
        have ts : (zI κ_5 taLength a0).toInt = (zI κ3 taLength a0).toInt + 1 := by rw [is, add_i (by rw [t1i]; omega) (by rw [t1i]; omega), t1i]
        refine ⟨rfl, rfl, ⟨by omega, by omega, by omega⟩, (F.tr f1).tr f2, by rw [hκ_5, hκ_3]; exact mR, by rw [hκ_5, hκ_3]; exact mN, fun f hf => ?_, by rw [ts]; omega, ?_⟩
        · rw [hκ_5]
          exact (if_neg (fun z => hf z.1)).trans ((congrFun (congrFun i3 f) a0).trans (mI f hf))
        · rw [e7]
          exact ad_s9 (by omega) m1 c1 m2 (by omega) ml mR mA (fun j => by rw [hκ_5, hκ_3]; exact ua_99)


theorem tw_9 {C : zC} {n0 t : Nat} {κ τ : zS} (W : zW C n0 κ) (T : zT κ t = 13) (Z : zF (twF9 t) κ τ) (h : (zN κ (zR κ taBytes t)) ≤ (zN τ (zR τ taBytes t))) (H : tokI κ t) : tokI τ t := by
  have n : ∀ f, f ≠ taLength → f ≠ taBytes → ¬ twF9 t f t := fun f h1 h2 z => z.2.elim h1 h2
  have p := (Z.row W (show zr taPlaces = some 20 by decide +kernel) (by decide) T (n taPlaces (by decide) (by decide))).1
  have l := (Z.row W (show zr taLengths = some 20 by decide +kernel) (by decide) T (n taLengths (by decide) (by decide))).1
  unfold tokI
  rw [p, l, Z.r (n taKinds (by decide) (by decide)), Z.l (ty_taKinds W T)]
  intro i hi
  have y := H i hi
  exact ⟨y.1, y.2.1, by omega⟩
theorem chE_u9 {C : zC} {n0 a : Nat} {F : Nat → Nat → Prop} {κ τ : zS} (W : zW C n0 κ) (T : zT κ a = 15) (Z : zF F κ τ) (n : un9 F a 15) (E : chE9 κ a) : chE9 τ a ∧ (∀ f, f / 100 = 15 → zR τ f a = zR κ f a) ∧ zI τ chTolds a = zI κ chTolds a := by
  have r : ∀ f, f / 100 = 15 → zR τ f a = zR κ f a := fun f hf => Z.r (n f hf)
  have i : zI τ chTolds a = zI κ chTolds a := Z.i (n _ (by decide))
  refine ⟨?_, r, i⟩
  unfold chE9 dwI9
  rw [r chTold (by decide), r chRecord (by decide), r chLastShared (by decide), r chDrawnWeights (by decide), r chDrawnTotals (by decide), i, Z.l (ty_chTold W T), Z.l (ty_chRecord W T), Z.l (ty_chLastShared W T), Z.l (ty_chDrawnWeights W T), Z.l (ty_chDrawnTotals W T)]
  exact E
/-- a call that touches the tape's bytes alone -/
theorem chI_t9 {C : zC} {n0 a : Nat} {L L' : Int} {ρ : Nat → Nat} {κ τ : zS} (W : zW C n0 κ) (T : zT κ a = 15) (Z : zF (twF9 (zR κ chTape a)) κ τ) (h : (zN κ (zR κ taBytes (zR κ chTape a))) ≤ (zN τ (zR τ taBytes (zR κ chTape a)))) (hta : taI τ (zR κ chTape a)) (hL : (zI τ taLength (zR κ chTape a)).toInt ≤ L') (I : chI9 ρ κ a L) : chI9 ρ τ a L' ∧ zI τ chTolds a = zI κ chTolds a := by
  have tt := ty_chTape W T
  have tm := ty_chMachine W T
  have un : ∀ x K, zT κ x = K → K ≠ 13 → un9 (twF9 (zR κ chTape a)) x K := fun x K h1 h2 f _ z => by
    rw [z.1, tt] at h1
    exact h2 h1.symm
  have E := chE_u9 W T Z (un a 15 T (by decide)) I.2.2.2.2.2.1
  have ma : maL κ (zR κ chMachine a) := by
    have y := I.2.1.1.2.1
    rw [I.2.1.2.1] at y
    exact y
  refine ⟨chI_s9 W T Z (fun f x z => Or.inr (Or.inl (by rw [z.1]; exact tt))) (fun f hf _ _ => E.2.1 f hf) ⟨hta, tw_9 W tt Z h I.1.1.2⟩ (ma_u9 Z W tm (un _ 7 tm (by decide)) ma) E.1 hL I, E.2.2⟩
/-- on the way of feed -/
def fdI9 (G : Nat → Int32) (κ τ : zS) (t : Nat) (k : Int) : Prop := ((∀ j, j < (zI κ taLength t).toInt.toNat → zA τ (zR τ taBytes t) j = zA κ (zR κ taBytes t) j) ∧ (∀ i : Nat, (i : Int) < k → zA τ (zR τ taBytes t) ((zI κ taLength t).toInt.toNat + i) = G i)) ∧ zF (twF9 t) κ τ ∧ taI τ t ∧ (zI τ taLength t).toInt = (zI κ taLength t).toInt + k ∧ ((zI κ taLength t).toInt + 20 ≤ (zN τ (zR τ taBytes t)) ∧ (zN κ (zR κ taBytes t)) ≤ (zN τ (zR τ taBytes t)))
theorem fd_s9 {G : Nat → Int32} {w : Int32} {κ τ σ : zS} {t : Nat} {k m : Int} (hl : 0 ≤ (zI κ taLength t).toInt) (hk : 0 ≤ k) (hG : ∀ i, i < 4 → G (k.toNat + i) = bw9 w i) (I : fdI9 G κ τ t k) (hm : m = k + 4) (q : zF (twF9 t) τ σ ∧ taI σ t ∧ zR σ = zR τ ∧ zN σ = zN τ ∧ (zI σ taLength t).toInt = (zI τ taLength t).toInt + 4 ∧ (∀ f, f ≠ taLength → zI σ f t = zI τ f t) ∧ adI9 τ t w 4 σ) : fdI9 G κ σ t m := by
  obtain ⟨⟨y1, y2⟩, Z, A, l, b1, b2⟩ := I
  have qa := q.2.2.2.2.2.2
  have yb : (∀ j, j < (zI κ taLength t).toInt.toNat → zA σ (zR σ taBytes t) j = zA κ (zR κ taBytes t) j) ∧ (∀ i : Nat, (i : Int) < m → zA σ (zR σ taBytes t) ((zI κ taLength t).toInt.toNat + i) = G i) := by
    refine ⟨fun j hj => (qa.1 j (by omega)).trans (y1 j hj), fun i hi => ?_⟩
    by_cases c : (i : Int) < k
    · exact (qa.1 _ (by omega)).trans (y2 i c)
    · have z := qa.2 (i - k.toNat) (by omega)
      have z2 := hG (i - k.toNat) (by omega)
      rw [show (zI τ taLength t).toInt.toNat + (i - k.toNat) = (zI κ taLength t).toInt.toNat + i by omega] at z
      rw [show k.toNat + (i - k.toNat) = i by omega] at z2
      exact z.trans z2.symm
  refine ⟨yb, Z.tr q.1, q.2.1, by rw [q.2.2.2.2.1]; omega, ?_⟩
  rw [q.2.2.1, q.2.2.2.1]
  exact ⟨b1, b2⟩
theorem tw_r9 {κ τ : zS} {t a : Nat} (Z : zF (twF9 t) κ τ) : zR τ chTape a = zR κ chTape a := Z.r (fun z => z.2.elim (fun y => absurd y (by decide)) (fun y => absurd y (by decide)))
theorem by9_0 {a1 a2 a3 a4 a5 : Int32} {i : Nat} (hi : i < 4) : by9 a1 a2 a3 a4 a5 ((0 : Int).toNat + i) = bw9 a1 i := by
  have k : i = 0 ∨ i = 1 ∨ i = 2 ∨ i = 3 := by omega
  rcases k with rfl | rfl | rfl | rfl <;> rfl
theorem by9_1 {a1 a2 a3 a4 a5 : Int32} {i : Nat} (hi : i < 4) : by9 a1 a2 a3 a4 a5 ((4 : Int).toNat + i) = bw9 a2 i := by
  have k : i = 0 ∨ i = 1 ∨ i = 2 ∨ i = 3 := by omega
  rcases k with rfl | rfl | rfl | rfl <;> rfl
theorem by9_2 {a1 a2 a3 a4 a5 : Int32} {i : Nat} (hi : i < 4) : by9 a1 a2 a3 a4 a5 ((8 : Int).toNat + i) = bw9 a3 i := by
  have k : i = 0 ∨ i = 1 ∨ i = 2 ∨ i = 3 := by omega
  rcases k with rfl | rfl | rfl | rfl <;> rfl
theorem by9_3 {a1 a2 a3 a4 a5 : Int32} {i : Nat} (hi : i < 4) : by9 a1 a2 a3 a4 a5 ((12 : Int).toNat + i) = bw9 a4 i := by
  have k : i = 0 ∨ i = 1 ∨ i = 2 ∨ i = 3 := by omega
  rcases k with rfl | rfl | rfl | rfl <;> rfl
theorem by9_4 {a1 a2 a3 a4 a5 : Int32} {i : Nat} (hi : i < 4) : by9 a1 a2 a3 a4 a5 ((16 : Int).toNat + i) = bw9 a5 i := by
  have k : i = 0 ∨ i = 1 ∨ i = 2 ∨ i = 3 := by omega
  rcases k with rfl | rfl | rfl | rfl <;> rfl
theorem Ch_feed_c {C : zC} {n0 : Nat} {a0 : Nat} {a1 : Int32} {a2 : Int32} {a3 : Int32} {a4 : Int32} {a5 : Int32} {κ : zS} {Q : Int32 → zS → Prop} {X : zXp} (W : zW C n0 κ) (Ta0 : zT κ a0 = 15) (ρ : Nat → Nat) (L9 : Int) (hp : chI9 ρ κ a0 L9 ∧ L9 ≤ 10220) (h : ∀ (v : Int32) (κ' : zS), (chI9 ρ κ' a0 (L9 + 20) ∧ (∃ F, zF F κ κ') ∧ oC9 κ' a0 = fdO9 (oC9 κ a0) (by9 a1 a2 a3 a4 a5)) → Q v κ') (hx : ∀ (cls : String) (κ' : zS), (False) → X cls κ') : zRun C 8 mCh_feed [.ref a0, .int a1, .int a2, .int a3, .int a4, .int a5] κ (oI Q X) := by
  refine Ch_feed_run W Ta0 ?_
  replace W := W.lo (Nat.le_trans W.1.2.1 W.1.2.2) (Nat.le_refl (zn κ))
  unfold w_Ch_feed_0
  obtain ⟨I, l9⟩ := hp
  have A := I.1.1
  have B := A.1.1
  have hl := I.2.2.2.2.2.2.1
  have e20 : (20 : Int32).toInt = 20 := rfl
  have el : (zI κ taLength (zR κ chTape a0) + 20).toInt = (zI κ taLength (zR κ chTape a0)).toInt + 20 := by rw [add_i (by rw [e20]; omega) (by rw [e20]; omega), e20]
  refine ⟨fun c1 => ?_, fun c1 => ?_⟩
  · skip
    intro T2
    refine Ta_widen_c2 W T2  ?_ (fun κ_3 q4 => ?_)
    · exact ⟨A.1, by omega, by omega⟩  -- p1
    intro W5
    intro M6
    intro T7
    have J0 : fdI9 (by9 a1 a2 a3 a4 a5) κ κ_3 (zR κ chTape a0) 0 := ⟨⟨fun j hj => q4.2.2.2.2.2 j (by omega), fun i hi => absurd hi (by omega)⟩, q4.1.mono (fun f b z => ⟨z.2, Or.inr z.1⟩), q4.2.1, by rw [q4.2.2.1]; omega, by have y := q4.2.2.2.1; omega, q4.2.2.2.2.1⟩
    rw [tw_r9 J0.2.1] at T7 ⊢
    refine Ta_addWord_c2 W5 T7  ?_ (fun κ_8 q9 => ?_)
    · exact ⟨J0.2.2.1, by have y := J0.2.2.2; omega⟩  -- p2
    intro W10
    intro M11
    intro T12
    have J1 := fd_s9 (m := 4) (w := a1) (by omega) (by omega) (fun i hi => by9_0 hi) J0 (by omega) q9
    rw [tw_r9 J1.2.1] at T12 ⊢
    refine Ta_addWord_c2 W10 T12  ?_ (fun κ_13 q14 => ?_)
    · exact ⟨J1.2.2.1, by have y := J1.2.2.2; omega⟩  -- p3
    intro W15
    intro M16
    intro T17
    have J2 := fd_s9 (m := 8) (w := a2) (by omega) (by omega) (fun i hi => by9_1 hi) J1 (by omega) q14
    rw [tw_r9 J2.2.1] at T17 ⊢
    refine Ta_addWord_c2 W15 T17  ?_ (fun κ_18 q19 => ?_)
    · exact ⟨J2.2.2.1, by have y := J2.2.2.2; omega⟩  -- p4
    intro W20
    intro M21
    intro T22
    have J3 := fd_s9 (m := 12) (w := a3) (by omega) (by omega) (fun i hi => by9_2 hi) J2 (by omega) q19
    rw [tw_r9 J3.2.1] at T22 ⊢
    refine Ta_addWord_c2 W20 T22  ?_ (fun κ_23 q24 => ?_)
    · exact ⟨J3.2.2.1, by have y := J3.2.2.2; omega⟩  -- p5
    intro W25
    intro M26
    intro T27
    have J4 := fd_s9 (m := 16) (w := a4) (by omega) (by omega) (fun i hi => by9_3 hi) J3 (by omega) q24
    rw [tw_r9 J4.2.1] at T27 ⊢
    refine Ta_addWord_c2 W25 T27  ?_ (fun κ_28 q29 => ?_)
    · exact ⟨J4.2.2.1, by have y := J4.2.2.2; omega⟩  -- p6
    intro W30
    intro M31
    refine h _ _ ?_
    · have J5 := fd_s9 (m := 20) (w := a5) (by omega) (by omega) (fun i hi => by9_4 hi) J4 (by omega) q29
      have R := chI_t9 (L' := L9 + 20) W Ta0 J5.2.1 J5.2.2.2.2.2 J5.2.2.1 (by have y := J5.2.2.2.1; omega) I
      refine ⟨R.1, ⟨_, J5.2.1⟩, ?_⟩
      have l5 : zI κ_28 taLength (zR κ chTape a0) = zI κ taLength (zR κ chTape a0) + 20 := Int32.toInt_inj.mp (by rw [el]; exact J5.2.2.2.1)
      have fc : zI κ_28 chFaultCode a0 = zI κ chFaultCode a0 := J5.2.1.i (fun z => z.2.elim (fun y => absurd y (by decide)) (fun y => absurd y (by decide)))
      unfold oC9
      rw [tw_r9 J5.2.1, l5, fc]
      exact fd_m9 (by omega) (by omega) rfl J5.1.1 (fun i hi => J5.1.2 i (by omega))
  · skip
    intro κ_32 hκ_32
    refine hx _ _ ?_
    · have e65 : (65536 : Int32).toInt = 65536 := rfl
      rw [lei, el, e65] at c1
      omega

theorem Ch_end_c {C : zC} {n0 : Nat} {a0 : Nat} {a1 : Int32} {κ : zS} {Q : zS → Prop} {X : zXp} (W : zW C n0 κ) (Ta0 : zT κ a0 = 15) (ρ : Nat → Nat) (L9 : Int) (hp : chI9 ρ κ a0 L9) (h : ∀ (κ' : zS), (chI9 ρ κ' a0 L9 ∧ (∃ F, zF F κ κ') ∧ oC9 κ' a0 = trO9 (oC9 κ a0) a1) → Q κ') (hx : ∀ (cls : String) (κ' : zS), (cls = "java/lang/IllegalArgumentException" ∧ κ' = ut κ ∧ trO9 (oC9 κ a0) a1 = oC9 κ a0) → X cls κ') : zRun C 8 mCh_end [.ref a0, .int a1] κ (oV Q X) := by
  refine Ch_end_run W Ta0 ?_
  replace W := W.lo (Nat.le_trans W.1.2.1 W.1.2.2) (Nat.le_refl (zn κ))
  unfold w_Ch_end_0
  refine ⟨fun c1 => ?_, fun c1 => ?_⟩
  · skip
    intro κ_2 hκ_2
    refine hx _ _ ?_
    · refine ⟨rfl, hκ_2, tr_n9 (fun z => ?_)⟩
      have z1 := z.1
      rw [lti, t0i] at c1
      rw [lei, t0i] at z1
      omega
  · skip
    refine ⟨fun c3 => ?_, fun c3 => ?_⟩
    · skip
      intro κ_4 hκ_4
      intro W5
      refine h _ ?_
      · have Z : zF (twF9 (zR κ chTape a0)) κ κ_4 := by rw [hκ_4]; exact zF_ui ⟨rfl, Or.inl rfl⟩
        have R4 : zR κ_4 = zR κ := by rw [hκ_4]; rfl
        have N4 : zN κ_4 = zN κ := by rw [hκ_4]; rfl
        have i4 : zI κ_4 taLength (zR κ chTape a0) = a1 := by rw [hκ_4]; exact if_pos ⟨rfl, rfl⟩
        have i5 : zI κ_4 taTotal (zR κ chTape a0) = zI κ taTotal (zR κ chTape a0) := by rw [hκ_4]; rfl
        have B := hp.1.1.1
        have B1 := B.1
        have cc : 0 ≤ a1 ∧ a1 ≤ zI κ taLength (zR κ chTape a0) := ⟨by rw [lti, t0i] at c1; rw [lei, t0i]; omega, c3⟩
        rw [lti, t0i] at c1
        rw [lei] at c3
        have hl := hp.2.2.2.2.2.2
        have R := chI_t9 (L' := L9) W Ta0 Z (by rw [R4, N4]; exact Nat.le_refl _) (by
          unfold taI
          rw [R4, N4, i4, i5]
          exact ⟨⟨by omega, by omega, B.1.2.2⟩, B.2⟩) (by rw [i4]; omega) hp
        refine ⟨R.1, ⟨_, Z⟩, ?_⟩
        have A4 : zA κ_4 = zA κ := by rw [hκ_4]; rfl
        have f4 : zI κ_4 chFaultCode a0 = zI κ chFaultCode a0 := by rw [hκ_4]; rfl
        unfold oC9
        rw [tr_m9 cc, R4, A4, i4, f4]
    · skip
      intro κ_6 hκ_6
      refine hx _ _ ?_
      · exact ⟨rfl, hκ_6, tr_n9 (fun z => c3 z.2)⟩

theorem chI_o9 {C : zC} {n0 a : Nat} {L : Int} {ρ : Nat → Nat} {F : Nat → Nat → Prop} {κ τ : zS} (W : zW C n0 κ) (T : zT κ a = 15) (Z : zF F κ τ) (hF : ∀ f x, F f x → x = a) (hO : ∀ f, f / 100 = 15 → f ≠ chDrawnWeights → f ≠ chDrawnTotals → zR τ f a = zR κ f a) (hE : chE9 τ a) (I : chI9 ρ κ a L) : chI9 ρ τ a L := by
  have tt := ty_chTape W T
  have tm := ty_chMachine W T
  have un : ∀ x K, zT κ x = K → K ≠ 15 → un9 F x K := fun x K h1 h2 f _ z => by
    rw [hF f x z, T] at h1
    exact h2 h1.symm
  have ma : maL κ (zR κ chMachine a) := by
    have y := I.2.1.1.2.1
    rw [I.2.1.2.1] at y
    exact y
  have A := ta_u9 Z W tt (un _ 13 tt (by decide)) I.1.1
  exact chI_s9 W T Z (fun f x z => Or.inr (Or.inr (by rw [hF f x z]; exact T))) hO A.1 (ma_u9 Z W tm (un _ 7 tm (by decide)) ma) hE (by rw [A.2]; exact I.2.2.2.2.2.2.1) I
theorem Ch_tell_c {C : zC} {n0 : Nat} {a0 : Nat} {a1 : Int32} {κ : zS} {Q : Int32 → zS → Prop} {X : zXp} (W : zW C n0 κ) (Ta0 : zT κ a0 = 15) (ρ : Nat → Nat) (L9 : Int) (hp : chI9 ρ κ a0 L9) (h : ∀ (v : Int32) (κ' : zS), (chI9 ρ κ' a0 L9 ∧ (∃ F, zF F κ κ') ∧ oC9 κ' a0 = oC9 κ a0) → Q v κ') (hx : ∀ (cls : String) (κ' : zS), (cls = "java/lang/UnsupportedOperationException" ∧ κ' = ut κ) → X cls κ') : zRun C 8 mCh_tell [.ref a0, .int a1] κ (oI Q X) := by
  refine Ch_tell_run W Ta0 ?_
  replace W := W.lo (Nat.le_trans W.1.2.1 W.1.2.2) (Nat.le_refl (zn κ))
  unfold w_Ch_tell_0
  have E := hp.2.2.2.2.2.1
  have e200 : (200 : Int32).toInt = 200 := rfl
  refine ⟨fun c1 => ?_, fun c1 => ?_⟩
  · skip
    refine ⟨?_, ?_⟩
    · rw [lti, e200] at c1
      rw [inb_iff, E.1.1]
      have y := E.1.2
      omega
    intro κ_2 hκ_2
    intro W3
    intro κ_4 hκ_4
    intro W5
    refine h _ _ ?_
    · have o := W.o (show zr chTold = some 20 by decide +kernel) (by decide) (Ta0.trans (by decide))
      have Z : zF (fun f b => b = a0 ∧ (f = chTold ∨ f = chTolds)) κ κ_4 := zF.tr (κ1 := κ_2) (by
        rw [hκ_2]
        exact zF_ua (by rw [o]; exact ⟨rfl, Or.inl rfl⟩)) (by
        rw [hκ_4]
        exact zF_ui ⟨rfl, Or.inr rfl⟩)
      have R4 : zR κ_4 = zR κ := by rw [hκ_4, hκ_2]; rfl
      have N4 : zN κ_4 = zN κ := by rw [hκ_4, hκ_2]; rfl
      have i2 : zI κ_2 chTolds a0 = zI κ chTolds a0 := by rw [hκ_2]; rfl
      have i4 : zI κ_4 chTolds a0 = zI κ chTolds a0 + 1 := by
        rw [← i2, hκ_4]
        exact if_pos ⟨rfl, rfl⟩
      have c1' := c1
      rw [lti, e200] at c1'
      have y := E.1.2
      have ix := cn1 (x := zI κ chTolds a0) y.1 (by omega)
      refine ⟨chI_o9 W Ta0 Z (fun f x z => z.1) (fun f _ _ _ => by rw [R4]) ?_ hp, ⟨_, Z⟩, oC_u9 W Ta0 Z (fun z => z.2.elim (fun y => absurd y (by decide)) (fun y => absurd y (by decide))) (fun z => z.2.elim (fun y => absurd y (by decide)) (fun y => absurd y (by decide))) (fun z => z.2.elim (fun y => absurd y (by decide)) (fun y => absurd y (by decide))) (fun z => z.2.elim (fun y => absurd y (by decide)) (fun y => absurd y (by decide)))⟩
      unfold chE9 dwI9
      rw [R4, N4, i4, ix.2]
      exact ⟨⟨E.1.1, by omega, by omega⟩, E.2⟩
  · skip
    intro κ_6 hκ_6
    refine hx _ _ ?_
    · exact ⟨rfl, hκ_6⟩  -- x3

theorem Ch_forget_c {C : zC} {n0 : Nat} {a0 : Nat} {κ : zS} {Q : Int32 → zS → Prop} (W : zW C n0 κ) (Ta0 : zT κ a0 = 15) (ρ : Nat → Nat) (L9 : Int) (hp : chI9 ρ κ a0 L9) (h : ∀ (v : Int32) (κ' : zS), (chI9 ρ κ' a0 L9 ∧ (∃ F, zF F κ κ') ∧ oC9 κ' a0 = oC9 κ a0) → Q v κ') : zRun C 0 mCh_forget [.ref a0] κ (oI Q noX) := by
  refine Ch_forget_run W Ta0 ?_
  replace W := W.lo (Nat.le_trans W.1.2.1 W.1.2.2) (Nat.le_refl (zn κ))
  unfold w_Ch_forget_0
  intro x1 hx1
  intro κ_2 hκ_2
  intro W3
  refine h _ _ ?_
  · have E := hp.2.2.2.2.2.1
    have Z : zF (fun f b => b = a0 ∧ f = chTolds) κ κ_2 := by rw [hκ_2]; exact zF_ui ⟨rfl, rfl⟩
    have R4 : zR κ_2 = zR κ := by rw [hκ_2]; rfl
    have N4 : zN κ_2 = zN κ := by rw [hκ_2]; rfl
    have i4 : zI κ_2 chTolds a0 = 0 := by rw [hκ_2]; exact if_pos ⟨rfl, rfl⟩
    refine ⟨chI_o9 W Ta0 Z (fun f x z => z.1) (fun f _ _ _ => by rw [R4]) ?_ hp, ⟨_, Z⟩, oC_u9 W Ta0 Z (fun z => absurd z.2 (by decide)) (fun z => absurd z.2 (by decide)) (fun z => absurd z.2 (by decide)) (fun z => absurd z.2 (by decide))⟩
    unfold chE9 dwI9
    rw [R4, N4, i4]
    exact ⟨⟨E.1.1, by decide, by decide⟩, E.2⟩

/-- a play keeps all -/
theorem pf_q9 {C : zC} {n0 a : Nat} {L : Int} {ρ : Nat → Nat} {κ τ : zS} (W : zW C n0 κ) (T : zT κ a = 15) (I : chI9 ρ κ a L) (q : zF (pfF9 (zR κ chMachine a) a) κ τ ∧ (∀ f, f ≠ chDrawnWeights → f ≠ chDrawnTotals → zR τ f a = zR κ f a) ∧ mkI τ (zR κ chMachine a) ∧ dwI9 τ a) : chI9 ρ τ a L ∧ (∃ F, zF F κ τ) ∧ oC9 τ a = oC9 κ a := by
  obtain ⟨Z, R, K, D⟩ := q
  have tt := ty_chTape W T
  have tm := ty_chMachine W T
  have am := ch_m9 W T
  have hT : ∀ f x, pfF9 (zR κ chMachine a) a f x → zT κ x = 7 ∨ zT κ x = 15 := fun f x z => by
    rcases z with z | z
    · left; rw [z]; exact tm
    · right; rw [z.1]; exact T
  have it : zI τ chTolds a = zI κ chTolds a := Z.i (fun z => by
    rcases z with z | ⟨_, z | z | z | z | z⟩
    · exact am.1 z
    all_goals exact absurd z (by decide))
  have A := ta_u9 Z W tt (fun f _ z => by rcases hT f _ z with y | y <;> rw [tt] at y <;> exact absurd y (by decide)) I.1.1
  have E := I.2.2.2.2.2.1
  refine ⟨chI_s9 W T Z (fun f x z => (hT f x z).elim Or.inl (fun y => Or.inr (Or.inr y))) (fun f _ h2 h3 => R f h2 h3) A.1 K.1 ?_ (by rw [A.2]; exact I.2.2.2.2.2.2.1) I, ⟨_, Z⟩, oC_u9 W T Z (fun z => by
    rcases z with z | ⟨_, z | z | z | z | z⟩
    · exact am.1 z
    all_goals exact absurd z (by decide)) (fun z => by
    rcases z with z | ⟨_, z | z | z | z | z⟩
    · exact am.1 z
    all_goals exact absurd z (by decide)) (fun z => by rcases hT _ _ z with y | y <;> rw [tt] at y <;> exact absurd y (by decide)) (fun z => by rcases hT _ _ z with y | y <;> rw [tt] at y <;> exact absurd y (by decide))⟩
  refine ⟨?_, ?_, D⟩
  · rw [R chTold (by decide) (by decide), it, Z.l (ty_chTold W T)]
    exact E.1
  · rw [R chRecord (by decide) (by decide), R chLastShared (by decide) (by decide), Z.l (ty_chRecord W T), Z.l (ty_chLastShared W T)]
    exact E.2.1
theorem pf_p9 {a : Nat} {L : Int} {ρ : Nat → Nat} {κ : zS} {x : Int32} (I : chI9 ρ κ a L) (hx : x.toInt ≤ 2000) : maL κ (zR κ chMachine a) ∧ coI κ (zR κ chCode a) ∧ dwI9 κ a ∧ ((zN κ (zR κ chRecord a)) = 5 ∧ (zN κ (zR κ chLastShared a)) = 34 ∧ (zN κ (zR κ chTold a)) = 200 ∧ (zI κ chTolds a).toInt ≤ 200) ∧ atH κ (zR κ chAtlas a) ∧ (zI κ atExplored (zR κ chAtlas a) ≠ 0 → atM κ (zR κ chAtlas a)) ∧ x.toInt ≤ 2000 := by
  have ma := I.2.1.1.2.1
  rw [I.2.1.2.1] at ma
  have E := I.2.2.2.2.2.1
  refine ⟨ma, I.1.2.1.1.1, E.2.2, ⟨E.2.1.1, E.2.1.2, E.1.1, E.1.2.2⟩, I.2.1.1.1.2.2.1, fun z => ?_, hx⟩
  obtain ⟨n, hn⟩ := I.2.1.1.2.2.2.2 z
  exact hn.1
theorem Ch_play_c {C : zC} {n0 : Nat} {a0 : Nat} {a1 : Int64} {a3 : Int32} {κ : zS} {Q : Int32 → zS → Prop} {X : zXp} (W : zW C n0 κ) (Ta0 : zT κ a0 = 15) (ρ : Nat → Nat) (L9 : Int) (hp : chI9 ρ κ a0 L9) (h : ∀ (v : Int32) (κ' : zS), (chI9 ρ κ' a0 L9 ∧ (∃ F, zF F κ κ') ∧ oC9 κ' a0 = oC9 κ a0) → Q v κ') (hx : ∀ (cls : String) (κ' : zS), ((cls = "java/lang/IllegalStateException" ∨ cls = "java/lang/IllegalArgumentException") ∧ κ' = ut κ) → X cls κ') : zRun C 8 mCh_play [.ref a0, .long a1, .int a3] κ (oI Q X) := by
  refine Ch_play_run W Ta0 ?_
  replace W := W.lo (Nat.le_trans W.1.2.1 W.1.2.2) (Nat.le_refl (zn κ))
  unfold w_Ch_play_0
  refine ⟨fun c1 => ?_, fun c1 => ?_⟩
  · skip
    refine ⟨fun c2 => ?_, fun c2 => ?_⟩
    · skip
      intro κ_3 hκ_3
      refine hx _ _ ?_
      · exact ⟨Or.inr rfl, hκ_3⟩  -- x1
    · skip
      refine ⟨fun c4 => ?_, fun c4 => ?_⟩
      · skip
        intro T5
        refine Ch_perform_c W T5  ?_ (fun r6 κ_7 q8 => ?_)
        · have e : (2000 : Int32).toInt = 2000 := rfl
          rw [lei, e] at c4
          exact pf_p9 hp c4
        intro W9
        intro M10
        refine h _ _ ?_
        · exact pf_q9 W Ta0 hp q8  -- q3
      · skip
        intro κ_11 hκ_11
        refine hx _ _ ?_
        · exact ⟨Or.inr rfl, hκ_11⟩  -- x4
  · skip
    intro κ_12 hκ_12
    refine hx _ _ ?_
    · exact ⟨Or.inl rfl, hκ_12⟩  -- x5

theorem Ch_walk_c {C : zC} {n0 : Nat} {a0 : Nat} {a1 : Int32} {κ : zS} {Q : Int32 → zS → Prop} {X : zXp} (W : zW C n0 κ) (Ta0 : zT κ a0 = 15) (ρ : Nat → Nat) (L9 : Int) (hp : chI9 ρ κ a0 L9) (h : ∀ (v : Int32) (κ' : zS), (chI9 ρ κ' a0 L9 ∧ (∃ F, zF F κ κ') ∧ oC9 κ' a0 = oC9 κ a0) → Q v κ') (hx : ∀ (cls : String) (κ' : zS), ((cls = "java/lang/IllegalStateException" ∨ cls = "java/lang/IllegalArgumentException") ∧ κ' = ut κ) → X cls κ') : zRun C 8 mCh_walk [.ref a0, .int a1] κ (oI Q X) := by
  refine Ch_walk_run W Ta0 ?_
  replace W := W.lo (Nat.le_trans W.1.2.1 W.1.2.2) (Nat.le_refl (zn κ))
  unfold w_Ch_walk_0
  refine ⟨fun c1 => ?_, fun c1 => ?_⟩
  · skip
    refine ⟨fun c2 => ?_, fun c2 => ?_⟩
    · skip
      intro κ_3 hκ_3
      refine hx _ _ ?_
      · exact ⟨Or.inr rfl, hκ_3⟩  -- x1
    · skip
      refine ⟨fun c4 => ?_, fun c4 => ?_⟩
      · skip
        intro T5
        refine Ch_perform_c W T5  ?_ (fun r6 κ_7 q8 => ?_)
        · have e : (2000 : Int32).toInt = 2000 := rfl
          rw [lei, e] at c4
          exact pf_p9 hp c4
        intro W9
        intro M10
        refine h _ _ ?_
        · exact pf_q9 W Ta0 hp q8  -- q3
      · skip
        intro κ_11 hκ_11
        refine hx _ _ ?_
        · exact ⟨Or.inr rfl, hκ_11⟩  -- x4
  · skip
    intro κ_12 hκ_12
    refine hx _ _ ?_
    · exact ⟨Or.inl rfl, hκ_12⟩  -- x5
