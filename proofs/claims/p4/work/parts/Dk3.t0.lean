set_option maxHeartbeats 1600000
/-! tokens: the tape's rows as far as they are counted -/
abbrev Y5 : Type := (Nat → Int32) × (Nat → Int32) × (Nat → Int32) × Int32
def my5 (f : Nat → Int32) (n : Int32) : Nat → Int32 := fun j => if j < n.toNatClampNeg then f j else 0
def ty5 (κ : zS) (t : Nat) : Y5 := (my5 (zA κ (zR κ taKinds t)) (zI κ taTotal t), my5 (zA κ (zR κ taPlaces t)) (zI κ taTotal t), my5 (zA κ (zR κ taLengths t)) (zI κ taTotal t), zI κ taTotal t)
def pu5 (f : Nat → Int32) (n x : Int32) : Nat → Int32 := fun j => if j = n.toNatClampNeg then x else f j
def tk5 (k p s : Int32) (y : Y5) : Y5 := (pu5 y.1 y.2.2.2 k, pu5 y.2.1 y.2.2.2 p, pu5 y.2.2.1 y.2.2.2 s, y.2.2.2 + 1)
def sz5 (U : U5) (r : Int32) : Int32 := if U.2.1 ≤ r then 0 else f5_Ta_sizeAt U r
def kn5 (U : U5) (r : Int32) : Int32 := if U.2.1 ≤ r then 142 else f5_Ta_kindOf U r (sz5 U r)
def f5_Ta_split_9 (U : U5) : Nat → Int32 → Int32 → Y5 → Y5
  | 0, _, _, y => y
  | m5 + 1, a1, a2, y => if U.2.1 < a2 then y else if kn5 U (f5_Ta_skipBlanks U a1) = 142 then tk5 (kn5 U (f5_Ta_skipBlanks U a1)) (f5_Ta_skipBlanks U a1) (sz5 U (f5_Ta_skipBlanks U a1)) y else if kn5 U (f5_Ta_skipBlanks U a1) = 143 then tk5 (kn5 U (f5_Ta_skipBlanks U a1)) (f5_Ta_skipBlanks U a1) (sz5 U (f5_Ta_skipBlanks U a1)) y else f5_Ta_split_9 U m5 (f5_Ta_skipBlanks U a1 + sz5 U (f5_Ta_skipBlanks U a1)) (a2 + 1) (tk5 (kn5 U (f5_Ta_skipBlanks U a1)) (f5_Ta_skipBlanks U a1) (sz5 U (f5_Ta_skipBlanks U a1)) y)
def y05 : Y5 := (fun _ => 0, fun _ => 0, fun _ => 0, 0)
def f5_Ta_split (U : U5) : Y5 := f5_Ta_split_9 U fu5 0 0 y05
theorem sp_s5 {U : U5} {m : Nat} {a1 a2 : Int32} {y : Y5} (h : ¬ U.2.1 < a2) : f5_Ta_split_9 U (m + 1) a1 a2 y = if kn5 U (f5_Ta_skipBlanks U a1) = 142 then tk5 (kn5 U (f5_Ta_skipBlanks U a1)) (f5_Ta_skipBlanks U a1) (sz5 U (f5_Ta_skipBlanks U a1)) y else if kn5 U (f5_Ta_skipBlanks U a1) = 143 then tk5 (kn5 U (f5_Ta_skipBlanks U a1)) (f5_Ta_skipBlanks U a1) (sz5 U (f5_Ta_skipBlanks U a1)) y else f5_Ta_split_9 U m (f5_Ta_skipBlanks U a1 + sz5 U (f5_Ta_skipBlanks U a1)) (a2 + 1) (tk5 (kn5 U (f5_Ta_skipBlanks U a1)) (f5_Ta_skipBlanks U a1) (sz5 U (f5_Ta_skipBlanks U a1)) y) := if_neg h
theorem my_05 {f : Nat → Int32} : my5 f 0 = fun _ => 0 := funext fun j => if_neg (by show ¬ j < 0; omega)
theorem ty_05 {κ : zS} {t : Nat} : ty5 (ui κ taTotal t 0) t = y05 := by
  have e : zI (ui κ taTotal t 0) taTotal t = 0 := if_pos ⟨rfl, rfl⟩
  unfold ty5
  rw [e, my_05, my_05, my_05]
  rfl
theorem my_p5 {f g : Nat → Int32} {n x : Int32} (h0 : 0 ≤ n.toInt) (h1 : n.toInt < (20500 : Nat)) (hg : ∀ j, g j = if j = n.toNatClampNeg then x else f j) : my5 g (n + 1) = pu5 (my5 f n) n x := by
  have hL := inc_n5 h0 h1 (by decide)
  funext j
  unfold my5 pu5
  rw [hL, hg]
  by_cases z : j = n.toNatClampNeg
  · rw [if_pos (by omega), if_pos z, if_pos z]
  · rw [if_neg z, if_neg z]
    by_cases y : j < n.toNatClampNeg
    · rw [if_pos (by omega)]; exact (if_pos y).symm
    · rw [if_neg (by omega)]; exact (if_neg y).symm
theorem my_c5 {f g : Nat → Int32} {n : Int32} (h : ∀ j, j < n.toNatClampNeg → g j = f j) : my5 g n = my5 f n := by
  funext j
  unfold my5
  by_cases y : j < n.toNatClampNeg
  · rw [if_pos y, if_pos y]; exact h j y
  · rw [if_neg y, if_neg y]
/-- one token more -/
theorem ad_5 {C : zC} {n0 t : Nat} {τ κ1 κ3 κ5 κ7 : zS} {k p s : Int32} (W : zW C n0 τ) (T : zT τ t = 13) (h1 : κ1 = ua τ (zR τ taKinds t) (zI τ taTotal t).toNatClampNeg k) (h3 : κ3 = ua κ1 (zR κ1 taPlaces t) (zI κ1 taTotal t).toNatClampNeg p) (h5 : κ5 = ua κ3 (zR κ3 taLengths t) (zI κ3 taTotal t).toNatClampNeg s) (h7 : κ7 = ui κ5 taTotal t (zI κ5 taTotal t + 1)) (l0 : 0 ≤ (zI τ taTotal t).toInt) (l1 : (zI τ taTotal t).toInt < (20500 : Nat)) : up5 κ7 t = up5 τ t ∧ ty5 κ7 t = tk5 k p s (ty5 τ t) := by
  have n1 : zR τ taPlaces t ≠ zR τ taKinds t := taRf_n W T (by decide) (by decide) (by decide)
  have n2 : zR τ taLengths t ≠ zR τ taKinds t := taRf_n W T (by decide) (by decide) (by decide)
  have n3 : zR τ taLengths t ≠ zR τ taPlaces t := taRf_n W T (by decide) (by decide) (by decide)
  have n4 : zR τ taBytes t ≠ zR τ taKinds t := taRf_n W T (by decide) (by decide) (by decide)
  have n5 : zR τ taBytes t ≠ zR τ taPlaces t := taRf_n W T (by decide) (by decide) (by decide)
  have n6 : zR τ taBytes t ≠ zR τ taLengths t := taRf_n W T (by decide) (by decide) (by decide)
  have r7 : zR κ7 = zR τ := by subst h1 h3 h5 h7; rfl
  have i7 : zI κ7 taTotal t = zI τ taTotal t + 1 := by subst h1 h3 h5 h7; exact if_pos ⟨rfl, rfl⟩
  have hA : ∀ b, zA κ7 b = if b = zR τ taLengths t then upd (zA κ3 b) (zI τ taTotal t).toNatClampNeg s else if b = zR τ taPlaces t then upd (zA κ1 b) (zI τ taTotal t).toNatClampNeg p else if b = zR τ taKinds t then upd (zA τ b) (zI τ taTotal t).toNatClampNeg k else zA τ b := fun b => by
    subst h1 h3 h5 h7
    show (if b = zR τ taLengths t then upd _ _ _ else if b = zR τ taPlaces t then upd _ _ _ else if b = zR τ taKinds t then upd _ _ _ else zA τ b) = _
    by_cases a : b = zR τ taLengths t
    · subst a
      rw [if_pos rfl, if_pos rfl]
      rfl
    · rw [if_neg a, if_neg a]
      by_cases c : b = zR τ taPlaces t
      · subst c
        rw [if_pos rfl, if_pos rfl]
        rfl
      · rw [if_neg c, if_neg c]
        by_cases d : b = zR τ taKinds t
        · subst d
          rw [if_pos rfl]
        · rw [if_neg d, if_neg d]
  have a3 : zA κ3 (zR τ taLengths t) = zA τ (zR τ taLengths t) := by
    subst h1 h3
    exact (if_neg n3).trans (if_neg n2)
  have a1 : zA κ1 (zR τ taPlaces t) = zA τ (zR τ taPlaces t) := by
    subst h1
    exact if_neg n1
  refine ⟨?_, ?_⟩
  · unfold up5
    rw [r7, hA, if_neg n6, if_neg n5, if_neg n4]
    subst h1 h3 h5 h7
    rfl
  · unfold ty5 tk5
    rw [r7, i7, hA (zR τ taKinds t), if_neg (fun z => n2 z.symm), if_neg (fun z => n1 z.symm), if_pos rfl, hA (zR τ taPlaces t), if_neg (fun z => n3 z.symm), if_pos rfl, hA (zR τ taLengths t), if_pos rfl, a3, a1, my_p5 l0 l1 (fun j => upd_5), my_p5 l0 l1 (fun j => upd_5), my_p5 l0 l1 (fun j => upd_5)]
theorem Ta_addToken_q5 {C : zC} {n0 : Nat} {a0 : Nat} {a1 : Int32} {a2 : Int32} {a3 : Int32} {κ : zS} {Q : zS → Prop} (W : zW C n0 κ) (Ta0 : zT κ a0 = 13)  (hp : taI κ a0 ∧ tokI κ a0 ∧ (zI κ taTotal a0).toInt < 10245 ∧ 0 ≤ a2.toInt ∧ 0 ≤ a3.toInt ∧ a2.toInt + a3.toInt ≤ (zN κ (zR κ taBytes a0))) (h : ∀ (κ' : zS), ((zF (objF a0) κ κ' ∧ taI κ' a0 ∧ tokI κ' a0 ∧ zI κ' taTotal a0 = zI κ taTotal a0 + 1 ∧ (∀ f, f ≠ taTotal → zI κ' f a0 = zI κ f a0) ∧ zR κ' taBytes a0 = zR κ taBytes a0) ∧ (up5 κ' a0 = up5 κ a0 ∧ ty5 κ' a0 = tk5 a1 a2 a3 (ty5 κ a0))) → Q κ') : zRun C 2 mTa_addToken [.ref a0, .int a1, .int a2, .int a3] κ (oV Q noX) := by
  refine Ta_addToken_run W Ta0 ?_
  replace W := W.lo (Nat.le_trans W.1.2.1 W.1.2.2) (Nat.le_refl (zn κ))
  unfold w_Ta_addToken_0
  obtain ⟨H, K, p0, p1, p2, p3⟩ := hp
  have B := H.1
  have B2 := H.2
  have oN := W.n (ty_taKinds W Ta0)
  have hj63 : ∀ (l0 : Nat) (l1 : Int32) (l2 : Int32) (l3 : Int32) (τ : zS), zW C (zn κ) τ → zT τ l0 = 13 → ((a0 = l0 ∧ a1 = l1 ∧ a2 = l2 ∧ a3 = l3 ∧ tkJ κ τ a0) ∧ (up5 τ a0 = up5 κ a0 ∧ ty5 τ a0 = ty5 κ a0)) → w_Ta_addToken_63 C (zn κ) Q  l0 l1 l2 l3 τ := by
    rintro _ _ _ _ τ63 W63 T63_0 ⟨⟨rfl, rfl, rfl, rfl, j63⟩, hE⟩
    unfold w_Ta_addToken_63
    obtain ⟨F, jI, J, jK, jl, jB⟩ := j63
    have D1 := J.1
    have D2 := J.2
    rw [jI] at D1 D2
    have kt := cnk B2.1
    refine ⟨?_, ?_⟩
    · rw [inb_iff, jI]; omega  -- b1
    intro κ_1 hκ_1
    intro W2
    refine ⟨?_, ?_⟩
    · rw [hκ_1, inb_iff]
      show 0 ≤ (zI τ63 taTotal a0).toInt ∧ (zI τ63 taTotal a0).toInt < ((zN τ63 (zR τ63 taPlaces a0) : Nat) : Int)
      rw [jI]; omega
    intro κ_3 hκ_3
    intro W4
    refine ⟨?_, ?_⟩
    · rw [hκ_3, hκ_1, inb_iff]
      show 0 ≤ (zI τ63 taTotal a0).toInt ∧ (zI τ63 taTotal a0).toInt < ((zN τ63 (zR τ63 taLengths a0) : Nat) : Int)
      rw [jI]; omega
    intro κ_5 hκ_5
    intro W6
    intro κ_7 hκ_7
    intro W8
    refine h _ ?_
    · refine and_5 ?_ (fun o9 => ?_)  -- q4
      · have f1 : zF (objF a0) τ63 κ_1 := by rw [hκ_1]; exact zF_ua (by rw [ow_taKinds W63 T63_0])
        have T1 := f1.t T63_0 (by decide)
        have f3 : zF (objF a0) κ_1 κ_3 := by rw [hκ_3]; exact zF_ua (by rw [ow_taPlaces W2 T1])
        have T3 := f3.t T1 (by decide)
        have f5 : zF (objF a0) κ_3 κ_5 := by rw [hκ_5]; exact zF_ua (by rw [ow_taLengths W4 T3])
        have f7 : zF (objF a0) κ_5 κ_7 := by rw [hκ_7]; exact zF_ui rfl
        have i1 : zI κ_1 = zI κ := by rw [hκ_1]; exact jI
        have i3 : zI κ_3 = zI κ := by rw [hκ_3]; exact i1
        have i5 : zI κ_5 = zI κ := by rw [hκ_5]; exact i3
        have r1 : zR κ_1 = zR τ63 := by rw [hκ_1]; rfl
        have r3 : zR κ_3 = zR τ63 := by rw [hκ_3]; exact r1
        have r7 : zR κ_7 = zR τ63 := by rw [hκ_7, hκ_5]; exact r3
        have n7 : zN κ_7 = zN τ63 := by rw [hκ_7, hκ_5, hκ_3, hκ_1]; rfl
        have is : zI κ_7 taTotal a0 = zI κ taTotal a0 + 1 := by
          rw [hκ_7]
          refine (if_pos ⟨rfl, rfl⟩).trans ?_
          rw [i5]
        have io : ∀ f, f ≠ taTotal → zI κ_7 f a0 = zI κ f a0 := fun f hf => by
          rw [hκ_7]
          exact (if_neg (fun z => hf z.1)).trans (congrFun (congrFun i5 f) a0)
        have ts : (zI κ_7 taTotal a0).toInt = (zI κ taTotal a0).toInt + 1 := by rw [is, add_i (by rw [t1i]; omega) (by rw [t1i]; omega), t1i]
        have xp : zA κ_7 (zR τ63 taPlaces a0) = upd (zA τ63 (zR τ63 taPlaces a0)) (zI κ taTotal a0).toNatClampNeg a2 := by
          have e7 : zA κ_7 = zA κ_5 := by rw [hκ_7]; rfl
          have e5 : zA κ_5 (zR τ63 taPlaces a0) = zA κ_3 (zR τ63 taPlaces a0) := by
            rw [hκ_5, r3]
            exact if_neg (taRf_n W63 T63_0 (by decide) (by decide) (by decide))
          rw [e7, e5, hκ_3, r1, i1]
          refine (if_pos rfl).trans ?_
          have e1 : zA κ_1 (zR τ63 taPlaces a0) = zA τ63 (zR τ63 taPlaces a0) := by rw [hκ_1]; exact if_neg (taRf_n W63 T63_0 (by decide) (by decide) (by decide))
          show upd (zA κ_1 (zR τ63 taPlaces a0)) _ _ = _
          rw [e1]
        have xl : zA κ_7 (zR τ63 taLengths a0) = upd (zA τ63 (zR τ63 taLengths a0)) (zI κ taTotal a0).toNatClampNeg a3 := by
          have e7 : zA κ_7 = zA κ_5 := by rw [hκ_7]; rfl
          rw [e7, hκ_5, r3, i3]
          refine (if_pos rfl).trans ?_
          have e3 : zA κ_3 (zR τ63 taLengths a0) = zA τ63 (zR τ63 taLengths a0) := by
            rw [hκ_3, r1]
            refine (if_neg (taRf_n W63 T63_0 (by decide) (by decide) (by decide))).trans ?_
            rw [hκ_1]
            exact if_neg (taRf_n W63 T63_0 (by decide) (by decide) (by decide))
          show upd (zA κ_3 (zR τ63 taLengths a0)) _ _ = _
          rw [e3]
        have lb : zN τ63 (zR τ63 taBytes a0) = zN κ (zR κ taBytes a0) := by rw [jB]; exact F.l (ty_taBytes W Ta0)
        refine ⟨(((F.tr f1).tr f3).tr f5).tr f7, ?_, fun i hi => ?_, is, io, by rw [r7]; exact jB⟩
        · unfold taI
          rw [r7, n7, ts, io taLength (by decide)]
          exact ⟨D1, by omega, by omega, D2.2.2⟩
        · rw [r7, n7] at hi
          rw [r7, n7, xp, xl]
          have g := jK i hi
          show 0 ≤ Int32.toInt (if i = _ then a2 else _) ∧ 0 ≤ Int32.toInt (if i = _ then a3 else _) ∧ Int32.toInt (if i = _ then a2 else _) + Int32.toInt (if i = _ then a3 else _) ≤ _
          by_cases z : i = (zI κ taTotal a0).toNatClampNeg
          · rw [if_pos z, if_pos z]; omega
          · rw [if_neg z, if_neg z]; exact g
      · have z := ad_5 W63 T63_0 hκ_1 hκ_3 hκ_5 hκ_7 (by rw [jI]; exact B2.1) (by rw [jI]; omega)
        exact ⟨z.1.trans hE.1, by rw [z.2, hE.2]⟩
  refine ⟨fun c9 => ?_, fun c9 => ?_⟩
  · skip
    refine hj63 _ _ _ _ _ W ?_ ?_
    · exact Ta0  -- t5
    · refine and_5 ?_ (fun o9 => ⟨rfl, rfl⟩)  -- k6
      rw [lti, ofn_i oN] at c9
      exact ⟨rfl, rfl, rfl, rfl, zF.rf, rfl, H, K, c9, rfl⟩
  · skip
    intro T10
    have d9 : (zI κ taTotal a0).toInt = zN κ (zR κ taKinds a0) := by rw [lti, ofn_i oN] at c9; omega
    have e2 : (zI κ taTotal a0 * 2).toInt = (zI κ taTotal a0).toInt * 2 := by rw [mul_i (by rw [t2i]; omega) (by rw [t2i]; omega), t2i]
    have kn := cnk (x := zI κ taTotal a0 * 2) (by omega)
    refine Ar_copyOf_c W T10  ?_ (fun r11 κ_12 q13 => ?_)
    · exact ⟨⟨by rw [lei, t0i]; omega, by omega⟩, fun e => by
        have e9 := congrArg Int32.toInt e
        rw [ofn_i oN] at e9
        omega⟩
    intro W14
    intro M15
    intro T16
    refine ⟨?_, ?_⟩
    · rw [q13.1]; exact q13.2.2.1  -- b8
    intro κ_17 hκ_17
    intro W18
    intro T19
    have h1 : κ_17 = uo κ_12 taKinds a0 (zn κ) := by rw [hκ_17, q13.1]
    obtain ⟨F1, u1, u2, u3, u4, u5, u6, -⟩ := gr_f (f := taKinds) W (by decide +kernel) (by decide) Ta0 (by decide) q13.2 h1 (by omega) (by omega)
    have T17 := F1.t Ta0 (by decide)
    have rp : zR κ_17 taPlaces a0 = zR κ taPlaces a0 := u2 taPlaces a0 (fun z => absurd z.1 (by decide))
    have np := u5 _ _ (ty_taPlaces W Ta0)
    have pN := W18.n (ty_taPlaces W18 T17)
    rw [u1]
    refine Ar_copyOf_c W18 T19  ?_ (fun r20 κ_21 q22 => ?_)
    · exact ⟨⟨by rw [lei, t0i]; omega, by omega⟩, fun e => by
        have e9 := congrArg Int32.toInt e
        rw [ofn_i pN, rp, np.1] at e9
        omega⟩
    intro W23
    intro M24
    intro T25
    refine ⟨?_, ?_⟩
    · rw [q22.1]; exact q22.2.2.1  -- b10
    intro κ_26 hκ_26
    intro W27
    intro T28
    have h2 : κ_26 = uo κ_21 taPlaces a0 (zn κ_17) := by rw [hκ_26, q22.1]
    obtain ⟨F2, v1, v2, v3, v4, v5, v6, v7⟩ := gr_f (f := taPlaces) W18 (by decide +kernel) (by decide) T17 (by decide) q22.2 h2 (by rw [rp, np.1]; omega) (by rw [rp, np.1]; omega)
    have T26 := F2.t T17 (by decide)
    have rl1 : zR κ_17 taLengths a0 = zR κ taLengths a0 := u2 taLengths a0 (fun z => absurd z.1 (by decide))
    have rl2 : zR κ_26 taLengths a0 = zR κ_17 taLengths a0 := v2 taLengths a0 (fun z => absurd z.1 (by decide))
    have nl1 := u5 _ _ (ty_taLengths W Ta0)
    have nl2 := v5 _ _ (ty_taLengths W18 T17)
    have lN := W27.n (ty_taLengths W27 T26)
    have ln : zN κ_26 (zR κ_26 taLengths a0) = zN κ (zR κ taLengths a0) := by rw [rl2, nl2.1, rl1, nl1.1]
    rw [v1, u1]
    refine Ar_copyOf_c W27 T28  ?_ (fun r29 κ_30 q31 => ?_)
    · exact ⟨⟨by rw [lei, t0i]; omega, by omega⟩, fun e => by
        have e9 := congrArg Int32.toInt e
        rw [ofn_i lN, ln] at e9
        omega⟩
    intro W32
    intro M33
    intro T34
    refine ⟨?_, ?_⟩
    · rw [q31.1]; exact q31.2.2.1  -- b12
    intro κ_35 hκ_35
    intro W36
    have h3 : κ_35 = uo κ_30 taLengths a0 (zn κ_26) := by rw [hκ_35, q31.1]
    obtain ⟨F3, w1, w2, w3, w4, w5, w6, w7⟩ := gr_f (f := taLengths) W27 (by decide +kernel) (by decide) T26 (by decide) q31.2 h3 (by rw [ln]; omega) (by rw [ln]; omega)
    have FF : zF (objF a0) κ κ_35 := ((F1.mono (fun _ _ z => z.2)).tr (F2.mono (fun _ _ z => z.2))).tr (F3.mono (fun _ _ z => z.2))
    refine hj63 _ _ _ _ _ W36 ?_ ?_
    · exact FF.t Ta0 (by decide)  -- t13
    · refine and_5 ?_ (fun o9 => ?_)  -- k14
      · have ii : zI κ_35 = zI κ := w1.trans (v1.trans u1)
        have kB : zR κ_35 taBytes a0 = zR κ taBytes a0 := (w2 taBytes a0 (fun z => absurd z.1 (by decide))).trans ((v2 taBytes a0 (fun z => absurd z.1 (by decide))).trans (u2 taBytes a0 (fun z => absurd z.1 (by decide))))
        have kK : zR κ_35 taKinds a0 = zn κ := (w2 taKinds a0 (fun z => absurd z.1 (by decide))).trans ((v2 taKinds a0 (fun z => absurd z.1 (by decide))).trans u3)
        have kP : zR κ_35 taPlaces a0 = zn κ_17 := (w2 taPlaces a0 (fun z => absurd z.1 (by decide))).trans v3
        have tK : zT κ_17 (zn κ) = 20 := by rw [← u3]; exact ty_taKinds W18 T17
        have tP : zT κ_26 (zn κ_17) = 20 := by rw [← v3]; exact ty_taPlaces W27 T26
        have nK : zN κ_35 (zn κ) = (zI κ taTotal a0 * 2).toNatClampNeg := ((w5 _ _ (F2.t tK (by decide))).1).trans (((v5 _ _ tK).1).trans u4)
        have nP : zN κ_35 (zn κ_17) = (zI κ taTotal a0 * 2).toNatClampNeg := ((w5 _ _ tP).1).trans v4
        have nB : zN κ_35 (zR κ taBytes a0) = zN κ (zR κ taBytes a0) := FF.l (ty_taBytes W Ta0)
        have aP : ∀ i, i < (zI κ taTotal a0 * 2).toNatClampNeg → zA κ_35 (zn κ_17) i = zA κ (zR κ taPlaces a0) i ∧ i < zN κ (zR κ taPlaces a0) ∨ zA κ_35 (zn κ_17) i = 0 ∧ zN κ (zR κ taPlaces a0) ≤ i := fun i hi => by
          rw [(w5 _ _ tP).2]
          by_cases z : i < zN κ (zR κ taPlaces a0)
          · left
            refine ⟨?_, z⟩
            rw [v6 i hi (by rw [rp, np.1]; exact z), rp, np.2]
          · right
            exact ⟨v7 i (by rw [rp, np.1]; omega), by omega⟩
        have aL : ∀ i, i < (zI κ taTotal a0 * 2).toNatClampNeg → zA κ_35 (zn κ_26) i = zA κ (zR κ taLengths a0) i ∧ i < zN κ (zR κ taLengths a0) ∨ zA κ_35 (zn κ_26) i = 0 ∧ zN κ (zR κ taLengths a0) ≤ i := fun i hi => by
          by_cases z : i < zN κ (zR κ taLengths a0)
          · left
            refine ⟨?_, z⟩
            rw [w6 i hi (by rw [ln]; exact z), rl2, nl2.2, rl1, nl1.2]
          · right
            exact ⟨w7 i (by rw [ln]; omega), by omega⟩
        refine ⟨rfl, rfl, rfl, rfl, FF, ii, ?_, fun i hi => ?_, by rw [kK, nK]; omega, kB⟩
        · unfold taI
          rw [ii, kB, kK, kP, w3, nB, nK, nP, w4]
          exact ⟨B, B2.1, by omega, rfl, rfl, by omega, by omega⟩
        · rw [kK, nK] at hi
          rw [kP, w3, kB, nB]
          rcases aP i hi with ⟨e, z⟩ | ⟨e, z⟩
          · rcases aL i hi with ⟨e3, z3⟩ | ⟨e3, z3⟩
            · rw [e, e3]; exact K i (by omega)
            · omega
          · rcases aL i hi with ⟨e3, z3⟩ | ⟨e3, z3⟩
            · omega
            · rw [e, e3, t0i]; omega
      · have ii : zI κ_35 = zI κ := w1.trans (v1.trans u1)
        have kB : zR κ_35 taBytes a0 = zR κ taBytes a0 := (w2 taBytes a0 (fun z => absurd z.1 (by decide))).trans ((v2 taBytes a0 (fun z => absurd z.1 (by decide))).trans (u2 taBytes a0 (fun z => absurd z.1 (by decide))))
        have kK : zR κ_35 taKinds a0 = zn κ := (w2 taKinds a0 (fun z => absurd z.1 (by decide))).trans ((v2 taKinds a0 (fun z => absurd z.1 (by decide))).trans u3)
        have kP : zR κ_35 taPlaces a0 = zn κ_17 := (w2 taPlaces a0 (fun z => absurd z.1 (by decide))).trans v3
        have tK : zT κ_17 (zn κ) = 20 := by rw [← u3]; exact ty_taKinds W18 T17
        have tP : zT κ_26 (zn κ_17) = 20 := by rw [← v3]; exact ty_taPlaces W27 T26
        have tB := ty_taBytes W Ta0
        have kt := cnk B2.1
        refine ⟨?_, ?_⟩
        · unfold up5
          rw [ii, kB]
          have b1 := u5 _ _ tB
          have b2 := v5 _ _ (F1.t tB (by decide))
          have b3 := w5 _ _ (F2.t (F1.t tB (by decide)) (by decide))
          rw [b3.1, b3.2, b2.1, b2.2, b1.1, b1.2]
        · unfold ty5
          rw [ii, kK, kP, w3]
          refine Prod.ext (my_c5 (fun j hj => ?_)) (Prod.ext (my_c5 (fun j hj => ?_)) (Prod.ext (my_c5 (fun j hj => ?_)) rfl))
          · rw [(w5 _ _ (F2.t tK (by decide))).2, (v5 _ _ tK).2]
            exact u6 j (by omega) (by omega)
          · rw [(w5 _ _ tP).2, v6 j (by omega) (by rw [rp, np.1]; omega), rp, np.2]
          · rw [w6 j (by omega) (by rw [ln]; omega), rl2, nl2.2, rl1, nl1.2]

theorem Ta_split_q5 {C : zC} {n0 : Nat} {a0 : Nat} {κ : zS} {Q : zS → Prop} (W : zW C n0 κ) (Ta0 : zT κ a0 = 13) (hx5 : tx5 C) (hp : taI κ a0 ∧ tokI κ a0 ∧ (zI κ taLength a0).toInt ≤ 10240) (h : ∀ (κ' : zS), ((zF (objF a0) κ κ' ∧ taI κ' a0 ∧ tokI κ' a0 ∧ (zI κ' taTotal a0).toInt ≤ 10242 ∧ zR κ' taBytes a0 = zR κ taBytes a0 ∧ zI κ' taLength a0 = zI κ taLength a0) ∧ (f5_Ta_split (up5 κ a0) = ty5 κ' a0 ∧ up5 κ' a0 = up5 κ a0)) → Q κ') : zRun C 13 mTa_split [.ref a0] κ (oV Q noX) := by
  refine Ta_split_run W Ta0 ?_
  replace W := W.lo (Nat.le_trans W.1.2.1 W.1.2.2) (Nat.le_refl (zn κ))
  unfold w_Ta_split_0
  obtain ⟨H, K, p0⟩ := hp
  have B := H.1
  intro κ_1 hκ_1
  intro W2
  unfold w_Ta_split_9
  refine ⟨fun n l0 l1 l2 τ => n = ((zI κ taLength a0).toInt + 1 - l2.toInt).toNat ∧ ((a0 = l0 ∧ zF (objF a0) κ τ ∧ taI τ a0 ∧ tokI τ a0 ∧ (zI τ taTotal a0).toInt = l2.toInt ∧ 0 ≤ l2.toInt ∧ zR τ taBytes a0 = zR κ taBytes a0 ∧ zI τ taLength a0 = zI κ taLength a0 ∧ (0 ≤ l1.toInt ∧ l1.toInt ≤ (zI κ taLength a0).toInt) ∧ l2.toInt ≤ (zI κ taLength a0).toInt + 1) ∧ (up5 τ a0 = up5 κ a0 ∧ ∃ m5, n < m5 ∧ f5_Ta_split (up5 κ a0) = f5_Ta_split_9 (up5 κ a0) m5 l1 l2 (ty5 τ a0))), ⟨_, rfl, ?_⟩, ?_⟩
  · refine and_5 ?_ (fun o9 => ?_)  -- j1
    · have F1 : zF (objF a0) κ κ_1 := by rw [hκ_1]; exact zF_ui rfl
      have t1 : zI κ_1 taTotal a0 = 0 := by rw [hκ_1]; exact if_pos ⟨rfl, rfl⟩
      have l1 : zI κ_1 taLength a0 = zI κ taLength a0 := by rw [hκ_1]; rfl
      have r1 : zR κ_1 = zR κ := by rw [hκ_1]; rfl
      have n1 : zN κ_1 = zN κ := by rw [hκ_1]; rfl
      have a1 : zA κ_1 = zA κ := by rw [hκ_1]; rfl
      refine ⟨rfl, F1, ?_, ?_, by rw [t1], by decide, by rw [r1], l1, ⟨by decide, by rw [t0i]; omega⟩, by rw [t0i]; omega⟩
      · unfold taI
        rw [r1, n1, l1, t1]
        exact ⟨H.1, by decide, by rw [t0i]; omega, H.2.2.2⟩
      · unfold tokI
        rw [r1, n1, a1]
        exact K
    · refine ⟨?_, fu5, by unfold fu5; omega, ?_⟩
      · rw [hκ_1]; rfl
      · rw [hκ_1]
        unfold f5_Ta_split
        refine congrArg (f5_Ta_split_9 (up5 κ a0) fu5 0 0) ?_
        exact ty_05.symm
  rintro n9 _ x9_1 x9_2 κ9 W9 T9_0 ⟨hn9, ⟨rfl, i9⟩, hE⟩
  have hL := hE
  have hj61 : ∀ (l0 : Nat) (l1 : Int32) (l2 : Int32) (l3 : Int32) (s0 : Int32) (τ : zS), zW C (zn κ) τ → zT τ l0 = 13 → ((a0 = l0 ∧ τ = κ9 ∧ l2 = x9_2 ∧ 0 ≤ l1.toInt ∧ 0 ≤ l3.toInt ∧ l1.toInt + l3.toInt ≤ (zI κ taLength a0).toInt ∧ x9_2.toInt ≤ (zI κ taLength a0).toInt) ∧ (l1 = f5_Ta_skipBlanks (up5 κ a0) x9_1 ∧ l3 = sz5 (up5 κ a0) l1 ∧ s0 = kn5 (up5 κ a0) l1)) → w_Ta_split_61 C (zn κ) Q (fun (l0' : Nat) (l1' : Int32) (l2' : Int32) (τ : zS) => ∃ k < n9, (fun (n : Nat) (l0 : Nat) (l1 : Int32) (l2 : Int32) (τ : zS) => n = ((zI κ taLength a0).toInt + 1 - l2.toInt).toNat ∧ ((a0 = l0 ∧ zF (objF a0) κ τ ∧ taI τ a0 ∧ tokI τ a0 ∧ (zI τ taTotal a0).toInt = l2.toInt ∧ 0 ≤ l2.toInt ∧ zR τ taBytes a0 = zR κ taBytes a0 ∧ zI τ taLength a0 = zI κ taLength a0 ∧ (0 ≤ l1.toInt ∧ l1.toInt ≤ (zI κ taLength a0).toInt) ∧ l2.toInt ≤ (zI κ taLength a0).toInt + 1) ∧ (up5 τ a0 = up5 κ a0 ∧ ∃ m5, n < m5 ∧ f5_Ta_split (up5 κ a0) = f5_Ta_split_9 (up5 κ a0) m5 l1 l2 (ty5 τ a0)))) k l0' l1' l2' τ) l0 l1 l2 l3 s0 τ := by
    rintro _ y61_1 y61_2 y61_3 y61_s0 τ61 W61 T61_0 ⟨⟨rfl, j61⟩, hE⟩
    unfold w_Ta_split_61
    intro T3
    refine Ta_addToken_q5 W61 T3  ?_ (fun κ_4 q5 => ?_)
    · obtain ⟨F, I, J, tt, l0, rB, iL, p1, p2⟩ := i9
      obtain ⟨et, e2, y0, y1, y2, y3⟩ := j61
      have B9 := I.1
      rw [iL] at B9
      rw [et]
      exact ⟨I, J, by rw [tt]; omega, y0, y1, by omega⟩
    obtain ⟨q5, z9⟩ := q5
    intro W6
    intro M7
    refine ⟨fun c8 => ?_, fun c8 => ?_⟩
    · skip
      refine h _ ?_
      · refine and_5 ?_ (fun o9 => ?_)  -- q3
        · obtain ⟨F, I, J, tt, l0, rB, iL, p1, p2⟩ := i9
          obtain ⟨et, e2, y0, y1, y2, y3⟩ := j61
          rw [et] at q5
          obtain ⟨g1, g2, g3, g4, g5, g6⟩ := sp_t F tt l0 (by omega) rB iL q5
          exact ⟨g1, g2, g3, by omega, g5, g6⟩
        · obtain ⟨hu, m, hm, hl⟩ := hL
          obtain ⟨e1, e3, e0⟩ := hE
          obtain ⟨et, e2, y0, y1, y2, y3⟩ := j61
          rw [et] at z9
          obtain ⟨m, rfl⟩ : ∃ m9, m = m9 + 1 := ⟨m - 1, by omega⟩
          rw [hl, sp_s5 (by show ¬ zI κ taLength a0 < x9_2; rw [lti]; omega), ← e1, ← e3, ← e0, if_pos c8]
          exact ⟨z9.2.symm, z9.1.trans hu⟩
    · skip
      refine ⟨fun c9 => ?_, fun c9 => ?_⟩
      · skip
        intro x10 hx10
        intro x11 hx11
        refine lp_b5 ?_ (fun d9 => ⟨rfl, ?_⟩)
        · obtain ⟨F, I, J, tt, l0, rB, iL, p1, p2⟩ := i9
          obtain ⟨et, e2, y0, y1, y2, y3⟩ := j61
          have e1 : (x9_2 + 1).toInt = x9_2.toInt + 1 := by rw [add_i (by rw [t1i]; omega) (by rw [t1i]; omega), t1i]
          rw [hn9, hx11, e2, e1]; omega
        · refine and_5 ?_ (fun o9 => ?_)  -- i5
          · obtain ⟨F, I, J, tt, l0, rB, iL, p1, p2⟩ := i9
            obtain ⟨et, e2, y0, y1, y2, y3⟩ := j61
            have e1 : (x9_2 + 1).toInt = x9_2.toInt + 1 := by rw [add_i (by rw [t1i]; omega) (by rw [t1i]; omega), t1i]
            have e3 : (y61_1 + y61_3).toInt = y61_1.toInt + y61_3.toInt := add_i (by omega) (by omega)
            rw [et] at q5
            obtain ⟨g1, g2, g3, g4, g5, g6⟩ := sp_t F tt l0 (by omega) rB iL q5
            exact ⟨rfl, g1, g2, g3, by rw [hx11, e2, e1]; exact g4, by rw [hx11, e2, e1]; omega, g5, g6, ⟨by rw [hx10, e3]; omega, by rw [hx10, e3]; omega⟩, by rw [hx11, e2, e1]; omega⟩
          · obtain ⟨hu, m, hm, hl⟩ := hL
            obtain ⟨e1, e3, e0⟩ := hE
            obtain ⟨et, e2, y0, y1, y2, y3⟩ := j61
            rw [et] at z9
            obtain ⟨m, rfl⟩ : ∃ m9, m = m9 + 1 := ⟨m - 1, by omega⟩
            refine ⟨z9.1.trans hu, m, by omega, ?_⟩
            rw [hl, sp_s5 (by show ¬ zI κ taLength a0 < x9_2; rw [lti]; omega), ← e1, ← e3, ← e0, if_neg c8, if_neg c9, hx10, hx11, e2, z9.2]
      · skip
        refine h _ ?_
        · refine and_5 ?_ (fun o9 => ?_)  -- q6
          · obtain ⟨F, I, J, tt, l0, rB, iL, p1, p2⟩ := i9
            obtain ⟨et, e2, y0, y1, y2, y3⟩ := j61
            rw [et] at q5
            obtain ⟨g1, g2, g3, g4, g5, g6⟩ := sp_t F tt l0 (by omega) rB iL q5
            exact ⟨g1, g2, g3, by omega, g5, g6⟩
          · obtain ⟨hu, m, hm, hl⟩ := hL
            obtain ⟨e1, e3, e0⟩ := hE
            obtain ⟨et, e2, y0, y1, y2, y3⟩ := j61
            rw [et] at z9
            obtain ⟨m, rfl⟩ : ∃ m9, m = m9 + 1 := ⟨m - 1, by omega⟩
            rw [hl, sp_s5 (by show ¬ zI κ taLength a0 < x9_2; rw [lti]; omega), ← e1, ← e3, ← e0, if_neg c8, if_pos c9]
            exact ⟨z9.2.symm, z9.1.trans hu⟩
  have hj40 : ∀ (l0 : Nat) (l1 : Int32) (l2 : Int32) (s0 : Int32) (τ : zS), zW C (zn κ) τ → zT τ l0 = 13 → ((a0 = l0 ∧ τ = κ9 ∧ l2 = x9_2 ∧ 0 ≤ l1.toInt ∧ l1.toInt ≤ (zI κ taLength a0).toInt ∧ 0 ≤ s0.toInt ∧ l1.toInt + s0.toInt ≤ (zI κ taLength a0).toInt ∧ x9_2.toInt ≤ (zI κ taLength a0).toInt) ∧ (l1 = f5_Ta_skipBlanks (up5 κ a0) x9_1 ∧ s0 = sz5 (up5 κ a0) l1)) → w_Ta_split_40 C (zn κ) Q (fun (l0' : Nat) (l1' : Int32) (l2' : Int32) (τ : zS) => ∃ k < n9, (fun (n : Nat) (l0 : Nat) (l1 : Int32) (l2 : Int32) (τ : zS) => n = ((zI κ taLength a0).toInt + 1 - l2.toInt).toNat ∧ ((a0 = l0 ∧ zF (objF a0) κ τ ∧ taI τ a0 ∧ tokI τ a0 ∧ (zI τ taTotal a0).toInt = l2.toInt ∧ 0 ≤ l2.toInt ∧ zR τ taBytes a0 = zR κ taBytes a0 ∧ zI τ taLength a0 = zI κ taLength a0 ∧ (0 ≤ l1.toInt ∧ l1.toInt ≤ (zI κ taLength a0).toInt) ∧ l2.toInt ≤ (zI κ taLength a0).toInt + 1) ∧ (up5 τ a0 = up5 κ a0 ∧ ∃ m5, n < m5 ∧ f5_Ta_split (up5 κ a0) = f5_Ta_split_9 (up5 κ a0) m5 l1 l2 (ty5 τ a0)))) k l0' l1' l2' τ) l0 l1 l2 s0 τ := by
    rintro _ y40_1 y40_2 y40_s0 τ40 W40 T40_0 ⟨⟨rfl, j40⟩, hE⟩
    unfold w_Ta_split_40
    refine ⟨fun c12 => ?_, fun c12 => ?_⟩
    · skip
      refine hj61 _ _ _ _ _ _ W40 ?_ ?_
      · exact T40_0  -- t7
      · refine and_5 ?_ (fun o9 => ⟨hE.1, hE.2, (if_pos (by rw [j40.1] at c12; have z := hL.1; have z2 : zI κ9 taLength a0 = zI κ taLength a0 := congrArg (fun u => u.2.1) z; rw [z2] at c12; exact c12)).symm⟩)  -- k8
        obtain ⟨et, e2, y0, y1, y2, y3, y4⟩ := j40
        exact ⟨rfl, et, e2, y0, y2, y3, y4⟩
    · skip
      intro T13
      refine Ta_kindOf_q5 W40 T13 hx5 ?_ (fun r14 q16 => ?_)
      · rw [j40.1]; exact i9.2.1  -- p9
      obtain ⟨q16, z9⟩ := q16
      intro W17
      intro M18
      refine hj61 _ _ _ _ _ _ W17 ?_ ?_
      · exact T40_0  -- t10
      · refine and_5 ?_ (fun o9 => ?_)  -- k11
        · obtain ⟨et, e2, y0, y1, y2, y3, y4⟩ := j40
          exact ⟨rfl, et, e2, y0, y2, y3, y4⟩
        · have z := hL.1
          rw [j40.1] at c12 z9
          have z2 : zI κ9 taLength a0 = zI κ taLength a0 := congrArg (fun u => u.2.1) z
          rw [z2] at c12
          rw [z] at z9
          refine ⟨hE.1, hE.2, ?_⟩
          unfold kn5
          rw [if_neg (show ¬ (up5 κ a0).2.1 ≤ y40_1 from c12), ← hE.2]
          exact z9
  refine ⟨fun c19 => ?_, fun c19 => ?_⟩
  · skip
    refine h _ ?_
    · refine and_5 ?_ (fun o9 => ?_)  -- q12
      · obtain ⟨F, I, J, tt, l0, rB, iL, p1, p2⟩ := i9
        exact ⟨F, I, J, by omega, rB, iL⟩
      · obtain ⟨hu, m, hm, hl⟩ := hL
        have z2 : zI κ9 taLength a0 = zI κ taLength a0 := congrArg (fun u => u.2.1) hu
        obtain ⟨m, rfl⟩ : ∃ m9, m = m9 + 1 := ⟨m - 1, by omega⟩
        refine ⟨?_, hu⟩
        rw [hl]
        rw [z2] at c19
        exact if_pos c19
  · skip
    intro T20
    refine Ta_skipBlanks_q5 W9 T20  ?_ (fun r21 q23 => ?_)
    · obtain ⟨F, I, J, tt, l0, rB, iL, p1, p2⟩ := i9
      exact ⟨I, p1.1, by rw [iL]; exact p1.2⟩
    obtain ⟨q23, z9⟩ := q23
    have z8 := z9
    intro W24
    intro M25
    refine ⟨fun c26 => ?_, fun c26 => ?_⟩
    · skip
      refine hj40 _ _ _ _ _ W24 ?_ ?_
      · exact T9_0  -- t14
      · refine and_5 ?_ (fun o9 => ?_)  -- k15
        · obtain ⟨F, I, J, tt, l0, rB, iL, p1, p2⟩ := i9
          rw [lti, iL] at c19
          rw [iL] at q23
          exact ⟨rfl, rfl, rfl, by omega, by omega, by decide, by rw [t0i]; omega, by omega⟩
        · have z := hL.1
          have z2 : zI κ9 taLength a0 = zI κ taLength a0 := congrArg (fun u => u.2.1) z
          rw [z] at z9
          rw [z2] at c26
          exact ⟨z9, (if_pos c26).symm⟩
    · skip
      intro T27
      refine Ta_sizeAt_q5 W24 T27  ?_ (fun r28 q30 => ?_)
      · obtain ⟨F, I, J, tt, l0, rB, iL, p1, p2⟩ := i9
        rw [lei] at c26
        exact ⟨I, by omega, by omega⟩
      obtain ⟨q30, z9⟩ := q30
      intro W31
      intro M32
      refine hj40 _ _ _ _ _ W31 ?_ ?_
      · exact T9_0  -- t17
      · refine and_5 ?_ (fun o9 => ?_)  -- k18
        · obtain ⟨F, I, J, tt, l0, rB, iL, p1, p2⟩ := i9
          rw [lti, iL] at c19
          rw [iL] at q23 q30
          exact ⟨rfl, rfl, rfl, by omega, by omega, by omega, by omega, by omega⟩
        · have z := hL.1
          have z2 : zI κ9 taLength a0 = zI κ taLength a0 := congrArg (fun u => u.2.1) z
          rw [z] at z8 z9
          rw [z2] at c26
          exact ⟨z8, ((if_neg (show ¬ (up5 κ a0).2.1 ≤ r21 from c26)).trans z9.symm).symm⟩
