section
set_option maxHeartbeats 1600000
/-! tokens: the tape's rows as far as they are counted -/
abbrev Y5 : Type := (Nat → Int32) × (Nat → Int32) × (Nat → Int32) × Int32
def my5 (f : Nat → Int32) (n : Int32) : Nat → Int32 := fun j => if j < n.toNatClampNeg then f j else 0
def ty5 (κ : zS) (t : Nat) : Y5 := (my5 (zA κ (zR κ taKinds t)) (zI κ taTotal t), my5 (zA κ (zR κ taPlaces t)) (zI κ taTotal t), my5 (zA κ (zR κ taLengths t)) (zI κ taTotal t), zI κ taTotal t)
def pu5 (f : Nat → Int32) (n x : Int32) : Nat → Int32 := fun j => if j = n.toNatClampNeg then x else f j
def tk5 (k p s : Int32) (y : Y5) : Y5 := (pu5 y.1 y.2.2.2 k, pu5 y.2.1 y.2.2.2 p, pu5 y.2.2.1 y.2.2.2 s, y.2.2.2 + 1)
def sz5 (U : U5) (r : Int32) : Int32 := if U.2.1 ≤ r then 0 else f5_Ta_sizeAt U r
def kn5 (U : U5) (r : Int32) : Int32 := if U.2.1 ≤ r then 142 else f5_Ta_kindOf U r (sz5 U r)
def f5_Ta_split_9 (U : U5) : Nat → Int32 → Int32 → Y5 → Y5
  | 0, _, _, y => y
  | m5 + 1, a1, a2, y => if U.2.1 < a2 then y else if kn5 U (f5_Ta_skipBlanks U a1) = 142 then tk5 (kn5 U (f5_Ta_skipBlanks U a1)) (f5_Ta_skipBlanks U a1) (sz5 U (f5_Ta_skipBlanks U a1)) y else if kn5 U (f5_Ta_skipBlanks U a1) = 143 then tk5 (kn5 U (f5_Ta_skipBlanks U a1)) (f5_Ta_skipBlanks U a1) (sz5 U (f5_Ta_skipBlanks U a1)) y else f5_Ta_split_9 U m5 (f5_Ta_skipBlanks U a1 + sz5 U (f5_Ta_skipBlanks U a1)) (a2 + 1) (tk5 (kn5 U (f5_Ta_skipBlanks U a1)) (f5_Ta_skipBlanks U a1) (sz5 U (f5_Ta_skipBlanks U a1)) y)
def y05 : Y5 := (fun _ => 0, fun _ => 0, fun _ => 0, 0)
def f5_Ta_split (U : U5) : Y5 := f5_Ta_split_9 U fu5 0 0 y05
theorem sp_s5 {U : U5} {m : Nat} {a1 a2 : Int32} {y : Y5} (h : ¬ U.2.1 < a2) : f5_Ta_split_9 U (m + 1) a1 a2 y = if kn5 U (f5_Ta_skipBlanks U a1) = 142 then tk5 (kn5 U (f5_Ta_skipBlanks U a1)) (f5_Ta_skipBlanks U a1) (sz5 U (f5_Ta_skipBlanks U a1)) y else if kn5 U (f5_Ta_skipBlanks U a1) = 143 then tk5 (kn5 U (f5_Ta_skipBlanks U a1)) (f5_Ta_skipBlanks U a1) (sz5 U (f5_Ta_skipBlanks U a1)) y else f5_Ta_split_9 U m (f5_Ta_skipBlanks U a1 + sz5 U (f5_Ta_skipBlanks U a1)) (a2 + 1) (tk5 (kn5 U (f5_Ta_skipBlanks U a1)) (f5_Ta_skipBlanks U a1) (sz5 U (f5_Ta_skipBlanks U a1)) y) := if_neg h
theorem my_05 {f : Nat → Int32} : my5 f 0 = fun _ => 0 := funext fun j => if_neg (by show ¬ j < 0; omega)
theorem ty_05 {κ : zS} {t : Nat} : ty5 (ui κ taTotal t 0) t = y05 := by
  have e : zI (ui κ taTotal t 0) taTotal t = 0 := if_pos ⟨rfl, rfl⟩
  unfold ty5
  rw [e, my_05, my_05, my_05]
  rfl
theorem my_p5 {f g : Nat → Int32} {n x : Int32} (h0 : 0 ≤ n.toInt) (h1 : n.toInt < (20500 : Nat)) (hg : ∀ j, g j = if j = n.toNatClampNeg then x else f j) : my5 g (n + 1) = pu5 (my5 f n) n x := by
  have hL := inc_n5 h0 h1 (by decide)
  funext j
  unfold my5 pu5
  rw [hL, hg]
  by_cases z : j = n.toNatClampNeg
  · rw [if_pos (by omega), if_pos z, if_pos z]
  · rw [if_neg z, if_neg z]
    by_cases y : j < n.toNatClampNeg
    · rw [if_pos (by omega)]; exact (if_pos y).symm
    · rw [if_neg (by omega)]; exact (if_neg y).symm
theorem my_c5 {f g : Nat → Int32} {n : Int32} (h : ∀ j, j < n.toNatClampNeg → g j = f j) : my5 g n = my5 f n := by
  funext j
  unfold my5
  by_cases y : j < n.toNatClampNeg
  · rw [if_pos y, if_pos y]; exact h j y
  · rw [if_neg y, if_neg y]
/-- one token more -/
theorem ad_5 {C : zC} {n0 t : Nat} {τ κ1 κ3 κ5 κ7 : zS} {k p s : Int32} (W : zW C n0 τ) (T : zT τ t = 13) (h1 : κ1 = ua τ (zR τ taKinds t) (zI τ taTotal t).toNatClampNeg k) (h3 : κ3 = ua κ1 (zR κ1 taPlaces t) (zI κ1 taTotal t).toNatClampNeg p) (h5 : κ5 = ua κ3 (zR κ3 taLengths t) (zI κ3 taTotal t).toNatClampNeg s) (h7 : κ7 = ui κ5 taTotal t (zI κ5 taTotal t + 1)) (l0 : 0 ≤ (zI τ taTotal t).toInt) (l1 : (zI τ taTotal t).toInt < (20500 : Nat)) : up5 κ7 t = up5 τ t ∧ ty5 κ7 t = tk5 k p s (ty5 τ t) := by
  have n1 : zR τ taPlaces t ≠ zR τ taKinds t := taRf_n W T (by decide) (by decide) (by decide)
  have n2 : zR τ taLengths t ≠ zR τ taKinds t := taRf_n W T (by decide) (by decide) (by decide)
  have n3 : zR τ taLengths t ≠ zR τ taPlaces t := taRf_n W T (by decide) (by decide) (by decide)
  have n4 : zR τ taBytes t ≠ zR τ taKinds t := taRf_n W T (by decide) (by decide) (by decide)
  have n5 : zR τ taBytes t ≠ zR τ taPlaces t := taRf_n W T (by decide) (by decide) (by decide)
  have n6 : zR τ taBytes t ≠ zR τ taLengths t := taRf_n W T (by decide) (by decide) (by decide)
  have r7 : zR κ7 = zR τ := by subst h1 h3 h5 h7; rfl
  have i7 : zI κ7 taTotal t = zI τ taTotal t + 1 := by subst h1 h3 h5 h7; exact if_pos ⟨rfl, rfl⟩
  have hA : ∀ b, zA κ7 b = if b = zR τ taLengths t then upd (zA κ3 b) (zI τ taTotal t).toNatClampNeg s else if b = zR τ taPlaces t then upd (zA κ1 b) (zI τ taTotal t).toNatClampNeg p else if b = zR τ taKinds t then upd (zA τ b) (zI τ taTotal t).toNatClampNeg k else zA τ b := fun b => by
    subst h1 h3 h5 h7
    show (if b = zR τ taLengths t then upd _ _ _ else if b = zR τ taPlaces t then upd _ _ _ else if b = zR τ taKinds t then upd _ _ _ else zA τ b) = _
    by_cases a : b = zR τ taLengths t
    · subst a
      rw [if_pos rfl, if_pos rfl]
      rfl
    · rw [if_neg a, if_neg a]
      by_cases c : b = zR τ taPlaces t
      · subst c
        rw [if_pos rfl, if_pos rfl]
        rfl
      · rw [if_neg c, if_neg c]
        by_cases d : b = zR τ taKinds t
        · subst d
          rw [if_pos rfl]
        · rw [if_neg d, if_neg d]
  have a3 : zA κ3 (zR τ taLengths t) = zA τ (zR τ taLengths t) := by
    subst h1 h3
    exact (if_neg n3).trans (if_neg n2)
  have a1 : zA κ1 (zR τ taPlaces t) = zA τ (zR τ taPlaces t) := by
    subst h1
    exact if_neg n1
  refine ⟨?_, ?_⟩
  · unfold up5
    rw [r7, hA, if_neg n6, if_neg n5, if_neg n4]
    subst h1 h3 h5 h7
    rfl
  · unfold ty5 tk5
    rw [r7, i7, hA (zR τ taKinds t), if_neg (fun z => n2 z.symm), if_neg (fun z => n1 z.symm), if_pos rfl, hA (zR τ taPlaces t), if_neg (fun z => n3 z.symm), if_pos rfl, hA (zR τ taLengths t), if_pos rfl, a3, a1, my_p5 l0 l1 (fun j => upd_5), my_p5 l0 l1 (fun j => upd_5), my_p5 l0 l1 (fun j => upd_5)]
theorem Ta_addToken_q5 {C : zC} {n0 : Nat} {a0 : Nat} {a1 : Int32} {a2 : Int32} {a3 : Int32} {κ : zS} {Q : zS → Prop} (W : zW C n0 κ) (Ta0 : zT κ a0 = 13)  (hp : taI κ a0 ∧ tokI κ a0 ∧ (zI κ taTotal a0).toInt < 10245 ∧ 0 ≤ a2.toInt ∧ 0 ≤ a3.toInt ∧ a2.toInt + a3.toInt ≤ (zN κ (zR κ taBytes a0))) (h : ∀ (κ' : zS), ((zF (objF a0) κ κ' ∧ taI κ' a0 ∧ tokI κ' a0 ∧ zI κ' taTotal a0 = zI κ taTotal a0 + 1 ∧ (∀ f, f ≠ taTotal → zI κ' f a0 = zI κ f a0) ∧ zR κ' taBytes a0 = zR κ taBytes a0) ∧ (up5 κ' a0 = up5 κ a0 ∧ ty5 κ' a0 = tk5 a1 a2 a3 (ty5 κ a0))) → Q κ') : zRun C 2 mTa_addToken [.ref a0, .int a1, .int a2, .int a3] κ (oV Q noX) := by
  refine Ta_addToken_run W Ta0 ?_
  replace W := W.lo (Nat.le_trans W.1.2.1 W.1.2.2) (Nat.le_refl (zn κ))
  unfold w_Ta_addToken_0
  obtain ⟨H, K, p0, p1, p2, p3⟩ := hp
  have B := H.1
  have B2 := H.2
  have oN := W.n (ty_taKinds W Ta0)
  have hj63 : ∀ (l0 : Nat) (l1 : Int32) (l2 : Int32) (l3 : Int32) (τ : zS), zW C (zn κ) τ → zT τ l0 = 13 → ((a0 = l0 ∧ a1 = l1 ∧ a2 = l2 ∧ a3 = l3 ∧ tkJ κ τ a0) ∧ (up5 τ a0 = up5 κ a0 ∧ ty5 τ a0 = ty5 κ a0)) → w_Ta_addToken_63 C (zn κ) Q  l0 l1 l2 l3 τ := by
    rintro _ _ _ _ τ63 W63 T63_0 ⟨⟨rfl, rfl, rfl, rfl, j63⟩, hE⟩
    unfold w_Ta_addToken_63
    obtain ⟨F, jI, J, jK, jl, jB⟩ := j63
    have D1 := J.1
    have D2 := J.2
    rw [jI] at D1 D2
    have kt := cnk B2.1
    refine ⟨?_, ?_⟩
    · rw [inb_iff, jI]; omega  -- b1
    intro κ_1 hκ_1
    intro W2
    refine ⟨?_, ?_⟩
    · rw [hκ_1, inb_iff]
      show 0 ≤ (zI τ63 taTotal a0).toInt ∧ (zI τ63 taTotal a0).toInt < ((zN τ63 (zR τ63 taPlaces a0) : Nat) : Int)
      rw [jI]; omega
    intro κ_3 hκ_3
    intro W4
    refine ⟨?_, ?_⟩
    · rw [hκ_3, hκ_1, inb_iff]
      show 0 ≤ (zI τ63 taTotal a0).toInt ∧ (zI τ63 taTotal a0).toInt < ((zN τ63 (zR τ63 taLengths a0) : Nat) : Int)
      rw [jI]; omega
    intro κ_5 hκ_5
    intro W6
    intro κ_7 hκ_7
    intro W8
    refine h _ ?_
    · refine and_5 ?_ (fun o9 => ?_)  -- q4
      · have f1 : zF (objF a0) τ63 κ_1 := by rw [hκ_1]; exact zF_ua (by rw [ow_taKinds W63 T63_0])
        have T1 := f1.t T63_0 (by decide)
        have f3 : zF (objF a0) κ_1 κ_3 := by rw [hκ_3]; exact zF_ua (by rw [ow_taPlaces W2 T1])
        have T3 := f3.t T1 (by decide)
        have f5 : zF (objF a0) κ_3 κ_5 := by rw [hκ_5]; exact zF_ua (by rw [ow_taLengths W4 T3])
        have f7 : zF (objF a0) κ_5 κ_7 := by rw [hκ_7]; exact zF_ui rfl
        have i1 : zI κ_1 = zI κ := by rw [hκ_1]; exact jI
        have i3 : zI κ_3 = zI κ := by rw [hκ_3]; exact i1
        have i5 : zI κ_5 = zI κ := by rw [hκ_5]; exact i3
        have r1 : zR κ_1 = zR τ63 := by rw [hκ_1]; rfl
        have r3 : zR κ_3 = zR τ63 := by rw [hκ_3]; exact r1
        have r7 : zR κ_7 = zR τ63 := by rw [hκ_7, hκ_5]; exact r3
        have n7 : zN κ_7 = zN τ63 := by rw [hκ_7, hκ_5, hκ_3, hκ_1]; rfl
        have is : zI κ_7 taTotal a0 = zI κ taTotal a0 + 1 := by
          rw [hκ_7]
          refine (if_pos ⟨rfl, rfl⟩).trans ?_
          rw [i5]
        have io : ∀ f, f ≠ taTotal → zI κ_7 f a0 = zI κ f a0 := fun f hf => by
          rw [hκ_7]
          exact (if_neg (fun z => hf z.1)).trans (congrFun (congrFun i5 f) a0)
        have ts : (zI κ_7 taTotal a0).toInt = (zI κ taTotal a0).toInt + 1 := by rw [is, add_i (by rw [t1i]; omega) (by rw [t1i]; omega), t1i]
        have xp : zA κ_7 (zR τ63 taPlaces a0) = upd (zA τ63 (zR τ63 taPlaces a0)) (zI κ taTotal a0).toNatClampNeg a2 := by
          have e7 : zA κ_7 = zA κ_5 := by rw [hκ_7]; rfl
          have e5 : zA κ_5 (zR τ63 taPlaces a0) = zA κ_3 (zR τ63 taPlaces a0) := by
            rw [hκ_5, r3]
            exact if_neg (taRf_n W63 T63_0 (by decide) (by decide) (by decide))
          rw [e7, e5, hκ_3, r1, i1]
          refine (if_pos rfl).trans ?_
          have e1 : zA κ_1 (zR τ63 taPlaces a0) = zA τ63 (zR τ63 taPlaces a0) := by rw [hκ_1]; exact if_neg (taRf_n W63 T63_0 (by decide) (by decide) (by decide))
          show upd (zA κ_1 (zR τ63 taPlaces a0)) _ _ = _
          rw [e1]
        have xl : zA κ_7 (zR τ63 taLengths a0) = upd (zA τ63 (zR τ63 taLengths a0)) (zI κ taTotal a0).toNatClampNeg a3 := by
          have e7 : zA κ_7 = zA κ_5 := by rw [hκ_7]; rfl
          rw [e7, hκ_5, r3, i3]
          refine (if_pos rfl).trans ?_
          have e3 : zA κ_3 (zR τ63 taLengths a0) = zA τ63 (zR τ63 taLengths a0) := by
            rw [hκ_3, r1]
            refine (if_neg (taRf_n W63 T63_0 (by decide) (by decide) (by decide))).trans ?_
            rw [hκ_1]
            exact if_neg (taRf_n W63 T63_0 (by decide) (by decide) (by decide))
          show upd (zA κ_3 (zR τ63 taLengths a0)) _ _ = _
          rw [e3]
        have lb : zN τ63 (zR τ63 taBytes a0) = zN κ (zR κ taBytes a0) := by rw [jB]; exact F.l (ty_taBytes W Ta0)
        refine ⟨(((F.tr f1).tr f3).tr f5).tr f7, ?_, fun i hi => ?_, is, io, by rw [r7]; exact jB⟩
        · unfold taI
          rw [r7, n7, ts, io taLength (by decide)]
          exact ⟨D1, by omega, by omega, D2.2.2⟩
        · rw [r7, n7] at hi
          rw [r7, n7, xp, xl]
          have g := jK i hi
          show 0 ≤ Int32.toInt (if i = _ then a2 else _) ∧ 0 ≤ Int32.toInt (if i = _ then a3 else _) ∧ Int32.toInt (if i = _ then a2 else _) + Int32.toInt (if i = _ then a3 else _) ≤ _
          by_cases z : i = (zI κ taTotal a0).toNatClampNeg
          · rw [if_pos z, if_pos z]; omega
          · rw [if_neg z, if_neg z]; exact g
      · have z := ad_5 W63 T63_0 hκ_1 hκ_3 hκ_5 hκ_7 (by rw [jI]; exact B2.1) (by rw [jI]; omega)
        exact ⟨z.1.trans hE.1, by rw [z.2, hE.2]⟩
  refine ⟨fun c9 => ?_, fun c9 => ?_⟩
  · skip
    refine hj63 _ _ _ _ _ W ?_ ?_
    · exact Ta0  -- t5
    · refine and_5 ?_ (fun o9 => ⟨rfl, rfl⟩)  -- k6
      rw [lti, ofn_i oN] at c9
      exact ⟨rfl, rfl, rfl, rfl, zF.rf, rfl, H, K, c9, rfl⟩
  · skip
    intro T10
    have d9 : (zI κ taTotal a0).toInt = zN κ (zR κ taKinds a0) := by rw [lti, ofn_i oN] at c9; omega
    have e2 : (zI κ taTotal a0 * 2).toInt = (zI κ taTotal a0).toInt * 2 := by rw [mul_i (by rw [t2i]; omega) (by rw [t2i]; omega), t2i]
    have kn := cnk (x := zI κ taTotal a0 * 2) (by omega)
    refine Ar_copyOf_c W T10  ?_ (fun r11 κ_12 q13 => ?_)
    · exact ⟨⟨by rw [lei, t0i]; omega, by omega⟩, fun e => by
        have e9 := congrArg Int32.toInt e
        rw [ofn_i oN] at e9
        omega⟩
    intro W14
    intro M15
    intro T16
    refine ⟨?_, ?_⟩
    · rw [q13.1]; exact q13.2.2.1  -- b8
    intro κ_17 hκ_17
    intro W18
    intro T19
    have h1 : κ_17 = uo κ_12 taKinds a0 (zn κ) := by rw [hκ_17, q13.1]
    obtain ⟨F1, u1, u2, u3, u4, u5, u6, -⟩ := gr_f (f := taKinds) W (by decide +kernel) (by decide) Ta0 (by decide) q13.2 h1 (by omega) (by omega)
    have T17 := F1.t Ta0 (by decide)
    have rp : zR κ_17 taPlaces a0 = zR κ taPlaces a0 := u2 taPlaces a0 (fun z => absurd z.1 (by decide))
    have np := u5 _ _ (ty_taPlaces W Ta0)
    have pN := W18.n (ty_taPlaces W18 T17)
    rw [u1]
    refine Ar_copyOf_c W18 T19  ?_ (fun r20 κ_21 q22 => ?_)
    · exact ⟨⟨by rw [lei, t0i]; omega, by omega⟩, fun e => by
        have e9 := congrArg Int32.toInt e
        rw [ofn_i pN, rp, np.1] at e9
        omega⟩
    intro W23
    intro M24
    intro T25
    refine ⟨?_, ?_⟩
    · rw [q22.1]; exact q22.2.2.1  -- b10
    intro κ_26 hκ_26
    intro W27
    intro T28
    have h2 : κ_26 = uo κ_21 taPlaces a0 (zn κ_17) := by rw [hκ_26, q22.1]
    obtain ⟨F2, v1, v2, v3, v4, v5, v6, v7⟩ := gr_f (f := taPlaces) W18 (by decide +kernel) (by decide) T17 (by decide) q22.2 h2 (by rw [rp, np.1]; omega) (by rw [rp, np.1]; omega)
    have T26 := F2.t T17 (by decide)
    have rl1 : zR κ_17 taLengths a0 = zR κ taLengths a0 := u2 taLengths a0 (fun z => absurd z.1 (by decide))
    have rl2 : zR κ_26 taLengths a0 = zR κ_17 taLengths a0 := v2 taLengths a0 (fun z => absurd z.1 (by decide))
    have nl1 := u5 _ _ (ty_taLengths W Ta0)
    have nl2 := v5 _ _ (ty_taLengths W18 T17)
    have lN := W27.n (ty_taLengths W27 T26)
    have ln : zN κ_26 (zR κ_26 taLengths a0) = zN κ (zR κ taLengths a0) := by rw [rl2, nl2.1, rl1, nl1.1]
    rw [v1, u1]
    refine Ar_copyOf_c W27 T28  ?_ (fun r29 κ_30 q31 => ?_)
    · exact ⟨⟨by rw [lei, t0i]; omega, by omega⟩, fun e => by
        have e9 := congrArg Int32.toInt e
        rw [ofn_i lN, ln] at e9
        omega⟩
    intro W32
    intro M33
    intro T34
    refine ⟨?_, ?_⟩
    · rw [q31.1]; exact q31.2.2.1  -- b12
    intro κ_35 hκ_35
    intro W36
    have h3 : κ_35 = uo κ_30 taLengths a0 (zn κ_26) := by rw [hκ_35, q31.1]
    obtain ⟨F3, w1, w2, w3, w4, w5, w6, w7⟩ := gr_f (f := taLengths) W27 (by decide +kernel) (by decide) T26 (by decide) q31.2 h3 (by rw [ln]; omega) (by rw [ln]; omega)
    have FF : zF (objF a0) κ κ_35 := ((F1.mono (fun _ _ z => z.2)).tr (F2.mono (fun _ _ z => z.2))).tr (F3.mono (fun _ _ z => z.2))
    refine hj63 _ _ _ _ _ W36 ?_ ?_
    · exact FF.t Ta0 (by decide)  -- t13
    · refine and_5 ?_ (fun o9 => ?_)  -- k14
      · have ii : zI κ_35 = zI κ := w1.trans (v1.trans u1)
        have kB : zR κ_35 taBytes a0 = zR κ taBytes a0 := (w2 taBytes a0 (fun z => absurd z.1 (by decide))).trans ((v2 taBytes a0 (fun z => absurd z.1 (by decide))).trans (u2 taBytes a0 (fun z => absurd z.1 (by decide))))
        have kK : zR κ_35 taKinds a0 = zn κ := (w2 taKinds a0 (fun z => absurd z.1 (by decide))).trans ((v2 taKinds a0 (fun z => absurd z.1 (by decide))).trans u3)
        have kP : zR κ_35 taPlaces a0 = zn κ_17 := (w2 taPlaces a0 (fun z => absurd z.1 (by decide))).trans v3
        have tK : zT κ_17 (zn κ) = 20 := by rw [← u3]; exact ty_taKinds W18 T17
        have tP : zT κ_26 (zn κ_17) = 20 := by rw [← v3]; exact ty_taPlaces W27 T26
        have nK : zN κ_35 (zn κ) = (zI κ taTotal a0 * 2).toNatClampNeg := ((w5 _ _ (F2.t tK (by decide))).1).trans (((v5 _ _ tK).1).trans u4)
        have nP : zN κ_35 (zn κ_17) = (zI κ taTotal a0 * 2).toNatClampNeg := ((w5 _ _ tP).1).trans v4
        have nB : zN κ_35 (zR κ taBytes a0) = zN κ (zR κ taBytes a0) := FF.l (ty_taBytes W Ta0)
        have aP : ∀ i, i < (zI κ taTotal a0 * 2).toNatClampNeg → zA κ_35 (zn κ_17) i = zA κ (zR κ taPlaces a0) i ∧ i < zN κ (zR κ taPlaces a0) ∨ zA κ_35 (zn κ_17) i = 0 ∧ zN κ (zR κ taPlaces a0) ≤ i := fun i hi => by
          rw [(w5 _ _ tP).2]
          by_cases z : i < zN κ (zR κ taPlaces a0)
          · left
            refine ⟨?_, z⟩
            rw [v6 i hi (by rw [rp, np.1]; exact z), rp, np.2]
          · right
            exact ⟨v7 i (by rw [rp, np.1]; omega), by omega⟩
        have aL : ∀ i, i < (zI κ taTotal a0 * 2).toNatClampNeg → zA κ_35 (zn κ_26) i = zA κ (zR κ taLengths a0) i ∧ i < zN κ (zR κ taLengths a0) ∨ zA κ_35 (zn κ_26) i = 0 ∧ zN κ (zR κ taLengths a0) ≤ i := fun i hi => by
          by_cases z : i < zN κ (zR κ taLengths a0)
          · left
            refine ⟨?_, z⟩
            rw [w6 i hi (by rw [ln]; exact z), rl2, nl2.2, rl1, nl1.2]
          · right
            exact ⟨w7 i (by rw [ln]; omega), by omega⟩
        refine ⟨rfl, rfl, rfl, rfl, FF, ii, ?_, fun i hi => ?_, by rw [kK, nK]; omega, kB⟩
        · unfold taI
          rw [ii, kB, kK, kP, w3, nB, nK, nP, w4]
          exact ⟨B, B2.1, by omega, rfl, rfl, by omega, by omega⟩
        · rw [kK, nK] at hi
          rw [kP, w3, kB, nB]
          rcases aP i hi with ⟨e, z⟩ | ⟨e, z⟩
          · rcases aL i hi with ⟨e3, z3⟩ | ⟨e3, z3⟩
            · rw [e, e3]; exact K i (by omega)
            · omega
          · rcases aL i hi with ⟨e3, z3⟩ | ⟨e3, z3⟩
            · omega
            · rw [e, e3, t0i]; omega
      · have ii : zI κ_35 = zI κ := w1.trans (v1.trans u1)
        have kB : zR κ_35 taBytes a0 = zR κ taBytes a0 := (w2 taBytes a0 (fun z => absurd z.1 (by decide))).trans ((v2 taBytes a0 (fun z => absurd z.1 (by decide))).trans (u2 taBytes a0 (fun z => absurd z.1 (by decide))))
        have kK : zR κ_35 taKinds a0 = zn κ := (w2 taKinds a0 (fun z => absurd z.1 (by decide))).trans ((v2 taKinds a0 (fun z => absurd z.1 (by decide))).trans u3)
        have kP : zR κ_35 taPlaces a0 = zn κ_17 := (w2 taPlaces a0 (fun z => absurd z.1 (by decide))).trans v3
        have tK : zT κ_17 (zn κ) = 20 := by rw [← u3]; exact ty_taKinds W18 T17
        have tP : zT κ_26 (zn κ_17) = 20 := by rw [← v3]; exact ty_taPlaces W27 T26
        have tB := ty_taBytes W Ta0
        have kt := cnk B2.1
        refine ⟨?_, ?_⟩
        · unfold up5
          rw [ii, kB]
          have b1 := u5 _ _ tB
          have b2 := v5 _ _ (F1.t tB (by decide))
          have b3 := w5 _ _ (F2.t (F1.t tB (by decide)) (by decide))
          rw [b3.1, b3.2, b2.1, b2.2, b1.1, b1.2]
        · unfold ty5
          rw [ii, kK, kP, w3]
          refine Prod.ext (my_c5 (fun j hj => ?_)) (Prod.ext (my_c5 (fun j hj => ?_)) (Prod.ext (my_c5 (fun j hj => ?_)) rfl))
          · rw [(w5 _ _ (F2.t tK (by decide))).2, (v5 _ _ tK).2]
            exact u6 j (by omega) (by omega)
          · rw [(w5 _ _ tP).2, v6 j (by omega) (by rw [rp, np.1]; omega), rp, np.2]
          · rw [w6 j (by omega) (by rw [ln]; omega), rl2, nl2.2, rl1, nl1.2]

theorem Ta_split_q5 {C : zC} {n0 : Nat} {a0 : Nat} {κ : zS} {Q : zS → Prop} (W : zW C n0 κ) (Ta0 : zT κ a0 = 13) (hx5 : tx5 C) (hp : taI κ a0 ∧ tokI κ a0 ∧ (zI κ taLength a0).toInt ≤ 10240) (h : ∀ (κ' : zS), ((zF (objF a0) κ κ' ∧ taI κ' a0 ∧ tokI κ' a0 ∧ (zI κ' taTotal a0).toInt ≤ 10242 ∧ zR κ' taBytes a0 = zR κ taBytes a0 ∧ zI κ' taLength a0 = zI κ taLength a0) ∧ (f5_Ta_split (up5 κ a0) = ty5 κ' a0 ∧ up5 κ' a0 = up5 κ a0)) → Q κ') : zRun C 13 mTa_split [.ref a0] κ (oV Q noX) := by
  refine Ta_split_run W Ta0 ?_
  replace W := W.lo (Nat.le_trans W.1.2.1 W.1.2.2) (Nat.le_refl (zn κ))
  unfold w_Ta_split_0
  obtain ⟨H, K, p0⟩ := hp
  have B := H.1
  intro κ_1 hκ_1
  intro W2
  unfold w_Ta_split_9
  refine ⟨fun n l0 l1 l2 τ => n = ((zI κ taLength a0).toInt + 1 - l2.toInt).toNat ∧ ((a0 = l0 ∧ zF (objF a0) κ τ ∧ taI τ a0 ∧ tokI τ a0 ∧ (zI τ taTotal a0).toInt = l2.toInt ∧ 0 ≤ l2.toInt ∧ zR τ taBytes a0 = zR κ taBytes a0 ∧ zI τ taLength a0 = zI κ taLength a0 ∧ (0 ≤ l1.toInt ∧ l1.toInt ≤ (zI κ taLength a0).toInt) ∧ l2.toInt ≤ (zI κ taLength a0).toInt + 1) ∧ (up5 τ a0 = up5 κ a0 ∧ ∃ m5, n < m5 ∧ f5_Ta_split (up5 κ a0) = f5_Ta_split_9 (up5 κ a0) m5 l1 l2 (ty5 τ a0))), ⟨_, rfl, ?_⟩, ?_⟩
  · refine and_5 ?_ (fun o9 => ?_)  -- j1
    · have F1 : zF (objF a0) κ κ_1 := by rw [hκ_1]; exact zF_ui rfl
      have t1 : zI κ_1 taTotal a0 = 0 := by rw [hκ_1]; exact if_pos ⟨rfl, rfl⟩
      have l1 : zI κ_1 taLength a0 = zI κ taLength a0 := by rw [hκ_1]; rfl
      have r1 : zR κ_1 = zR κ := by rw [hκ_1]; rfl
      have n1 : zN κ_1 = zN κ := by rw [hκ_1]; rfl
      have a1 : zA κ_1 = zA κ := by rw [hκ_1]; rfl
      refine ⟨rfl, F1, ?_, ?_, by rw [t1], by decide, by rw [r1], l1, ⟨by decide, by rw [t0i]; omega⟩, by rw [t0i]; omega⟩
      · unfold taI
        rw [r1, n1, l1, t1]
        exact ⟨H.1, by decide, by rw [t0i]; omega, H.2.2.2⟩
      · unfold tokI
        rw [r1, n1, a1]
        exact K
    · refine ⟨?_, fu5, by unfold fu5; omega, ?_⟩
      · rw [hκ_1]; rfl
      · rw [hκ_1]
        unfold f5_Ta_split
        refine congrArg (f5_Ta_split_9 (up5 κ a0) fu5 0 0) ?_
        exact ty_05.symm
  rintro n9 _ x9_1 x9_2 κ9 W9 T9_0 ⟨hn9, ⟨rfl, i9⟩, hE⟩
  have hL := hE
  have hj61 : ∀ (l0 : Nat) (l1 : Int32) (l2 : Int32) (l3 : Int32) (s0 : Int32) (τ : zS), zW C (zn κ) τ → zT τ l0 = 13 → ((a0 = l0 ∧ τ = κ9 ∧ l2 = x9_2 ∧ 0 ≤ l1.toInt ∧ 0 ≤ l3.toInt ∧ l1.toInt + l3.toInt ≤ (zI κ taLength a0).toInt ∧ x9_2.toInt ≤ (zI κ taLength a0).toInt) ∧ (l1 = f5_Ta_skipBlanks (up5 κ a0) x9_1 ∧ l3 = sz5 (up5 κ a0) l1 ∧ s0 = kn5 (up5 κ a0) l1)) → w_Ta_split_61 C (zn κ) Q (fun (l0' : Nat) (l1' : Int32) (l2' : Int32) (τ : zS) => ∃ k < n9, (fun (n : Nat) (l0 : Nat) (l1 : Int32) (l2 : Int32) (τ : zS) => n = ((zI κ taLength a0).toInt + 1 - l2.toInt).toNat ∧ ((a0 = l0 ∧ zF (objF a0) κ τ ∧ taI τ a0 ∧ tokI τ a0 ∧ (zI τ taTotal a0).toInt = l2.toInt ∧ 0 ≤ l2.toInt ∧ zR τ taBytes a0 = zR κ taBytes a0 ∧ zI τ taLength a0 = zI κ taLength a0 ∧ (0 ≤ l1.toInt ∧ l1.toInt ≤ (zI κ taLength a0).toInt) ∧ l2.toInt ≤ (zI κ taLength a0).toInt + 1) ∧ (up5 τ a0 = up5 κ a0 ∧ ∃ m5, n < m5 ∧ f5_Ta_split (up5 κ a0) = f5_Ta_split_9 (up5 κ a0) m5 l1 l2 (ty5 τ a0)))) k l0' l1' l2' τ) l0 l1 l2 l3 s0 τ := by
    rintro _ y61_1 y61_2 y61_3 y61_s0 τ61 W61 T61_0 ⟨⟨rfl, j61⟩, hE⟩
    unfold w_Ta_split_61
    intro T3
    refine Ta_addToken_q5 W61 T3  ?_ (fun κ_4 q5 => ?_)
    · obtain ⟨F, I, J, tt, l0, rB, iL, p1, p2⟩ := i9
      obtain ⟨et, e2, y0, y1, y2, y3⟩ := j61
      have B9 := I.1
      rw [iL] at B9
      rw [et]
      exact ⟨I, J, by rw [tt]; omega, y0, y1, by omega⟩
    obtain ⟨q5, z9⟩ := q5
    intro W6
    intro M7
    refine ⟨fun c8 => ?_, fun c8 => ?_⟩
    · skip
      refine h _ ?_
      · refine and_5 ?_ (fun o9 => ?_)  -- q3
        · obtain ⟨F, I, J, tt, l0, rB, iL, p1, p2⟩ := i9
          obtain ⟨et, e2, y0, y1, y2, y3⟩ := j61
          rw [et] at q5
          obtain ⟨g1, g2, g3, g4, g5, g6⟩ := sp_t F tt l0 (by omega) rB iL q5
          exact ⟨g1, g2, g3, by omega, g5, g6⟩
        · obtain ⟨hu, m, hm, hl⟩ := hL
          obtain ⟨e1, e3, e0⟩ := hE
          obtain ⟨et, e2, y0, y1, y2, y3⟩ := j61
          rw [et] at z9
          obtain ⟨m, rfl⟩ : ∃ m9, m = m9 + 1 := ⟨m - 1, by omega⟩
          rw [hl, sp_s5 (by show ¬ zI κ taLength a0 < x9_2; rw [lti]; omega), ← e1, ← e3, ← e0, if_pos c8]
          exact ⟨z9.2.symm, z9.1.trans hu⟩
    · skip
      refine ⟨fun c9 => ?_, fun c9 => ?_⟩
      · skip
        intro x10 hx10
        intro x11 hx11
        refine lp_b5 ?_ (fun d9 => ⟨rfl, ?_⟩)
        · obtain ⟨F, I, J, tt, l0, rB, iL, p1, p2⟩ := i9
          obtain ⟨et, e2, y0, y1, y2, y3⟩ := j61
          have e1 : (x9_2 + 1).toInt = x9_2.toInt + 1 := by rw [add_i (by rw [t1i]; omega) (by rw [t1i]; omega), t1i]
          rw [hn9, hx11, e2, e1]; omega
        · refine and_5 ?_ (fun o9 => ?_)  -- i5
          · obtain ⟨F, I, J, tt, l0, rB, iL, p1, p2⟩ := i9
            obtain ⟨et, e2, y0, y1, y2, y3⟩ := j61
            have e1 : (x9_2 + 1).toInt = x9_2.toInt + 1 := by rw [add_i (by rw [t1i]; omega) (by rw [t1i]; omega), t1i]
            have e3 : (y61_1 + y61_3).toInt = y61_1.toInt + y61_3.toInt := add_i (by omega) (by omega)
            rw [et] at q5
            obtain ⟨g1, g2, g3, g4, g5, g6⟩ := sp_t F tt l0 (by omega) rB iL q5
            exact ⟨rfl, g1, g2, g3, by rw [hx11, e2, e1]; exact g4, by rw [hx11, e2, e1]; omega, g5, g6, ⟨by rw [hx10, e3]; omega, by rw [hx10, e3]; omega⟩, by rw [hx11, e2, e1]; omega⟩
          · obtain ⟨hu, m, hm, hl⟩ := hL
            obtain ⟨e1, e3, e0⟩ := hE
            obtain ⟨et, e2, y0, y1, y2, y3⟩ := j61
            rw [et] at z9
            obtain ⟨m, rfl⟩ : ∃ m9, m = m9 + 1 := ⟨m - 1, by omega⟩
            refine ⟨z9.1.trans hu, m, by omega, ?_⟩
            rw [hl, sp_s5 (by show ¬ zI κ taLength a0 < x9_2; rw [lti]; omega), ← e1, ← e3, ← e0, if_neg c8, if_neg c9, hx10, hx11, e2, z9.2]
      · skip
        refine h _ ?_
        · refine and_5 ?_ (fun o9 => ?_)  -- q6
          · obtain ⟨F, I, J, tt, l0, rB, iL, p1, p2⟩ := i9
            obtain ⟨et, e2, y0, y1, y2, y3⟩ := j61
            rw [et] at q5
            obtain ⟨g1, g2, g3, g4, g5, g6⟩ := sp_t F tt l0 (by omega) rB iL q5
            exact ⟨g1, g2, g3, by omega, g5, g6⟩
          · obtain ⟨hu, m, hm, hl⟩ := hL
            obtain ⟨e1, e3, e0⟩ := hE
            obtain ⟨et, e2, y0, y1, y2, y3⟩ := j61
            rw [et] at z9
            obtain ⟨m, rfl⟩ : ∃ m9, m = m9 + 1 := ⟨m - 1, by omega⟩
            rw [hl, sp_s5 (by show ¬ zI κ taLength a0 < x9_2; rw [lti]; omega), ← e1, ← e3, ← e0, if_neg c8, if_pos c9]
            exact ⟨z9.2.symm, z9.1.trans hu⟩
  have hj40 : ∀ (l0 : Nat) (l1 : Int32) (l2 : Int32) (s0 : Int32) (τ : zS), zW C (zn κ) τ → zT τ l0 = 13 → ((a0 = l0 ∧ τ = κ9 ∧ l2 = x9_2 ∧ 0 ≤ l1.toInt ∧ l1.toInt ≤ (zI κ taLength a0).toInt ∧ 0 ≤ s0.toInt ∧ l1.toInt + s0.toInt ≤ (zI κ taLength a0).toInt ∧ x9_2.toInt ≤ (zI κ taLength a0).toInt) ∧ (l1 = f5_Ta_skipBlanks (up5 κ a0) x9_1 ∧ s0 = sz5 (up5 κ a0) l1)) → w_Ta_split_40 C (zn κ) Q (fun (l0' : Nat) (l1' : Int32) (l2' : Int32) (τ : zS) => ∃ k < n9, (fun (n : Nat) (l0 : Nat) (l1 : Int32) (l2 : Int32) (τ : zS) => n = ((zI κ taLength a0).toInt + 1 - l2.toInt).toNat ∧ ((a0 = l0 ∧ zF (objF a0) κ τ ∧ taI τ a0 ∧ tokI τ a0 ∧ (zI τ taTotal a0).toInt = l2.toInt ∧ 0 ≤ l2.toInt ∧ zR τ taBytes a0 = zR κ taBytes a0 ∧ zI τ taLength a0 = zI κ taLength a0 ∧ (0 ≤ l1.toInt ∧ l1.toInt ≤ (zI κ taLength a0).toInt) ∧ l2.toInt ≤ (zI κ taLength a0).toInt + 1) ∧ (up5 τ a0 = up5 κ a0 ∧ ∃ m5, n < m5 ∧ f5_Ta_split (up5 κ a0) = f5_Ta_split_9 (up5 κ a0) m5 l1 l2 (ty5 τ a0)))) k l0' l1' l2' τ) l0 l1 l2 s0 τ := by
    rintro _ y40_1 y40_2 y40_s0 τ40 W40 T40_0 ⟨⟨rfl, j40⟩, hE⟩
    unfold w_Ta_split_40
    refine ⟨fun c12 => ?_, fun c12 => ?_⟩
    · skip
      refine hj61 _ _ _ _ _ _ W40 ?_ ?_
      · exact T40_0  -- t7
      · refine and_5 ?_ (fun o9 => ⟨hE.1, hE.2, (if_pos (by rw [j40.1] at c12; have z := hL.1; have z2 : zI κ9 taLength a0 = zI κ taLength a0 := congrArg (fun u => u.2.1) z; rw [z2] at c12; exact c12)).symm⟩)  -- k8
        obtain ⟨et, e2, y0, y1, y2, y3, y4⟩ := j40
        exact ⟨rfl, et, e2, y0, y2, y3, y4⟩
    · skip
      intro T13
      refine Ta_kindOf_q5 W40 T13 hx5 ?_ (fun r14 q16 => ?_)
      · rw [j40.1]; exact i9.2.1  -- p9
      obtain ⟨q16, z9⟩ := q16
      intro W17
      intro M18
      refine hj61 _ _ _ _ _ _ W17 ?_ ?_
      · exact T40_0  -- t10
      · refine and_5 ?_ (fun o9 => ?_)  -- k11
        · obtain ⟨et, e2, y0, y1, y2, y3, y4⟩ := j40
          exact ⟨rfl, et, e2, y0, y2, y3, y4⟩
        · have z := hL.1
          rw [j40.1] at c12 z9
          have z2 : zI κ9 taLength a0 = zI κ taLength a0 := congrArg (fun u => u.2.1) z
          rw [z2] at c12
          rw [z] at z9
          refine ⟨hE.1, hE.2, ?_⟩
          unfold kn5
          rw [if_neg (show ¬ (up5 κ a0).2.1 ≤ y40_1 from c12), ← hE.2]
          exact z9
  refine ⟨fun c19 => ?_, fun c19 => ?_⟩
  · skip
    refine h _ ?_
    · refine and_5 ?_ (fun o9 => ?_)  -- q12
      · obtain ⟨F, I, J, tt, l0, rB, iL, p1, p2⟩ := i9
        exact ⟨F, I, J, by omega, rB, iL⟩
      · obtain ⟨hu, m, hm, hl⟩ := hL
        have z2 : zI κ9 taLength a0 = zI κ taLength a0 := congrArg (fun u => u.2.1) hu
        obtain ⟨m, rfl⟩ : ∃ m9, m = m9 + 1 := ⟨m - 1, by omega⟩
        refine ⟨?_, hu⟩
        rw [hl]
        rw [z2] at c19
        exact if_pos c19
  · skip
    intro T20
    refine Ta_skipBlanks_q5 W9 T20  ?_ (fun r21 q23 => ?_)
    · obtain ⟨F, I, J, tt, l0, rB, iL, p1, p2⟩ := i9
      exact ⟨I, p1.1, by rw [iL]; exact p1.2⟩
    obtain ⟨q23, z9⟩ := q23
    have z8 := z9
    intro W24
    intro M25
    refine ⟨fun c26 => ?_, fun c26 => ?_⟩
    · skip
      refine hj40 _ _ _ _ _ W24 ?_ ?_
      · exact T9_0  -- t14
      · refine and_5 ?_ (fun o9 => ?_)  -- k15
        · obtain ⟨F, I, J, tt, l0, rB, iL, p1, p2⟩ := i9
          rw [lti, iL] at c19
          rw [iL] at q23
          exact ⟨rfl, rfl, rfl, by omega, by omega, by decide, by rw [t0i]; omega, by omega⟩
        · have z := hL.1
          have z2 : zI κ9 taLength a0 = zI κ taLength a0 := congrArg (fun u => u.2.1) z
          rw [z] at z9
          rw [z2] at c26
          exact ⟨z9, (if_pos c26).symm⟩
    · skip
      intro T27
      refine Ta_sizeAt_q5 W24 T27  ?_ (fun r28 q30 => ?_)
      · obtain ⟨F, I, J, tt, l0, rB, iL, p1, p2⟩ := i9
        rw [lei] at c26
        exact ⟨I, by omega, by omega⟩
      obtain ⟨q30, z9⟩ := q30
      intro W31
      intro M32
      refine hj40 _ _ _ _ _ W31 ?_ ?_
      · exact T9_0  -- t17
      · refine and_5 ?_ (fun o9 => ?_)  -- k18
        · obtain ⟨F, I, J, tt, l0, rB, iL, p1, p2⟩ := i9
          rw [lti, iL] at c19
          rw [iL] at q23 q30
          exact ⟨rfl, rfl, rfl, by omega, by omega, by omega, by omega, by omega⟩
        · have z := hL.1
          have z2 : zI κ9 taLength a0 = zI κ taLength a0 := congrArg (fun u => u.2.1) z
          rw [z] at z8 z9
          rw [z2] at c26
          exact ⟨z8, ((if_neg (show ¬ (up5 κ a0).2.1 ≤ r21 from c26)).trans z9.symm).symm⟩

end
section
set_option maxHeartbeats 1600000
/-! expressions -/
def f5_Pa_emitWaiting_0 : Nat → Int32 → E5 → R5 Unit
  | 0, _, _ => .inr (0, 0)
  | m5 + 1, a1, e => (if (e.1 paWaits) ≤ (0 : Int32) then .inl (e, ()) else pb5 (f5_Pa_rankOf (e.2.1 paWaiting ((e.1 paWaits) - (1 : Int32)).toNatClampNeg)) (fun r2 => (if r2 < a1 then .inl (e, ()) else pb5 (e.2.1 paWaiting ((e.1 paWaits) - (1 : Int32)).toNatClampNeg) (fun w => rdB5 (sw5 ((e.1 paWaits) - (1 : Int32)) e) (fun e5 _ => rdB5 (f5_Co_emit w (0 : Int32) e5) (fun e7 _ => f5_Pa_emitWaiting_0 m5 a1 e7))))))
def f5_Pa_emitWaiting (a1 : Int32) (e : E5) : R5 Unit := f5_Pa_emitWaiting_0 fu5 a1 e
theorem wk_5 {x : Int32} (h : 0 < x.toInt) : (x - 1).toNatClampNeg < x.toNatClampNeg := by
  have e := dec_i h
  have a := cnk (x := x) (by omega)
  have b := cnk (x := x - 1) (by omega)
  omega
theorem wz_5 {n : Nat} : (0 : Int32).toNatClampNeg ≤ n := Nat.zero_le n
theorem Pa_emitWaiting_q5 {C : zC} {n0 : Nat} {a0 : Nat} {a1 : Int32} {κ : zS} {Q : zS → Prop} (W : zW C n0 κ) (Ta0 : zT κ a0 = 10)  (hp : paI κ a0 ∧ (zI κ coLength (zR κ paCode a0)).toInt + (zI κ paWaits a0).toInt ≤ 20490) (h : ∀ (κ' : zS), ((paF κ κ' a0 ∧ paI κ' a0 ∧ (zI κ' paAt a0 = zI κ paAt a0 ∧ zI κ' paKind a0 = zI κ paKind a0) ∧ zI κ' taTotal (zR κ' paTape a0) = zI κ taTotal (zR κ paTape a0) ∧ (zI κ' coLength (zR κ' paCode a0)).toInt + (zI κ' paWaits a0).toInt = (zI κ coLength (zR κ paCode a0)).toInt + (zI κ paWaits a0).toInt) ∧ f5_Pa_emitWaiting a1 (ab5 κ a0) = .inl (ab5 κ' a0, ())) → Q κ') : zRun C 3 mPa_emitWaiting [.ref a0, .int a1] κ (oV Q noX) := by
  refine Pa_emitWaiting_run W Ta0 ?_
  replace W := W.lo (Nat.le_trans W.1.2.1 W.1.2.2) (Nat.le_refl (zn κ))
  unfold w_Pa_emitWaiting_0
  refine ⟨fun n l0 l1 τ => n = ((zI τ paWaits a0).toInt).toNat ∧ ((a0 = l0 ∧ a1 = l1 ∧ paF κ τ a0 ∧ paI τ a0 ∧ (zI τ paAt a0 = zI κ paAt a0 ∧ zI τ paKind a0 = zI κ paKind a0) ∧ zI τ taTotal (zR τ paTape a0) = zI κ taTotal (zR κ paTape a0) ∧ (zI τ coLength (zR τ paCode a0)).toInt + (zI τ paWaits a0).toInt = (zI κ coLength (zR κ paCode a0)).toInt + (zI κ paWaits a0).toInt) ∧ ∃ m5, n < m5 ∧ f5_Pa_emitWaiting a1 (ab5 κ a0) = f5_Pa_emitWaiting_0 m5 l1 (ab5 τ a0)), ⟨_, rfl, ?_⟩, ?_⟩
  · refine and_5 ?_ (fun o9 => ⟨fu5, by have := (zI κ paWaits a0).toInt_lt; unfold fu5; omega, rfl⟩)  -- j1
    exact ⟨rfl, rfl, paF.rf, hp.1, ⟨rfl, rfl⟩, rfl, rfl⟩
  rintro n0 _ _ κ0 W0 T0_0 ⟨hn0, ⟨rfl, rfl, i0⟩, m0, hm0, hE⟩
  obtain ⟨m0, rfl⟩ : ∃ m9, m0 = m9 + 1 := ⟨m0 - 1, by omega⟩
  refine ⟨fun c1 => ?_, fun c1 => ?_⟩
  · skip
    replace hE := rb_t5 hE c1
    refine h _ ?_
    · refine and_5 ?_ (fun o9 => hE)  -- q2
      exact i0
  · skip
    replace hE := rb_f5 hE c1
    rw [lei, t0i] at c1
    have c9 : 0 < (zI κ0 paWaits a0).toInt := by omega
    have w := i0.2.1.2.2.2.2.2.1
    have ed := dec_i c9
    refine ⟨?_, ?_⟩
    · rw [inb_iff, ed]; omega  -- b3
    refine Pa_rankOf_q5 W0   (fun r2 q4 => ?_)
    obtain ⟨q4, z9⟩ := q4
    replace hE := rb_p5 hE (z9.trans (congrArg f5_Pa_rankOf (ab_G5 (κ := κ0) (p := a0) (g := 1015) (Or.inl rfl) (wk_5 c9)).symm))
    intro W5
    intro M6
    refine ⟨fun c7 => ?_, fun c7 => ?_⟩
    · skip
      replace hE := rb_t5 hE c7
      refine h _ ?_
      · refine and_5 ?_ (fun o9 => hE)  -- q4
        exact i0
    · skip
      replace hE := rb_f5 hE c7
      intro κ_8 hκ_8
      replace hE := rb_p5 hE (ab_G5 (κ := κ0) (p := a0) (g := 1015) (Or.inl rfl) (wk_5 c9)).symm
      replace hE := rb_i5 hE (ab_uw5 hκ_8 (Nat.le_of_lt (wk_5 c9)))
      intro W9
      obtain ⟨N8, w8, -⟩ := paE_pop W0 T0_0 i0.2.1 c9 hκ_8
      have d8 := N8.2.1.2.2.2.2.2.1
      have s8 := i0.2.2.2.2
      have l0 := i0.2.1.2.1.2.2.2.2.2.2.2.1.1
      have b8 : (zI κ_8 coLength (zR κ_8 paCode a0)).toInt ≤ 20490 := by rw [N8.2.2.2.1]; omega
      refine ⟨?_, ?_⟩
      · have n8 : zN κ_8 (zR κ_8 paWaiting a0) = zN κ0 (zR κ0 paWaiting a0) := by rw [hκ_8]; rfl
        rw [inb_iff, n8]; omega
      intro T10
      refine Co_emit_q5 W9 T10  ?_ (fun κ_11 q12 => ?_)
      · exact ⟨N8.2.1.2.1, by omega⟩  -- p6
      obtain ⟨q12, z9⟩ := q12
      have e8 : zI κ_8 paWaits a0 = zI κ0 paWaits a0 - 1 := by rw [hκ_8]; exact if_pos ⟨rfl, rfl⟩
      have q8 : zA κ_8 (zR κ_8 paWaiting a0) = zA κ0 (zR κ0 paWaiting a0) := by rw [hκ_8]; rfl
      have z8 := z9 a0 (N8.1.1.t T0_0 (by decide)) rfl
      rw [e8, q8] at z8
      replace hE := rb_i5 hE z8
      intro W13
      intro M14
      refine lp_b5 ?_ (fun d9 => ⟨rfl, ?_⟩)
      · obtain ⟨I, F, i, t, l⟩ := pa_emit W9 (N8.1.1.t T0_0 (by decide)) N8.2.1 q12 (by omega)
        rw [hn0, i paWaits, w8]; omega
      · refine and_5 ?_ (fun o9 => ⟨m0, by omega, hE⟩)  -- i8
        obtain ⟨I, F, i, t, l⟩ := pa_emit W9 (N8.1.1.t T0_0 (by decide)) N8.2.1 q12 (by omega)
        refine ⟨rfl, rfl, (i0.1.tr N8.1).tr F, I, ⟨?_, ?_⟩, ?_, ?_⟩
        · rw [i paAt, N8.2.2.1.1]; exact i0.2.2.1.1
        · rw [i paKind, N8.2.2.1.2]; exact i0.2.2.1.2
        · rw [t, N8.2.2.2.2]; exact i0.2.2.2.1
        · rw [l, i paWaits, w8, N8.2.2.2.1]; omega

def f5_Pa_operator_58 (a1 : Int32) (e : E5) : R5 Unit := rdB5 (f5_Pa_hold (a1) e) (fun e1 _ => rdB5 (f5_Pa_take e1) (fun e4 _ => .inl (e4, ())))
def f5_Pa_operator_16 (a1 a2 s1 : Int32) (e : E5) : R5 Unit := rdB5 (f5_Pa_emitWaiting (s1) e) (fun e1 _ => (if a2 = (3 : Int32) then (if (e1.1 paWaits) ≤ (0 : Int32) then (f5_Pa_operator_58 (a1) e1) else pb5 (f5_Pa_rankOf ((e1.2.1 paWaiting (((e1.1 paWaits) - (1 : Int32))).toNatClampNeg))) (fun r7 => (if r7 = (3 : Int32) then .inr (rv5 ((2 : Int32)) ((e1.1 paAt)) e1) else (f5_Pa_operator_58 (a1) e1)))) else (f5_Pa_operator_58 (a1) e1)))
def f5_Pa_operator (a1 : Int32) (e : E5) : R5 Unit := pb5 (f5_Pa_rankOf (a1)) (fun r2 => (if r2 = (3 : Int32) then (f5_Pa_operator_16 (a1) (r2) ((4 : Int32)) e) else (f5_Pa_operator_16 (a1) (r2) (r2) e)))

def f5_Pa_closeInner_26 (a1 s1 : Int32) (e : E5) : R5 Unit := rdB5 (f5_Pa_closeSign (s1) e) (fun e1 _ => rdB5 (sw5 (((e1.1 paWaits) - (1 : Int32))) e1) (fun e5 _ => (if a1 = (100 : Int32) then .inl (e5, ()) else rdB5 (f5_Co_emit ((4 : Int32)) ((a1 - (101 : Int32))) e5) (fun e7 _ => .inl (e7, ())))))
def f5_Pa_closeInner  (e : E5) : R5 Unit := pb5 ((e.2.1 paWaiting (((e.1 paWaits) - (1 : Int32))).toNatClampNeg)) (fun v1_1 => (if v1_1 = (100 : Int32) then (f5_Pa_closeInner_26 (v1_1) ((41 : Int32)) e) else (f5_Pa_closeInner_26 (v1_1) ((93 : Int32)) e)))

def f5_Pa_operand_102 (a1 : Int32) (e : E5) : R5 Int32 := (if a1 = (0 : Int32) then .inl (e, (1 : Int32)) else .inl (e, (0 : Int32)))
def f5_Pa_operand_80 (a1 s1 : Int32) (e : E5) : R5 Int32 := rdB5 (f5_Pa_hold (s1) e) (fun e1 _ => rdB5 (f5_Pa_take e1) (fun e4 _ => (f5_Pa_operand_102 (a1) e4)))
def f5_Pa_operand_64 (a1 : Int32) (e : E5) : R5 Int32 := (if (e.1 paKind) = (33 : Int32) then (f5_Pa_operand_80 (a1) ((6 : Int32)) e) else (f5_Pa_operand_80 (a1) ((5 : Int32)) e))
def f5_Pa_operand_15 (s0 : Int32) (e : E5) : R5 Int32 := (if s0 = (0 : Int32) then (if (e.1 paKind) = (33 : Int32) then (f5_Pa_operand_64 (s0) e) else (if (e.1 paKind) = (45 : Int32) then (f5_Pa_operand_64 (s0) e) else rdB5 (f5_Pa_openSign ((40 : Int32)) e) (fun e1 _ => rdB5 (f5_Pa_hold ((100 : Int32)) e1) (fun e4 _ => (f5_Pa_operand_102 (s0) e4))))) else pb5 (f5_Ta_numberAt (tq5 e) ((e.1 paAt))) (fun r10 => rdB5 (f5_Co_emit ((1 : Int32)) (r10) e) (fun e12 _ => rdB5 (f5_Pa_take e12) (fun e16 _ => (f5_Pa_operand_102 (s0) e16)))))
def f5_Pa_operand  (e : E5) : R5 Int32 := (if (e.1 paKind) = (141 : Int32) then (f5_Pa_operand_15 ((1 : Int32)) e) else (f5_Pa_operand_15 ((0 : Int32)) e))

def f5_Pa_operandName_68 (a1 a2 s1 : Int32) (e : E5) : R5 Int32 := (if a2 < (0 : Int32) then pb5 (f5_Ta_findName (tq5 e) (e.2.1 paVarNames) (e.2.2 paVarNames) (e.1 coVars) (a1)) (fun r2 => rdB5 (f5_Co_emit (s1) (r2) e) (fun e4 _ => .inl (e4, (0 : Int32)))) else rdB5 (f5_Co_emit (s1) (a2) e) (fun e8 _ => .inl (e8, (0 : Int32))))
def f5_Pa_operandName_49 (a1 : Int32) (e : E5) : R5 Int32 := rdB5 (f5_Pa_findVariable (a1) e) (fun e1 r2 => (if r2 < (0 : Int32) then (f5_Pa_operandName_68 (a1) (r2) ((2 : Int32)) e1) else (f5_Pa_operandName_68 (a1) (r2) ((3 : Int32)) e1)))
def f5_Pa_operandName (a1 : Int32) (e : E5) : R5 Int32 := (if (e.1 paKind) = (91 : Int32) then rdB5 (f5_Pa_findArray (a1) e) (fun e5 r6 => rdB5 (f5_Pa_openSign ((91 : Int32)) e5) (fun e8 _ => rdB5 (f5_Pa_hold (((101 : Int32) + r6)) e8) (fun e12 _ => .inl (e12, (1 : Int32))))) else (if (e.1 paKind) = (40 : Int32) then .inr (rv5 ((2 : Int32)) ((e.1 paAt)) e) else (f5_Pa_operandName_49 (a1) e)))

def f5_Pa_expression_109 (B36 : Int32 → Int32 → Int32 → Int32 → E5 → R5 Unit) (a5 a6 s0 : Int32) (e : E5) : R5 Unit := pb5 (a6 + (1 : Int32)) (fun v6_1 => (B36 ((-1 : Int32)) (s0) (a5) (v6_1) e))
def f5_Pa_expression_161 (B36 : Int32 → Int32 → Int32 → Int32 → E5 → R5 Unit) (a3 a4 a6 s0 : Int32) (e : E5) : R5 Unit := (if s0 = (0 : Int32) then pb5 (a6 + (1 : Int32)) (fun v6_1 => (B36 (a3) (a4) (s0) (v6_1) e)) else rdB5 (f5_Pa_closeInner e) (fun e2 _ => pb5 (a6 + (1 : Int32)) (fun v6_5 => (B36 (a3) (a4) (s0) (v6_5) e2))))
def f5_Pa_expression_87 (B36 : Int32 → Int32 → Int32 → Int32 → E5 → R5 Unit) (a3 a4 a5 a6 : Int32) (e : E5) : R5 Unit := (if a4 = (0 : Int32) then pb5 (f5_Pa_binary ((e.1 paKind))) (fun r2 => (if r2 = (-1 : Int32) then rdB5 (f5_Pa_emitWaiting ((1 : Int32)) e) (fun e4 _ => (if (e4.1 paWaits) ≤ (0 : Int32) then (f5_Pa_expression_161 B36 (a3) (a4) (a6) ((0 : Int32)) e4) else (f5_Pa_expression_161 B36 (a3) (a4) (a6) ((1 : Int32)) e4))) else pb5 (f5_Pa_binary ((e.1 paKind))) (fun r11 => rdB5 (f5_Pa_operator (r11) e) (fun e13 _ => pb5 (a6 + (1 : Int32)) (fun v6_17 => (B36 (a3) ((1 : Int32)) (a5) (v6_17) e13)))))) else (if a3 = (-1 : Int32) then rdB5 (f5_Pa_operand e) (fun e23 r24 => (f5_Pa_expression_109 B36 (a5) (a6) (r24) e23)) else rdB5 (f5_Pa_operandName (a3) e) (fun e19 r20 => (f5_Pa_expression_109 B36 (a5) (a6) (r20) e19))))
def f5_Pa_expression_178  (e : E5) : R5 Unit := rdB5 (f5_Co_emit ((0 : Int32)) ((0 : Int32)) e) (fun e1 _ => .inl (e1, ()))
def f5_Pa_expression_36  : Nat → Int32 → Int32 → Int32 → Int32 → E5 → R5 Unit
  | 0, _, _, _, _, _ => .inr (0, 0)
  | m5 + 1, a3, a4, a5, a6, e => (if a5 = (0 : Int32) then (f5_Pa_expression_178 e) else (if ((2 : Int32) * (e.1 taTotal)) < a6 then (f5_Pa_expression_178 e) else (if a4 = (0 : Int32) then (f5_Pa_expression_87 (f5_Pa_expression_36 m5) (a3) (a4) (a5) (a6) e) else (if a3 = (-1 : Int32) then (if (e.1 paKind) = (140 : Int32) then pb5 ((e.1 paAt)) (fun v3_1 => rdB5 (f5_Pa_take e) (fun e2 _ => pb5 (a6 + (1 : Int32)) (fun v6_5 => (f5_Pa_expression_36 m5 (v3_1) (a4) (a5) (v6_5) e2)))) else (f5_Pa_expression_87 (f5_Pa_expression_36 m5) (a3) (a4) (a5) (a6) e)) else (f5_Pa_expression_87 (f5_Pa_expression_36 m5) (a3) (a4) (a5) (a6) e)))))
def f5_Pa_expression (a1 a2 : Int32) (e : E5) : R5 Unit := pb5 (cl5 (a1) ((4 : Int32)) e) (fun r2 => rdB5 (f5_Co_setColumn (a1) ((4 : Int32)) ((r2 + (1 : Int32))) e) (fun e4 _ => rdB5 (sw5 ((0 : Int32)) e4) (fun e8 _ => (f5_Pa_expression_36 fu5 (a2) ((1 : Int32)) ((1 : Int32)) ((0 : Int32)) e8))))

theorem Pa_operator_q5 {C : zC} {n0 : Nat} {a0 : Nat} {a1 : Int32} {κ : zS} {Q : zS → Prop} {X : zXp} (W : zW C n0 κ) (Ta0 : zT κ a0 = 10)  (hp : paI κ a0 ∧ paK κ a0 ∧ (zI κ coLength (zR κ paCode a0)).toInt + (zI κ paWaits a0).toInt ≤ 20490 ∧ zI κ paKind a0 ≠ 142) (h : ∀ (κ' : zS), ((paE κ κ' a0 0) ∧ f5_Pa_operator a1 (ab5 κ a0) = .inl (ab5 κ' a0, ())) → Q κ') (hx : ∀ (cls : String) (κ' : zS), ((paX5 κ cls κ' a0) ∧ f5_Pa_operator a1 (ab5 κ a0) = .inr (zI κ' paFaultCode a0, zI κ' paFaultPlace a0)) → X cls κ') : zRun C 9 mPa_operator [.ref a0, .int a1] κ (oV Q X) := by
  refine Pa_operator_run W Ta0 ?_
  replace W := W.lo (Nat.le_trans W.1.2.1 W.1.2.2) (Nat.le_refl (zn κ))
  unfold w_Pa_operator_0
  have R := pa_room hp.1
  have hj58 : ∀ (l0 : Nat) (l1 : Int32) (τ : zS), zW C (zn κ) τ → zT τ l0 = 10 → ((a0 = l0 ∧ a1 = l1 ∧ paE κ τ a0 0 ∧ zI τ paKind a0 ≠ 142 ∧ (zI τ coLength (zR τ paCode a0)).toInt + (zI τ paWaits a0).toInt ≤ 20490) ∧ f5_Pa_operator a1 (ab5 κ a0) = f5_Pa_operator_58 l1 (ab5 τ a0)) → w_Pa_operator_58 C (zn κ) Q X  l0 l1 τ := by
    rintro _ _ τ58 W58 T58_0 ⟨⟨rfl, rfl, j58⟩, hE⟩
    unfold w_Pa_operator_58
    intro T1
    have R58 := pa_room j58.1.2.1
    refine Pa_hold_q5 W58 T1  ?_ (fun κ_2 q3 => ?_)
    · exact ⟨j58.1.2.1, by omega⟩  -- p1
    obtain ⟨q3, z9⟩ := q3
    replace hE := rb_i5 hE z9
    intro W4
    intro M5
    intro T6
    obtain ⟨E1, k1, a1⟩ := paE_hold j58.1.2.1 j58.1.2.2.1 (by omega) q3
    refine Pa_take_q5 W4 T6  ?_ (fun κ_7 q8 => ?_)
    · exact ⟨E1.2.1, paK_t E1.2.2.1 k1 j58.2.1⟩  -- p2
    obtain ⟨q8, z9⟩ := q8
    replace hE := rb_i5 hE z9
    intro W9
    intro M10
    refine h _ ?_
    · refine and_5 ?_ (fun o9 => hE)  -- q3
      obtain ⟨-, E2, -, a2, -⟩ := paT_N W4 T6 E1.2.1 q8
      exact ((j58.1.tr E1).tr E2).le (by decide)
  have hj16 : ∀ (l0 : Nat) (l1 : Int32) (l2 : Int32) (s0 : Nat) (s1 : Int32) (τ : zS), zW C (zn κ) τ → zT τ l0 = 10 → zT τ s0 = 10 → ((κ = τ ∧ a0 = l0 ∧ a1 = l1 ∧ s0 = a0) ∧ f5_Pa_operator a1 (ab5 κ a0) = f5_Pa_operator_16 l1 l2 s1 (ab5 τ a0)) → w_Pa_operator_16 C (zn κ) Q X  l0 l1 l2 s0 s1 τ := by
    rintro _ _ y16_2 y16_s0 y16_s1 _ W16 T16_0 T16_1 ⟨⟨rfl, rfl, rfl, j16⟩, hE⟩
    unfold w_Pa_operator_16
    intro T11
    refine Pa_emitWaiting_q5 W16 T11  ?_ (fun κ_12 q13 => ?_)
    · rw [j16]; exact ⟨hp.1, hp.2.2.1⟩  -- p4
    obtain ⟨q13, z9⟩ := q13
    rw [j16] at z9
    replace hE := rb_i5 hE z9
    intro W14
    intro M15
    rw [j16] at q13
    have Q := paE_ew hp.2.1 q13
    have S := q13.2.2.2.2
    have K12 : zI κ_12 paKind a0 ≠ 142 := by rw [Q.2.1]; exact hp.2.2.2
    refine ⟨fun c16 => ?_, fun c16 => ?_⟩
    · skip
      replace hE := rb_f5 hE c16
      refine hj58 _ _ _ W14 ?_ ?_
      · exact Q.1.1.1.t Ta0 (by decide)  -- t5
      · refine and_5 ?_ (fun o9 => hE)  -- k6
        exact ⟨rfl, rfl, Q.1, K12, by omega⟩
    · skip
      replace hE := rb_t5 hE c16
      refine ⟨fun c17 => ?_, fun c17 => ?_⟩
      · skip
        replace hE := rb_t5 hE c17
        refine hj58 _ _ _ W14 ?_ ?_
        · exact Q.1.1.1.t Ta0 (by decide)  -- t7
        · refine and_5 ?_ (fun o9 => hE)  -- k8
          exact ⟨rfl, rfl, Q.1, K12, by omega⟩
      · skip
        replace hE := rb_f5 hE c17
        refine ⟨?_, ?_⟩
        · have w := Q.1.2.1.2.2.2.2.2.1
          rw [lei, t0i] at c17
          have ed := dec_i (x := zI κ_12 paWaits a0) (by omega)
          rw [inb_iff, ed]; omega
        refine Pa_rankOf_q5 W14   (fun r18 q20 => ?_)
        obtain ⟨q20, z9⟩ := q20
        replace hE := rb_p5 hE (z9.trans (congrArg f5_Pa_rankOf (ab_G5 (κ := κ_12) (p := a0) (g := 1015) (Or.inl rfl) (wk_5 (x := zI κ_12 paWaits a0) (by rw [lei, t0i] at c17; omega))).symm))
        intro W21
        intro M22
        refine ⟨fun c23 => ?_, fun c23 => ?_⟩
        · skip
          replace hE := rb_f5 hE c23
          refine hj58 _ _ _ W21 ?_ ?_
          · exact Q.1.1.1.t Ta0 (by decide)  -- t10
          · refine and_5 ?_ (fun o9 => hE)  -- k11
            exact ⟨rfl, rfl, Q.1, K12, by omega⟩
        · skip
          replace hE := rb_t5 hE c23
          intro T24
          refine Pa_refuse_q5 (by decide) W21 T24  ?_ (fun κ_25 q26 => False.elim q26) (fun cls9 κ9 q9 => hx _ _ ?_)
          · exact Q.1.2.1  -- p12
          obtain ⟨q9, z9⟩ := q9
          · refine and_5 ?_ (fun o9 => rb_r5 hE z9)  -- x13
            exact paX5_tr Q.1.1 q9
  have hE : f5_Pa_operator a1 (ab5 κ a0) = f5_Pa_operator a1 (ab5 κ a0) := rfl
  refine Pa_rankOf_q5 W   (fun r27 q29 => ?_)
  obtain ⟨q29, z9⟩ := q29
  replace hE := rb_p5 hE z9
  intro W30
  intro M31
  refine ⟨fun c32 => ?_, fun c32 => ?_⟩
  · skip
    replace hE := rb_f5 hE c32
    refine hj16 _ _ _ _ _ _ W30 ?_ ?_ ?_
    · exact Ta0  -- t14
    · exact Ta0  -- t15
    · refine and_5 ?_ (fun o9 => hE)  -- k16
      exact ⟨rfl, rfl, rfl, rfl⟩
  · skip
    replace hE := rb_t5 hE c32
    refine hj16 _ _ _ _ _ _ W30 ?_ ?_ ?_
    · exact Ta0  -- t17
    · exact Ta0  -- t18
    · refine and_5 ?_ (fun o9 => hE)  -- k19
      exact ⟨rfl, rfl, rfl, rfl⟩

theorem Pa_closeInner_q5 {C : zC} {n0 : Nat} {a0 : Nat} {κ : zS} {Q : zS → Prop} {X : zXp} (W : zW C n0 κ) (Ta0 : zT κ a0 = 10)  (hp : paI κ a0 ∧ paK κ a0 ∧ 0 < (zI κ paWaits a0).toInt ∧ (zI κ coLength (zR κ paCode a0)).toInt + (zI κ paWaits a0).toInt ≤ 20490) (h : ∀ (κ' : zS), ((paE κ κ' a0 0) ∧ f5_Pa_closeInner (ab5 κ a0) = .inl (ab5 κ' a0, ())) → Q κ') (hx : ∀ (cls : String) (κ' : zS), ((paX5 κ cls κ' a0) ∧ f5_Pa_closeInner (ab5 κ a0) = .inr (zI κ' paFaultCode a0, zI κ' paFaultPlace a0)) → X cls κ') : zRun C 10 mPa_closeInner [.ref a0] κ (oV Q X) := by
  refine Pa_closeInner_run W Ta0 ?_
  replace W := W.lo (Nat.le_trans W.1.2.1 W.1.2.2) (Nat.le_refl (zn κ))
  unfold w_Pa_closeInner_0
  have hj26 : ∀ (l0 : Nat) (l1 : Int32) (s0 : Nat) (s1 : Int32) (τ : zS), zW C (zn κ) τ → zT τ l0 = 10 → zT τ s0 = 10 → ((κ = τ ∧ a0 = l0 ∧ s0 = a0 ∧ s1 ≠ 142) ∧ f5_Pa_closeInner (ab5 κ a0) = f5_Pa_closeInner_26 l1 s1 (ab5 τ a0)) → w_Pa_closeInner_26 C (zn κ) Q X  l0 l1 s0 s1 τ := by
    rintro _ y26_1 y26_s0 y26_s1 _ W26 T26_0 T26_1 ⟨⟨rfl, rfl, j26⟩, hE⟩
    unfold w_Pa_closeInner_26
    intro T1
    refine Pa_closeSign_q5 W26 T1  ?_ (fun κ_2 q3 => ?_) (fun cls9 κ9 q9 => hx _ _ ?_)
    · rw [j26.1]; exact ⟨hp.1, hp.2.1, j26.2⟩  -- p1
    rotate_left
    obtain ⟨q9, z9⟩ := q9
    · refine and_5 ?_ (fun o9 => rb_x5 hE (by rw [j26.1] at z9; exact z9))  -- x2
      rw [j26.1] at q9; exact q9
    obtain ⟨q3, z9⟩ := q3
    rw [j26.1] at z9
    replace hE := rb_i5 hE z9
    intro W4
    intro M5
    intro κ_6 hκ_6
    have ew9 : zI κ_2 paWaits a0 = zI κ paWaits a0 := by
      rw [j26.1] at q3
      exact q3.1.2.2.2.2 paWaits a0 (fun e => absurd e.2 (by decide))
    replace hE := rb_i5 hE (ab_uw5 hκ_6 (Nat.le_of_lt (wk_5 (x := zI κ_2 paWaits a0) (by rw [ew9]; exact hp.2.2.1))))
    intro W7
    rw [j26.1] at q3
    obtain ⟨-, E1, ew, ea, el⟩ := paT_N W Ta0 hp.1 q3
    have R := pa_room hp.1
    obtain ⟨N6, w6, E6⟩ := paE_pop W4 (q3.1.1.t Ta0 (by decide)) E1.2.1 (by rw [ew]; exact hp.2.2.1) hκ_6
    have E2 := E6 E1.2.2.1
    refine ⟨fun c8 => ?_, fun c8 => ?_⟩
    · skip
      replace hE := rb_t5 hE c8
      refine h _ ?_
      · refine and_5 ?_ (fun o9 => hE)  -- q3
        exact (E1.tr E2).le (by decide)
    · skip
      replace hE := rb_f5 hE c8
      intro T9
      refine Co_emit_q5 W7 T9  ?_ (fun κ_10 q11 => ?_)
      · exact ⟨N6.2.1.2.1, by rw [N6.2.2.2.1, el]; omega⟩  -- p4
      obtain ⟨q11, z9⟩ := q11
      replace hE := rb_i5 hE (z9 a0 (N6.1.1.t (q3.1.1.t Ta0 (by decide)) (by decide)) rfl)
      intro W12
      intro M13
      refine h _ ?_
      · refine and_5 ?_ (fun o9 => hE)  -- q5
        have E3 := (paE_emit W7 (N6.1.1.t (q3.1.1.t Ta0 (by decide)) (by decide)) N6.2.1 E2.2.2.1 q11 (by rw [N6.2.2.2.1, el]; omega)).1
        exact ((E1.tr E2).tr E3).le (by decide)
  have hE : f5_Pa_closeInner (ab5 κ a0) = f5_Pa_closeInner (ab5 κ a0) := rfl
  refine ⟨?_, ?_⟩
  · have w := hp.1.2.2.2.2.2.1
    have ed := dec_i hp.2.2.1
    rw [inb_iff, ed]; omega
  intro x14 hx14
  replace hE := rb_p5 hE (hx14.trans (ab_G5 (κ := κ) (p := a0) (g := 1015) (Or.inl rfl) (wk_5 hp.2.2.1)).symm)
  refine ⟨fun c15 => ?_, fun c15 => ?_⟩
  · skip
    replace hE := rb_f5 hE c15
    refine hj26 _ _ _ _ _ W ?_ ?_ ?_
    · exact Ta0  -- t7
    · exact Ta0  -- t8
    · refine and_5 ?_ (fun o9 => hE)  -- k9
      exact ⟨rfl, rfl, rfl, by decide⟩
  · skip
    replace hE := rb_t5 hE c15
    refine hj26 _ _ _ _ _ W ?_ ?_ ?_
    · exact Ta0  -- t10
    · exact Ta0  -- t11
    · refine and_5 ?_ (fun o9 => hE)  -- k12
      exact ⟨rfl, rfl, rfl, by decide⟩

theorem Pa_operand_q5 {C : zC} {n0 : Nat} {a0 : Nat} {κ : zS} {Q : Int32 → zS → Prop} {X : zXp} (W : zW C n0 κ) (Ta0 : zT κ a0 = 10)  (hp : paI κ a0 ∧ paK κ a0 ∧ (zI κ coLength (zR κ paCode a0)).toInt + (zI κ paWaits a0).toInt ≤ 20490) (h : ∀ (v : Int32) (κ' : zS), ((paE κ κ' a0 0 ∧ (zI κ paAt a0).toInt + 1 ≤ (zI κ' paAt a0).toInt ∧ nb v) ∧ f5_Pa_operand (ab5 κ a0) = .inl (ab5 κ' a0, v)) → Q v κ') (hx : ∀ (cls : String) (κ' : zS), ((paX5 κ cls κ' a0) ∧ f5_Pa_operand (ab5 κ a0) = .inr (zI κ' paFaultCode a0, zI κ' paFaultPlace a0)) → X cls κ') : zRun C 10 mPa_operand [.ref a0] κ (oI Q X) := by
  refine Pa_operand_run W Ta0 ?_
  replace W := W.lo (Nat.le_trans W.1.2.1 W.1.2.2) (Nat.le_refl (zn κ))
  unfold w_Pa_operand_0
  have R := pa_room hp.1
  have hj102 : ∀ (l0 : Nat) (l1 : Int32) (τ : zS), zW C (zn κ) τ → zT τ l0 = 10 → ((a0 = l0 ∧ paE κ τ a0 0 ∧ (zI κ paAt a0).toInt + 1 ≤ (zI τ paAt a0).toInt) ∧ f5_Pa_operand (ab5 κ a0) = f5_Pa_operand_102 l1 (ab5 τ a0)) → w_Pa_operand_102 C (zn κ) Q X  l0 l1 τ := by
    rintro _ y102_1 τ102 W102 T102_0 ⟨⟨rfl, j102⟩, hE⟩
    unfold w_Pa_operand_102
    refine ⟨fun c1 => ?_, fun c1 => ?_⟩
    · skip
      replace hE := rb_f5 hE c1
      refine h _ _ ?_
      · refine and_5 ?_ (fun o9 => hE)  -- q1
        exact ⟨j102.1, j102.2, nb_0⟩
    · skip
      replace hE := rb_t5 hE c1
      refine h _ _ ?_
      · refine and_5 ?_ (fun o9 => hE)  -- q2
        exact ⟨j102.1, j102.2, nb_1⟩
  have hj80 : ∀ (l0 : Nat) (l1 : Int32) (s0 : Nat) (s1 : Int32) (τ : zS), zW C (zn κ) τ → zT τ l0 = 10 → zT τ s0 = 10 → ((κ = τ ∧ a0 = l0 ∧ s0 = a0 ∧ zI κ paKind a0 ≠ 142) ∧ f5_Pa_operand (ab5 κ a0) = f5_Pa_operand_80 l1 s1 (ab5 τ a0)) → w_Pa_operand_80 C (zn κ) Q X  l0 l1 s0 s1 τ := by
    rintro _ y80_1 y80_s0 y80_s1 _ W80 T80_0 T80_1 ⟨⟨rfl, rfl, j80⟩, hE⟩
    unfold w_Pa_operand_80
    intro T2
    refine Pa_hold_q5 W80 T2  ?_ (fun κ_3 q4 => ?_)
    · rw [j80.1]; exact ⟨hp.1, by omega⟩  -- p3
    obtain ⟨q4, z9⟩ := q4
    rw [j80.1] at z9
    replace hE := rb_i5 hE z9
    intro W5
    intro M6
    intro T7
    rw [j80.1] at q4
    obtain ⟨E1, k1, a1⟩ := paE_hold hp.1 hp.2.1 (by omega) q4
    refine Pa_take_q5 W5 T7  ?_ (fun κ_8 q9 => ?_)
    · exact ⟨E1.2.1, paK_t E1.2.2.1 k1 j80.2⟩  -- p4
    obtain ⟨q9, z9⟩ := q9
    replace hE := rb_i5 hE z9
    intro W10
    intro M11
    obtain ⟨-, E2, -, a2, -⟩ := paT_N W5 T7 E1.2.1 q9
    refine hj102 _ _ _ W10 ?_ ?_
    · exact q9.1.1.t T7 (by decide)  -- t5
    · refine and_5 ?_ (fun o9 => hE)  -- k6
      exact ⟨rfl, (E1.tr E2).le (by decide), by omega⟩
  have hj64 : ∀ (l0 : Nat) (l1 : Int32) (τ : zS), zW C (zn κ) τ → zT τ l0 = 10 → ((κ = τ ∧ a0 = l0 ∧ zI κ paKind a0 ≠ 142) ∧ f5_Pa_operand (ab5 κ a0) = f5_Pa_operand_64 l1 (ab5 τ a0)) → w_Pa_operand_64 C (zn κ) Q X  l0 l1 τ := by
    rintro _ y64_1 _ W64 T64_0 ⟨⟨rfl, rfl, j64⟩, hE⟩
    unfold w_Pa_operand_64
    refine ⟨fun c12 => ?_, fun c12 => ?_⟩
    · skip
      replace hE := rb_f5 hE c12
      refine hj80 _ _ _ _ _ W64 ?_ ?_ ?_
      · exact Ta0  -- t7
      · exact Ta0  -- t8
      · refine and_5 ?_ (fun o9 => hE)  -- k9
        exact ⟨rfl, rfl, rfl, j64⟩
    · skip
      replace hE := rb_t5 hE c12
      refine hj80 _ _ _ _ _ W64 ?_ ?_ ?_
      · exact Ta0  -- t10
      · exact Ta0  -- t11
      · refine and_5 ?_ (fun o9 => hE)  -- k12
        exact ⟨rfl, rfl, rfl, j64⟩
  have hj15 : ∀ (l0 : Nat) (s0 : Int32) (τ : zS), zW C (zn κ) τ → zT τ l0 = 10 → ((κ = τ ∧ a0 = l0 ∧ (s0 ≠ 0 → zI κ paKind a0 = 141)) ∧ f5_Pa_operand (ab5 κ a0) = f5_Pa_operand_15 s0 (ab5 τ a0)) → w_Pa_operand_15 C (zn κ) Q X  l0 s0 τ := by
    rintro _ y15_s0 _ W15 T15_0 ⟨⟨rfl, rfl, j15⟩, hE⟩
    unfold w_Pa_operand_15
    refine ⟨fun c13 => ?_, fun c13 => ?_⟩
    · skip
      replace hE := rb_t5 hE c13
      refine ⟨fun c14 => ?_, fun c14 => ?_⟩
      · skip
        replace hE := rb_t5 hE c14
        refine hj64 _ _ _ W15 ?_ ?_
        · exact Ta0  -- t13
        · refine and_5 ?_ (fun o9 => hE)  -- k14
          exact ⟨rfl, rfl, by rw [c14]; decide⟩
      · skip
        replace hE := rb_f5 hE c14
        refine ⟨fun c15 => ?_, fun c15 => ?_⟩
        · skip
          replace hE := rb_f5 hE c15
          intro T16
          refine Pa_openSign_q5 W15 T16  ?_ (fun κ_17 q18 => ?_) (fun cls9 κ9 q9 => hx _ _ ?_)
          · exact ⟨hp.1, hp.2.1, by decide⟩  -- p15
          rotate_left
          obtain ⟨q9, z9⟩ := q9
          · refine and_5 ?_ (fun o9 => rb_x5 hE z9)  -- x16
            exact q9
          obtain ⟨q18, z9⟩ := q18
          replace hE := rb_i5 hE z9
          intro W19
          intro M20
          intro T21
          obtain ⟨-, E1, w1, a1, l1⟩ := paT_N W Ta0 hp.1 q18
          refine Pa_hold_q5 W19 T21  ?_ (fun κ_22 q23 => ?_)
          · exact ⟨E1.2.1, by rw [w1]; omega⟩  -- p17
          obtain ⟨q23, z9⟩ := q23
          replace hE := rb_i5 hE z9
          intro W24
          intro M25
          refine hj102 _ _ _ W24 ?_ ?_
          · exact q23.1.1.1.t T21 (by decide)  -- t18
          · refine and_5 ?_ (fun o9 => hE)  -- k19
            obtain ⟨E2, -, a2⟩ := paE_hold E1.2.1 E1.2.2.1 (by rw [w1]; omega) q23
            exact ⟨rfl, (E1.tr E2).le (by decide), by omega⟩
        · skip
          replace hE := rb_t5 hE c15
          refine hj64 _ _ _ W15 ?_ ?_
          · exact Ta0  -- t20
          · refine and_5 ?_ (fun o9 => hE)  -- k21
            exact ⟨rfl, rfl, by rw [c15]; decide⟩
    · skip
      replace hE := rb_f5 hE c13
      intro T26
      refine Ta_numberAt_q5 W15 T26  ?_ (fun r27 q29 => ?_)
      · exact hp.1.1.1  -- p22
      obtain ⟨q29, z9⟩ := q29
      replace hE := rb_p5 hE z9
      intro W30
      intro M31
      intro T32
      refine Co_emit_q5 W30 T32  ?_ (fun κ_33 q34 => ?_)
      · exact ⟨hp.1.2.1, by omega⟩  -- p23
      obtain ⟨q34, z9⟩ := q34
      replace hE := rb_i5 hE (z9 a0 (by first | exact Ta0 | exact paS_t S0 Ta0 | assumption) (by first | rfl | assumption))
      intro W35
      intro M36
      intro T37
      obtain ⟨E1, k1, -⟩ := paE_emit W Ta0 hp.1 hp.2.1 q34 (by omega)
      refine Pa_take_q5 W35 T37  ?_ (fun κ_38 q39 => ?_)
      · exact ⟨E1.2.1, paK_t E1.2.2.1 (k1.trans (j15 c13)) (by decide)⟩  -- p24
      obtain ⟨q39, z9⟩ := q39
      replace hE := rb_i5 hE z9
      intro W40
      intro M41
      refine hj102 _ _ _ W40 ?_ ?_
      · exact q39.1.1.t T37 (by decide)  -- t25
      · refine and_5 ?_ (fun o9 => hE)  -- k26
        obtain ⟨-, E2, -, a2, -⟩ := paT_N W35 T37 E1.2.1 q39
        have m := E1.2.2.2.2
        exact ⟨rfl, (E1.tr E2).le (by decide), by omega⟩
  have hE : f5_Pa_operand (ab5 κ a0) = f5_Pa_operand (ab5 κ a0) := rfl
  refine ⟨fun c42 => ?_, fun c42 => ?_⟩
  · skip
    replace hE := rb_f5 hE c42
    refine hj15 _ _ _ W ?_ ?_
    · exact Ta0  -- t27
    · refine and_5 ?_ (fun o9 => hE)  -- k28
      exact ⟨rfl, rfl, fun z => absurd rfl z⟩
  · skip
    replace hE := rb_t5 hE c42
    refine hj15 _ _ _ W ?_ ?_
    · exact Ta0  -- t29
    · refine and_5 ?_ (fun o9 => hE)  -- k30
      exact ⟨rfl, rfl, fun _ => c42⟩

theorem Pa_operandName_q5 {C : zC} {n0 : Nat} {a0 : Nat} {a1 : Int32} {κ : zS} {Q : Int32 → zS → Prop} {X : zXp} (W : zW C n0 κ) (Ta0 : zT κ a0 = 10)  (hp : paI κ a0 ∧ paK κ a0 ∧ (zI κ coLength (zR κ paCode a0)).toInt + (zI κ paWaits a0).toInt ≤ 20490) (h : ∀ (v : Int32) (κ' : zS), ((paE κ κ' a0 (-1) ∧ nb v) ∧ f5_Pa_operandName a1 (ab5 κ a0) = .inl (ab5 κ' a0, v)) → Q v κ') (hx : ∀ (cls : String) (κ' : zS), ((paX5 κ cls κ' a0) ∧ f5_Pa_operandName a1 (ab5 κ a0) = .inr (zI κ' paFaultCode a0, zI κ' paFaultPlace a0)) → X cls κ') : zRun C 10 mPa_operandName [.ref a0, .int a1] κ (oI Q X) := by
  refine Pa_operandName_run W Ta0 ?_
  replace W := W.lo (Nat.le_trans W.1.2.1 W.1.2.2) (Nat.le_refl (zn κ))
  unfold w_Pa_operandName_0
  have R := pa_room hp.1
  have hj68 : ∀ (l0 : Nat) (l1 : Int32) (l2 : Int32) (s0 : Nat) (s1 : Int32) (τ : zS), zW C (zn κ) τ → zT τ l0 = 10 → zT τ s0 = 5 → ((κ = τ ∧ a0 = l0 ∧ a1 = l1 ∧ s0 = zR κ paCode a0) ∧ f5_Pa_operandName a1 (ab5 κ a0) = f5_Pa_operandName_68 l1 l2 s1 (ab5 τ a0)) → w_Pa_operandName_68 C (zn κ) Q X  l0 l1 l2 s0 s1 τ := by
    rintro _ _ y68_2 y68_s0 y68_s1 _ W68 T68_0 T68_1 ⟨⟨rfl, rfl, rfl, j68⟩, hE⟩
    unfold w_Pa_operandName_68
    refine ⟨fun c1 => ?_, fun c1 => ?_⟩
    · skip
      replace hE := rb_t5 hE c1
      intro T2
      intro T3
      refine Ta_findName_q5 W68 T2 T3  ?_ (fun r4 q6 => ?_)
      · exact ⟨hp.1.1.1, hp.1.1.2.1⟩  -- p1
      obtain ⟨q6, z9⟩ := q6
      replace hE := rb_p5 hE z9
      intro W7
      intro M8
      intro T9
      refine Co_emit_q5 W7 T9  ?_ (fun κ_10 q11 => ?_)
      · rw [j68]; exact ⟨hp.1.2.1, by omega⟩  -- p2
      obtain ⟨q11, z9⟩ := q11
      replace hE := rb_i5 hE (z9 a0 Ta0 j68.symm)
      intro W12
      intro M13
      refine h _ _ ?_
      · refine and_5 ?_ (fun o9 => hE)  -- q3
        rw [j68] at q11
        exact ⟨(paE_emit W Ta0 hp.1 hp.2.1 q11 (by omega)).1, nb_0⟩
    · skip
      replace hE := rb_f5 hE c1
      intro T14
      refine Co_emit_q5 W68 T14  ?_ (fun κ_15 q16 => ?_)
      · rw [j68]; exact ⟨hp.1.2.1, by omega⟩  -- p4
      obtain ⟨q16, z9⟩ := q16
      replace hE := rb_i5 hE (z9 a0 Ta0 j68.symm)
      intro W17
      intro M18
      refine h _ _ ?_
      · refine and_5 ?_ (fun o9 => hE)  -- q5
        rw [j68] at q16
        exact ⟨(paE_emit W Ta0 hp.1 hp.2.1 q16 (by omega)).1, nb_0⟩
  have hE : f5_Pa_operandName a1 (ab5 κ a0) = f5_Pa_operandName a1 (ab5 κ a0) := rfl
  refine ⟨fun c19 => ?_, fun c19 => ?_⟩
  · skip
    replace hE := rb_f5 hE c19
    refine ⟨fun c20 => ?_, fun c20 => ?_⟩
    · skip
      replace hE := rb_f5 hE c20
      unfold w_Pa_operandName_49
      intro T21
      refine Pa_findVariable_q5 W T21  ?_ (fun r22 q24 => ?_) (fun cls9 κ9 q9 => hx _ _ ?_)
      · exact hp.1  -- p6
      rotate_left
      obtain ⟨q9, z9⟩ := q9
      · refine and_5 ?_ (fun o9 => rb_x5 hE z9)  -- x7
        exact q9
      obtain ⟨q24, z9⟩ := q24
      replace hE := rb_i5 hE z9
      intro W25
      intro M26
      refine ⟨fun c27 => ?_, fun c27 => ?_⟩
      · skip
        replace hE := rb_t5 hE c27
        refine hj68 _ _ _ _ _ _ W25 ?_ ?_ ?_
        · exact Ta0  -- t8
        · exact ty_paCode W Ta0  -- t9
        · refine and_5 ?_ (fun o9 => hE)  -- k10
          exact ⟨rfl, rfl, rfl, rfl⟩
      · skip
        replace hE := rb_f5 hE c27
        refine hj68 _ _ _ _ _ _ W25 ?_ ?_ ?_
        · exact Ta0  -- t11
        · exact ty_paCode W Ta0  -- t12
        · refine and_5 ?_ (fun o9 => hE)  -- k13
          exact ⟨rfl, rfl, rfl, rfl⟩
    · skip
      replace hE := rb_t5 hE c20
      intro T28
      refine Pa_refuse_q5 (by decide) W T28  ?_ (fun κ_29 q30 => False.elim q30) (fun cls9 κ9 q9 => hx _ _ ?_)
      · exact hp.1  -- p14
      obtain ⟨q9, z9⟩ := q9
      · refine and_5 ?_ (fun o9 => rb_r5 hE z9)  -- x15
        exact q9
  · skip
    replace hE := rb_t5 hE c19
    intro T31
    refine Pa_findArray_q5 W T31  ?_ (fun r32 q34 => ?_) (fun cls9 κ9 q9 => hx _ _ ?_)
    · exact hp.1  -- p16
    rotate_left
    obtain ⟨q9, z9⟩ := q9
    · refine and_5 ?_ (fun o9 => rb_x5 hE z9)  -- x17
      exact q9
    obtain ⟨q34, z9⟩ := q34
    replace hE := rb_i5 hE z9
    intro W35
    intro M36
    intro T37
    refine Pa_openSign_q5 W35 T37  ?_ (fun κ_38 q39 => ?_) (fun cls9 κ9 q9 => hx _ _ ?_)
    · exact ⟨hp.1, hp.2.1, by decide⟩  -- p18
    rotate_left
    obtain ⟨q9, z9⟩ := q9
    · refine and_5 ?_ (fun o9 => rb_x5 hE z9)  -- x19
      exact q9
    obtain ⟨q39, z9⟩ := q39
    replace hE := rb_i5 hE z9
    intro W40
    intro M41
    intro T42
    obtain ⟨-, E1, w1, a1, l1⟩ := paT_N W Ta0 hp.1 q39
    refine Pa_hold_q5 W40 T42  ?_ (fun κ_43 q44 => ?_)
    · exact ⟨E1.2.1, by rw [w1]; omega⟩  -- p20
    obtain ⟨q44, z9⟩ := q44
    replace hE := rb_i5 hE z9
    intro W45
    intro M46
    refine h _ _ ?_
    · refine and_5 ?_ (fun o9 => hE)  -- q21
      obtain ⟨E2, -, a2⟩ := paE_hold E1.2.1 E1.2.2.1 (by rw [w1]; omega) q44
      exact ⟨(E1.tr E2).le (by decide), nb_1⟩

theorem Pa_expression_q5 {C : zC} {n0 : Nat} {a0 : Nat} {a1 : Int32} {a2 : Int32} {κ : zS} {Q : zS → Prop} {X : zXp} (W : zW C n0 κ) (Ta0 : zT κ a0 = 10)  (hp : paI κ a0 ∧ paK κ a0 ∧ 0 ≤ psi κ a0 ∧ (a2 = -1 ∨ 2 ≤ psi κ a0)) (h : ∀ (κ' : zS), ((paF κ κ' a0 ∧ paI κ' a0 ∧ paK κ' a0 ∧ 0 ≤ psi κ' a0) ∧ f5_Pa_expression a1 a2 (ab5 κ a0) = .inl (ab5 κ' a0, ())) → Q κ') (hx : ∀ (cls : String) (κ' : zS), ((paX5 κ cls κ' a0) ∧ f5_Pa_expression a1 a2 (ab5 κ a0) = .inr (zI κ' paFaultCode a0, zI κ' paFaultPlace a0)) → X cls κ') : zRun C 11 mPa_expression [.ref a0, .int a1, .int a2] κ (oV Q X) := by
  refine Pa_expression_run W Ta0 ?_
  replace W := W.lo (Nat.le_trans W.1.2.1 W.1.2.2) (Nat.le_refl (zn κ))
  unfold w_Pa_expression_0
  have hj178 : ∀ (l0 : Nat) (τ : zS), zW C (zn κ) τ → zT τ l0 = 10 → ((a0 = l0 ∧ (paF κ τ a0 ∧ paI τ a0 ∧ paK τ a0) ∧ (zI τ coLength (zR τ paCode a0)).toInt + 1 ≤ 2 * (zI τ paAt a0).toInt) ∧ f5_Pa_expression a1 a2 (ab5 κ a0) = f5_Pa_expression_178 (ab5 τ a0)) → w_Pa_expression_178 C (zn κ) Q X  l0 τ := by
    rintro _ τ178 W178 T178_0 ⟨⟨rfl, j178⟩, hE⟩
    unfold w_Pa_expression_178
    intro T1
    obtain ⟨⟨F, I, K⟩, l⟩ := j178
    have tb := I.1.2.2
    have kb := K.1.2
    refine Co_emit_q5 W178 T1  ?_ (fun κ_2 q3 => ?_)
    · exact ⟨I.2.1, by omega⟩  -- p1
    obtain ⟨q3, z9⟩ := q3
    replace hE := rb_i5 hE (z9 a0 (by first | exact Ta0 | exact paS_t S0 Ta0 | assumption) (by first | rfl | assumption))
    intro W4
    intro M5
    refine h _ ?_
    · refine and_5 ?_ (fun o9 => hE)  -- q2
      obtain ⟨-, -, M⟩ := paE_emit W178 T178_0 I K q3 (by omega)
      have m := M.2.2.2
      refine ⟨F.tr M.1, M.2.1, M.2.2.1, ?_⟩
      unfold psi at m ⊢
      omega
  have hE : f5_Pa_expression a1 a2 (ab5 κ a0) = f5_Pa_expression a1 a2 (ab5 κ a0) := rfl
  intro T6
  refine Co_column_q5 W T6  ?_ (fun r7 q9 => ?_)
  · exact ⟨hp.1.2.1, by decide, by decide⟩  -- p3
  obtain ⟨q9, z9⟩ := q9
  replace hE := rb_p5 hE (z9 a0 (by first | exact Ta0 | exact paS_t S0 Ta0 | assumption) (by first | rfl | assumption))
  intro W10
  intro M11
  intro T12
  refine Co_setColumn_q5 W10 T12  ?_ (fun κ_13 q14 => ?_)
  · exact ⟨hp.1.2.1, by decide, by decide⟩  -- p4
  obtain ⟨q14, z9⟩ := q14
  replace hE := rb_i5 hE (z9 a0 (by first | exact Ta0 | exact paS_t S0 Ta0 | assumption) (by first | rfl | assumption))
  intro W15
  intro M16
  intro κ_17 hκ_17
  replace hE := rb_i5 hE (ab_uw5 hκ_17 wz_5)
  intro W18
  unfold w_Pa_expression_36
  refine ⟨fun n l0 l3 l4 l5 l6 τ => n = (20486 - l6.toInt).toNat ∧ ((a0 = l0 ∧ exJ κ τ a0 (exS κ a0 a2) l3 l4 l5 l6) ∧ ∃ m5, n < m5 ∧ f5_Pa_expression a1 a2 (ab5 κ a0) = f5_Pa_expression_36 m5 l3 l4 l5 l6 (ab5 τ a0)), ⟨_, rfl, ?_⟩, ?_⟩
  · refine and_5 ?_ (fun o9 => ⟨fu5, by first | exact fb5 | (unfold fu5; omega) | decide, hE⟩)  -- j5
    have N1 := (paN_c W Ta0 hp.1 (q14.1.mono (fun _ _ z => z.2)) q14.2.1 (by rw [q14.2.2.1])).1
    obtain ⟨N2, w2⟩ := paN_w0 W15 (q14.1.t Ta0 (by decide)) N1.2.1 hκ_17
    exact ⟨rfl, ex_init (N1.tr N2) w2 hp.2.1 hp.2.2.1 hp.2.2.2⟩
  rintro n36 _ x36_3 x36_4 x36_5 x36_6 κ36 W36 T36_0 ⟨hn36, ⟨rfl, i36⟩, m36, hm36, hE⟩
  obtain ⟨m36, rfl⟩ : ∃ m9, m36 = m9 + 1 := ⟨m36 - 1, by omega⟩
  have hj161 : ∀ (l0 : Nat) (l3 : Int32) (l4 : Int32) (l6 : Int32) (s0 : Int32) (τ : zS), zW C (zn κ) τ → zT τ l0 = 10 → ((a0 = l0 ∧ exJ κ τ a0 (exS κ a0 a2) l3 l4 1 l6 ∧ l6 = x36_6 ∧ l6.toInt ≤ 20485 ∧ l6 ≠ 0 ∧ (s0 ≠ 0 → 0 < (zI τ paWaits a0).toInt)) ∧ f5_Pa_expression a1 a2 (ab5 κ a0) = f5_Pa_expression_161 (f5_Pa_expression_36 m36) l3 l4 l6 s0 (ab5 τ a0)) → w_Pa_expression_161 C (zn κ) Q X (fun (l0' : Nat) (l3' : Int32) (l4' : Int32) (l5' : Int32) (l6' : Int32) (τ : zS) => ∃ k < n36, (fun (n : Nat) (l0 : Nat) (l3 : Int32) (l4 : Int32) (l5 : Int32) (l6 : Int32) (τ : zS) => n = (20486 - l6.toInt).toNat ∧ ((a0 = l0 ∧ exJ κ τ a0 (exS κ a0 a2) l3 l4 l5 l6) ∧ ∃ m5, n < m5 ∧ f5_Pa_expression a1 a2 (ab5 κ a0) = f5_Pa_expression_36 m5 l3 l4 l5 l6 (ab5 τ a0))) k l0' l3' l4' l5' l6' τ) l0 l3 l4 l6 s0 τ := by
    clear hE
    rintro _ y161_3 y161_4 y161_6 y161_s0 τ161 W161 T161_0 ⟨⟨rfl, j161⟩, hE⟩
    unfold w_Pa_expression_161
    obtain ⟨J, rfl, b6, z6, w6⟩ := j161
    have B := exJ_b J
    have l0 := J.2.2.2.2.2
    have e1 : (y161_6 + 1).toInt = y161_6.toInt + 1 := by rw [add_i (by rw [t1i]; omega) (by rw [t1i]; omega), t1i]
    have z1 : ∀ x : Int32, x = y161_6 + 1 → x ≠ 0 ∧ (0 ≤ x.toInt ∧ x.toInt ≤ 20486) := fun x h => ⟨fun z => by rw [z] at h; rw [← h, t0i] at e1; omega, by rw [h, e1]; omega, by rw [h, e1]; omega⟩
    refine ⟨fun c19 => ?_, fun c19 => ?_⟩
    · skip
      replace hE := rb_t5 hE c19
      intro x20 hx20
      replace hE := rb_p5 hE hx20
      refine lp_b5 ?_ (fun d9 => ⟨rfl, ?_⟩)
      · rw [hn36, hx20, e1]; omega  -- d6
      · refine and_5 ?_ (fun o9 => ⟨m36, by omega, hE⟩)  -- i7
        rw [c19]
        exact ⟨rfl, ⟨J.1, J.2.1, J.2.2.1, fun _ => J.2.2.2.1 z6, fun q => absurd q (z1 _ hx20).1, (z1 _ hx20).2⟩⟩
    · skip
      replace hE := rb_f5 hE c19
      intro T21
      refine Pa_closeInner_q5 W161 T21  ?_ (fun κ_22 q23 => ?_) (fun cls9 κ9 q9 => hx _ _ ?_)
      · exact ⟨J.1.2.1, J.1.2.2, w6 c19, by omega⟩  -- p8
      rotate_left
      obtain ⟨q9, z9⟩ := q9
      · refine and_5 ?_ (fun o9 => rb_x5 hE z9)  -- x9
        exact paX5_tr J.1.1 q9
      obtain ⟨q23, z9⟩ := q23
      replace hE := rb_i5 hE z9
      intro W24
      intro M25
      intro x26 hx26
      replace hE := rb_p5 hE hx26
      refine lp_b5 ?_ (fun d9 => ⟨rfl, ?_⟩)
      · rw [hn36, hx26, e1]; omega  -- d10
      · refine and_5 ?_ (fun o9 => ⟨m36, by omega, hE⟩)  -- i11
        exact ⟨rfl, exJ_E J q23 (Or.inl rfl) (Or.inl z6) (z1 _ hx26).1 (z1 _ hx26).2⟩
  have hj109 : ∀ (l0 : Nat) (l5 : Int32) (l6 : Int32) (s0 : Int32) (τ : zS), zW C (zn κ) τ → zT τ l0 = 10 → ((a0 = l0 ∧ l6 = x36_6 ∧ l6.toInt ≤ 20485 ∧ ∀ m4 m5 m6 : Int32, m6.toInt = l6.toInt + 1 → exJ κ τ a0 (exS κ a0 a2) (-1) m4 m5 m6) ∧ f5_Pa_expression a1 a2 (ab5 κ a0) = f5_Pa_expression_109 (f5_Pa_expression_36 m36) l5 l6 s0 (ab5 τ a0)) → w_Pa_expression_109 C (zn κ) Q X (fun (l0' : Nat) (l3' : Int32) (l4' : Int32) (l5' : Int32) (l6' : Int32) (τ : zS) => ∃ k < n36, (fun (n : Nat) (l0 : Nat) (l3 : Int32) (l4 : Int32) (l5 : Int32) (l6 : Int32) (τ : zS) => n = (20486 - l6.toInt).toNat ∧ ((a0 = l0 ∧ exJ κ τ a0 (exS κ a0 a2) l3 l4 l5 l6) ∧ ∃ m5, n < m5 ∧ f5_Pa_expression a1 a2 (ab5 κ a0) = f5_Pa_expression_36 m5 l3 l4 l5 l6 (ab5 τ a0))) k l0' l3' l4' l5' l6' τ) l0 l5 l6 s0 τ := by
    clear hE
    rintro _ y109_5 y109_6 y109_s0 τ109 W109 T109_0 ⟨⟨rfl, j109⟩, hE⟩
    unfold w_Pa_expression_109
    intro x27 hx27
    replace hE := rb_p5 hE hx27
    refine lp_b5 ?_ (fun d9 => ⟨rfl, ?_⟩)
    · obtain ⟨rfl, b6, G⟩ := j109
      have l0 := i36.2.2.2.2.2
      have e1 : (y109_6 + 1).toInt = y109_6.toInt + 1 := by rw [add_i (by rw [t1i]; omega) (by rw [t1i]; omega), t1i]
      rw [hn36, hx27, e1]; omega
    · refine and_5 ?_ (fun o9 => ⟨m36, by omega, hE⟩)  -- i13
      obtain ⟨rfl, b6, G⟩ := j109
      have l0 := i36.2.2.2.2.2
      have e1 : (y109_6 + 1).toInt = y109_6.toInt + 1 := by rw [add_i (by rw [t1i]; omega) (by rw [t1i]; omega), t1i]
      exact ⟨rfl, G _ _ _ (by rw [hx27, e1])⟩
  have hj87 : ∀ (l0 : Nat) (l3 : Int32) (l4 : Int32) (l5 : Int32) (l6 : Int32) (τ : zS), zW C (zn κ) τ → zT τ l0 = 10 → ((a0 = l0 ∧ τ = κ36 ∧ l3 = x36_3 ∧ l4 = x36_4 ∧ l5 = x36_5 ∧ l6 = x36_6 ∧ l6.toInt ≤ 20485) ∧ f5_Pa_expression a1 a2 (ab5 κ a0) = f5_Pa_expression_87 (f5_Pa_expression_36 m36) l3 l4 l5 l6 (ab5 τ a0)) → w_Pa_expression_87 C (zn κ) Q X (fun (l0' : Nat) (l3' : Int32) (l4' : Int32) (l5' : Int32) (l6' : Int32) (τ : zS) => ∃ k < n36, (fun (n : Nat) (l0 : Nat) (l3 : Int32) (l4 : Int32) (l5 : Int32) (l6 : Int32) (τ : zS) => n = (20486 - l6.toInt).toNat ∧ ((a0 = l0 ∧ exJ κ τ a0 (exS κ a0 a2) l3 l4 l5 l6) ∧ ∃ m5, n < m5 ∧ f5_Pa_expression a1 a2 (ab5 κ a0) = f5_Pa_expression_36 m5 l3 l4 l5 l6 (ab5 τ a0))) k l0' l3' l4' l5' l6' τ) l0 l3 l4 l5 l6 τ := by
    clear hE
    rintro _ y87_3 y87_4 y87_5 y87_6 τ87 W87 T87_0 ⟨⟨rfl, j87⟩, hE⟩
    unfold w_Pa_expression_87
    obtain ⟨rfl, rfl, rfl, rfl, rfl, b6⟩ := j87
    have B := exJ_b i36
    have l0 := i36.2.2.2.2.2
    have e1 : (y87_6 + 1).toInt = y87_6.toInt + 1 := by rw [add_i (by rw [t1i]; omega) (by rw [t1i]; omega), t1i]
    have z1 : ∀ x : Int32, x.toInt = y87_6.toInt + 1 → x ≠ 0 ∧ (0 ≤ x.toInt ∧ x.toInt ≤ 20486) := fun x h => ⟨fun z => by rw [z, t0i] at h; omega, by omega, by omega⟩
    refine ⟨fun c28 => ?_, fun c28 => ?_⟩
    · skip
      replace hE := rb_t5 hE c28
      refine Pa_binary_q5 W87   (fun r29 q31 => ?_)
      obtain ⟨q31, z9⟩ := q31
      replace hE := rb_p5 hE z9
      intro W32
      intro M33
      refine ⟨fun c34 => ?_, fun c34 => ?_⟩
      · skip
        replace hE := rb_t5 hE c34
        intro T35
        refine Pa_emitWaiting_q5 W32 T35  ?_ (fun κ_36 q37 => ?_)
        · exact ⟨i36.1.2.1, by omega⟩  -- p14
        obtain ⟨q37, z9⟩ := q37
        replace hE := rb_i5 hE z9
        intro W38
        intro M39
        have Q := paE_ew i36.1.2.2 q37
        have z6 : y87_6 ≠ 0 := fun z => (i36.2.2.2.2.1 z).1 c28
        refine ⟨fun c40 => ?_, fun c40 => ?_⟩
        · skip
          replace hE := rb_t5 hE c40
          refine hj161 _ _ _ _ _ _ W38 ?_ ?_
          · exact Q.1.1.1.t T87_0 (by decide)  -- t15
          · refine and_5 ?_ (fun o9 => hE)  -- k16
            exact ⟨rfl, exJ_E i36 Q.1 (Or.inl rfl) (Or.inl z6) z6 l0, rfl, b6, z6, fun q => absurd rfl q⟩
        · skip
          replace hE := rb_f5 hE c40
          refine hj161 _ _ _ _ _ _ W38 ?_ ?_
          · exact Q.1.1.1.t T87_0 (by decide)  -- t17
          · refine and_5 ?_ (fun o9 => hE)  -- k18
            exact ⟨rfl, exJ_E i36 Q.1 (Or.inl rfl) (Or.inl z6) z6 l0, rfl, b6, z6, fun _ => by rw [lei, t0i] at c40; omega⟩
      · skip
        replace hE := rb_f5 hE c34
        refine Pa_binary_q5 W32   (fun r41 q43 => ?_)
        obtain ⟨q43, z9⟩ := q43
        replace hE := rb_p5 hE z9
        intro W44
        intro M45
        intro T46
        refine Pa_operator_q5 W44 T46  ?_ (fun κ_47 q48 => ?_) (fun cls9 κ9 q9 => hx _ _ ?_)
        · exact ⟨i36.1.2.1, i36.1.2.2, by omega, q31.resolve_left c34⟩  -- p19
        rotate_left
        obtain ⟨q9, z9⟩ := q9
        · refine and_5 ?_ (fun o9 => rb_x5 hE z9)  -- x20
          exact paX5_tr i36.1.1 q9
        obtain ⟨q48, z9⟩ := q48
        replace hE := rb_i5 hE z9
        intro W49
        intro M50
        intro x51 hx51
        replace hE := rb_p5 hE hx51
        refine lp_b5 ?_ (fun d9 => ⟨rfl, ?_⟩)
        · rw [hn36, hx51, e1]; omega  -- d21
        · refine and_5 ?_ (fun o9 => ⟨m36, by omega, hE⟩)  -- i22
          exact ⟨rfl, exJ_E i36 q48 (Or.inl rfl) (Or.inl (fun z => (i36.2.2.2.2.1 z).1 c28)) (z1 _ (by rw [hx51, e1])).1 (z1 _ (by rw [hx51, e1])).2⟩
    · skip
      replace hE := rb_f5 hE c28
      refine ⟨fun c52 => ?_, fun c52 => ?_⟩
      · skip
        replace hE := rb_f5 hE c52
        intro T53
        refine Pa_operandName_q5 W87 T53  ?_ (fun r54 κ_55 q56 => ?_) (fun cls9 κ9 q9 => hx _ _ ?_)
        · exact ⟨i36.1.2.1, i36.1.2.2, by omega⟩  -- p23
        rotate_left
        obtain ⟨q9, z9⟩ := q9
        · refine and_5 ?_ (fun o9 => rb_x5 hE z9)  -- x24
          exact paX5_tr i36.1.1 q9
        obtain ⟨q56, z9⟩ := q56
        replace hE := rb_i5 hE z9
        intro W57
        intro M58
        refine hj109 _ _ _ _ _ W57 ?_ ?_
        · exact q56.1.1.1.t T87_0 (by decide)  -- t25
        · refine and_5 ?_ (fun o9 => hE)  -- k26
          exact ⟨rfl, rfl, b6, fun m4 m5 m6 e => exJ_N i36 q56.1 c52 (z1 _ e).1 (z1 _ e).2⟩
      · skip
        replace hE := rb_t5 hE c52
        intro T59
        refine Pa_operand_q5 W87 T59  ?_ (fun r60 κ_61 q62 => ?_) (fun cls9 κ9 q9 => hx _ _ ?_)
        · exact ⟨i36.1.2.1, i36.1.2.2, by omega⟩  -- p27
        rotate_left
        obtain ⟨q9, z9⟩ := q9
        · refine and_5 ?_ (fun o9 => rb_x5 hE z9)  -- x28
          exact paX5_tr i36.1.1 q9
        obtain ⟨q62, z9⟩ := q62
        replace hE := rb_i5 hE z9
        intro W63
        intro M64
        refine hj109 _ _ _ _ _ W63 ?_ ?_
        · exact q62.1.1.1.t T87_0 (by decide)  -- t29
        · refine and_5 ?_ (fun o9 => hE)  -- k30
          exact ⟨rfl, rfl, b6, fun m4 m5 m6 e => exJ_E i36 q62.1 (Or.inr rfl) (Or.inr q62.2.1) (z1 _ e).1 (z1 _ e).2⟩
  refine ⟨fun c65 => ?_, fun c65 => ?_⟩
  · skip
    replace hE := rb_t5 hE c65
    refine hj178 _ _ W36 ?_ ?_
    · exact T36_0  -- t31
    · refine and_5 ?_ (fun o9 => hE)  -- k32
      exact ⟨rfl, i36.1, exJ_x i36 (fun z => (i36.2.2.2.2.1 z).2 c65)⟩
  · skip
    replace hE := rb_f5 hE c65
    have tb := i36.1.2.1.1.2.2
    have t0 := i36.1.2.1.1.1.2.1
    have m2 : ((2 : Int32) * zI κ36 taTotal (zR κ36 paTape a0)).toInt = 2 * (zI κ36 taTotal (zR κ36 paTape a0)).toInt := by rw [mul_i (by rw [t2i]; omega) (by rw [t2i]; omega), t2i]
    refine ⟨fun c66 => ?_, fun c66 => ?_⟩
    · skip
      replace hE := rb_t5 hE c66
      refine hj178 _ _ W36 ?_ ?_
      · exact T36_0  -- t33
      · refine and_5 ?_ (fun o9 => hE)  -- k34
        rw [lti, m2] at c66
        exact ⟨rfl, i36.1, exJ_x i36 (fun z => by rw [z, t0i] at c66; omega)⟩
    · skip
      replace hE := rb_f5 hE c66
      have b5 : x36_6.toInt ≤ 20485 := by rw [lti, m2] at c66; omega
      refine ⟨fun c67 => ?_, fun c67 => ?_⟩
      · skip
        replace hE := rb_t5 hE c67
        refine hj87 _ _ _ _ _ _ W36 ?_ ?_
        · exact T36_0  -- t35
        · refine and_5 ?_ (fun o9 => hE)  -- k36
          exact ⟨rfl, rfl, rfl, rfl, rfl, rfl, b5⟩
      · skip
        replace hE := rb_f5 hE c67
        refine ⟨fun c68 => ?_, fun c68 => ?_⟩
        · skip
          replace hE := rb_f5 hE c68
          refine hj87 _ _ _ _ _ _ W36 ?_ ?_
          · exact T36_0  -- t37
          · refine and_5 ?_ (fun o9 => hE)  -- k38
            exact ⟨rfl, rfl, rfl, rfl, rfl, rfl, b5⟩
        · skip
          replace hE := rb_t5 hE c68
          refine ⟨fun c69 => ?_, fun c69 => ?_⟩
          · skip
            replace hE := rb_f5 hE c69
            refine hj87 _ _ _ _ _ _ W36 ?_ ?_
            · exact T36_0  -- t39
            · refine and_5 ?_ (fun o9 => hE)  -- k40
              exact ⟨rfl, rfl, rfl, rfl, rfl, rfl, b5⟩
          · skip
            replace hE := rb_t5 hE c69
            intro x70 hx70
            replace hE := rb_p5 hE hx70
            intro T71
            refine Pa_take_q5 W36 T71  ?_ (fun κ_72 q73 => ?_)
            · exact ⟨i36.1.2.1, paK_t i36.1.2.2 c69 (by decide)⟩  -- p41
            obtain ⟨q73, z9⟩ := q73
            replace hE := rb_i5 hE z9
            intro W74
            intro M75
            intro x76 hx76
            replace hE := rb_p5 hE hx76
            refine lp_b5 ?_ (fun d9 => ⟨rfl, ?_⟩)
            · have l0 := i36.2.2.2.2.2
              have e1 : (x36_6 + 1).toInt = x36_6.toInt + 1 := by rw [add_i (by rw [t1i]; omega) (by rw [t1i]; omega), t1i]
              rw [hn36, hx76, e1]; omega
            · refine and_5 ?_ (fun o9 => ⟨m36, by omega, hE⟩)  -- i43
              have l0 := i36.2.2.2.2.2
              have e1 : (x36_6 + 1).toInt = x36_6.toInt + 1 := by rw [add_i (by rw [t1i]; omega) (by rw [t1i]; omega), t1i]
              obtain ⟨-, E, -, a, -⟩ := paT_N W36 T36_0 i36.1.2.1 q73
              exact ⟨rfl, exJ_T i36 E a (fun z => by rw [z] at hx76; rw [← hx76, t0i] at e1; omega) ⟨by rw [hx76, e1]; omega, by rw [hx76, e1]; omega⟩⟩

end
