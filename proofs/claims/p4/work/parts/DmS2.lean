set_option maxHeartbeats 1600000
/-! only the bytes below the length count -/
section
variable {U U' : U5}
theorem by_U5 (h2 : U'.2 = U.2) (hb : ∀ j : Nat, (j : Int) < U.2.1.toInt → U'.1 j &&& 255 = U.1 j &&& 255) : f5_Ta_byteAt U' = f5_Ta_byteAt U := funext fun a => by
  unfold f5_Ta_byteAt
  rw [h2]
  by_cases c0 : a < 0
  · rw [if_pos c0, if_pos c0]
  rw [if_neg c0, if_neg c0]
  by_cases c1 : U.2.1 ≤ a
  · rw [if_pos c1, if_pos c1]
  rw [if_neg c1, if_neg c1]
  rw [lti, t0i] at c0
  rw [lei] at c1
  have z := cnk (x := a) (by omega)
  rw [hb a.toNatClampNeg (by omega)]
theorem sb4_5 (h2 : U'.2 = U.2) (E : f5_Ta_byteAt U' = f5_Ta_byteAt U) : ∀ (m : Nat) (x y : Int32), f5_Ta_skipBlanks_4 U' m x y = f5_Ta_skipBlanks_4 U m x y
  | 0, _, _ => rfl
  | m + 1, x, y => by
    have ih := sb4_5 h2 E m
    rw [f5_Ta_skipBlanks_4, f5_Ta_skipBlanks_4]
    simp only [E, h2, ih]
theorem sb_5 (h2 : U'.2 = U.2) (E : f5_Ta_byteAt U' = f5_Ta_byteAt U) : f5_Ta_skipBlanks U' = f5_Ta_skipBlanks U := funext fun x => sb4_5 h2 E _ _ _
theorem sa8_5 (h2 : U'.2 = U.2) (E : f5_Ta_byteAt U' = f5_Ta_byteAt U) : ∀ (m : Nat) (x y z : Int32), f5_Ta_sizeAt_81 U' m x y z = f5_Ta_sizeAt_81 U m x y z
  | 0, _, _, _ => rfl
  | m + 1, x, y, z => by
    have ih := sa8_5 h2 E m
    rw [f5_Ta_sizeAt_81, f5_Ta_sizeAt_81]
    simp only [E, h2, ih]
theorem sa_z5 (h2 : U'.2 = U.2) (E : f5_Ta_byteAt U' = f5_Ta_byteAt U) : f5_Ta_sizeAt U' = f5_Ta_sizeAt U := funext fun x => by
  unfold f5_Ta_sizeAt f5_Ta_sizeAt_51 f5_Ta_sizeAt_76
  simp only [E, sa8_5 h2 E]
theorem re3_5 (E : f5_Ta_byteAt U' = f5_Ta_byteAt U) {t3 : List Int32} : ∀ (m : Nat) (x y z w : Int32), f5_Ta_reads_3 U' t3 m x y z w = f5_Ta_reads_3 U t3 m x y z w
  | 0, _, _, _, _ => rfl
  | m + 1, x, y, z, w => by
    have ih := re3_5 E (t3 := t3) m
    rw [f5_Ta_reads_3, f5_Ta_reads_3]
    simp only [E, ih]
theorem wo1_5 (E : f5_Ta_byteAt U' = f5_Ta_byteAt U) : ∀ (m : Nat) (x y z w v : Int32), f5_Ta_wordOf_10 U' m x y z w v = f5_Ta_wordOf_10 U m x y z w v
  | 0, _, _, _, _, _ => rfl
  | m + 1, x, y, z, w, v => by
    have ih := wo1_5 E m
    have r : ∀ (a b c : Int32), f5_Ta_reads U' wt5 a b c = f5_Ta_reads U wt5 a b c := fun a b c => re3_5 E _ _ _ _ _
    rw [f5_Ta_wordOf_10, f5_Ta_wordOf_10]
    unfold f5_Ta_wordOf_62
    simp only [ih, r]
theorem kiU_5 (E : f5_Ta_byteAt U' = f5_Ta_byteAt U) : f5_Ta_kindOf U' = f5_Ta_kindOf U := funext fun x => funext fun y => by
  unfold f5_Ta_kindOf f5_Ta_wordOf
  simp only [E, wo1_5 E]
theorem sl9_5 (h2 : U'.2 = U.2) (E : f5_Ta_byteAt U' = f5_Ta_byteAt U) : ∀ (m : Nat) (x y : Int32) (z : Y5), f5_Ta_split_9 U' m x y z = f5_Ta_split_9 U m x y z
  | 0, _, _, _ => rfl
  | m + 1, x, y, z => by
    have ih := sl9_5 h2 E m
    rw [f5_Ta_split_9, f5_Ta_split_9]
    unfold kn5 sz5
    simp only [sb_5 h2 E, sa_z5 h2 E, kiU_5 E, h2, ih]
theorem sl_5 (h2 : U'.2 = U.2) (E : f5_Ta_byteAt U' = f5_Ta_byteAt U) : f5_Ta_split U' = f5_Ta_split U := sl9_5 h2 E _ _ _ _
end
theorem nv_b5 {B B' : Nat → Int32} {p : Nat} : ∀ s : Nat, (∀ i, i < s → B (p + i) = B' (p + i)) → nv5 B p s = nv5 B' p s
  | 0, _ => rfl
  | s + 1, h => by
    rw [nv5, nv5, nv_b5 s (fun i hi => h i (by omega)), h s (by omega)]
theorem nP_b5 {B B' : Nat → Int32} {p s : Nat} {F : Int64} {G : Int32} (hb : ∀ i, i < s → B (p + i) = B' (p + i)) (h : nmP5 B p s F G) : nmP5 B' p s F G := by
  refine ⟨fun i hi => ?_, fun i hi => ?_⟩
  · rw [h.1 i hi]
    by_cases c : i < s
    · rw [if_pos c, if_pos c, hb i c]
    · rw [if_neg c, if_neg c]
  · rw [h.2 i hi]
    by_cases c : 8 + i < s
    · have q := hb (8 + i) c
      rw [show p + (8 + i) = p + 8 + i by omega] at q
      rw [if_pos c, if_pos c, q]
    · rw [if_neg c, if_neg c]
theorem tA_b5 {y : Y5} {σ : rS} {B B' : Nat → Int32} {n Bk t : Nat} (hb : ∀ j, j < n → B j = B' j) (h : tkA5 y σ B n Bk t) : tkA5 y σ B' n Bk t := by
  obtain ⟨p, s, h1, h2, h3, h4, h5⟩ := h
  have q : ∀ i, i < s → B (p + i) = B' (p + i) := fun i hi => hb _ (by omega)
  refine ⟨p, s, h1, h2, h3, h4, ?_⟩
  rcases h5 with z | ⟨z1, z2, z3, z4, z5, z6⟩ | ⟨z1, z2, z3⟩ | z | z
  · exact Or.inl z
  · exact Or.inr (Or.inl ⟨z1, z2, z3, z4, nP_b5 q z5, fun i hi => by rw [← q i hi]; exact z6 i hi⟩)
  · exact Or.inr (Or.inr (Or.inl ⟨z1, z2, by rw [← nv_b5 s q]; exact z3⟩))
  · exact Or.inr (Or.inr (Or.inr (Or.inl z)))
  · exact Or.inr (Or.inr (Or.inr (Or.inr z)))
theorem TK_b5 {y : Y5} {σ : rS} {B B' : Nat → Int32} {n Bk N : Nat} (hb : ∀ j, j < n → B j = B' j) (h : TK5 y σ B n Bk N) : TK5 y σ B' n Bk N := by
  obtain ⟨h1, h2, h3, h4, h5⟩ := h
  refine ⟨h1, h2, h3, fun t ht => ⟨tA_b5 hb (h4 t ht).1, (h4 t ht).2⟩, ?_⟩
  rcases h5 with ⟨z, w⟩ | z
  · exact Or.inl ⟨tA_b5 hb z, w⟩
  · exact Or.inr z
/-! both readings from the bytes on -/
theorem rp_B5 {U : U5} {e0 : E5} {σ : rS} {n Bk : Nat} {s1 : Int32} (HU : okU5 U) (hr : ∀ j, -128 ≤ (U.1 j).toInt ∧ (U.1 j).toInt ≤ 127) (HS : okS5 σ) (hB : ∀ j, j < n → bU5 U j = bS5 σ j) (hn : nU5 U = n) (sn : nS5 σ = n) (I : ini5 U e0) (hBk : Bk ≤ 65537) (hs1 : s1 = Int32.ofNat Bk) (h11 : σ.1 11 = 0 ∧ σ.1 46 = 0 ∧ σ.1 47 = 0 ∧ σ.1 13 = 0) (h15 : σ.1 15 = 0 ∧ σ.1 16 = 0 ∧ σ.1 18 = 0 ∧ σ.1 19 = 0) : sf5 (fun e' _ σ' => ∃ T X Bk N Z, QE5 T X Bk N Z e' σ') (rd5 e0) (g5_tellProgram_65 s1 σ) := by
  have n6 : n ≤ 65536 := by
    have := HS.2
    unfold nS5 at sn
    omega
  have Z2 : σ.1 2 = Int32.ofNat n := of_e5 (by
    have := HS.1
    unfold nS5 at sn
    omega) (by omega)
  unfold g5_tellProgram_65
  dsimp only [pb5]
  have hU2 : ((σ.2.2.1 1, U.2) : U5).2 = U.2 := rfl
  have hE := by_U5 (U := U) (U' := (σ.2.2.1 1, U.2)) hU2 (fun j hj => (hB j (by
    have := HU.1
    unfold nU5 at hn
    omega)).symm)
  obtain ⟨N, hK, fT, fR⟩ := cut_5 (U := (σ.2.2.1 1, U.2)) (σ := siU σ 3 s1) (n := n) (Bk := Bk) HU HS rfl hn sn hBk hs1
  rw [sl_5 hU2 hE] at hK
  replace hK := TK_b5 (B' := bU5 U) (fun j hj => (hB j hj).symm) hK
  have c2 : (g5_cutTape (siU σ 3 s1)).1 2 = Int32.ofNat n := (fT 2 (by decide)).trans Z2
  have c3 : (g5_cutTape (siU σ 3 s1)).1 3 = Int32.ofNat Bk := (fT 3 (by decide)).trans hs1
  have c11 : (g5_cutTape (siU σ 3 s1)).1 11 = 0 := (fT 11 (by decide)).trans h11.1
  have c46 : (g5_cutTape (siU σ 3 s1)).1 46 = 0 := (fT 46 (by decide)).trans h11.2.1
  have c47 : (g5_cutTape (siU σ 3 s1)).1 47 = 0 := (fT 47 (by decide)).trans h11.2.2.1
  have c13 : (g5_cutTape (siU σ 3 s1)).1 13 = 0 := (fT 13 (by decide)).trans h11.2.2.2
  have c15 : (g5_cutTape (siU σ 3 s1)).1 15 = 0 := (fT 15 (by decide)).trans h15.1
  have c16 : (g5_cutTape (siU σ 3 s1)).1 16 = 0 := (fT 16 (by decide)).trans h15.2.1
  have c18 : (g5_cutTape (siU σ 3 s1)).1 18 = 0 := (fT 18 (by decide)).trans h15.2.2.1
  have c19 : (g5_cutTape (siU σ 3 s1)).1 19 = 0 := (fT 19 (by decide)).trans h15.2.2.2
  obtain ⟨I1, I2, I3, I4⟩ := I
  have H := TR_5 (e := e0) HU hr rfl hn n6 hBk I1.1 I1.2 hK rfl
  generalize g5_cutTape (siU σ 3 s1) = σc at hK H c2 c3 c11 c46 c47 c13 c15 c16 c18 c19 ⊢
  have hh := H.1
  have eT : e0.1 taTotal = Int32.ofNat N := hh.1
  have lN := ofn_i (n := N) (by omega)
  rw [c3]
  have tk : f5_Pa_take e0 = .inl ((fun g => if g = paKind then e0.2.1 taKinds 0 else if g = paAt then 0 else e0.1 g, e0.2), ()) := by
    unfold f5_Pa_take stI5
    rw [rdl_5, I3.1]
    show (if (0 : Int32) < 0 then _ else if e0.1 taTotal ≤ (0 : Int32) then _ else _) = _
    rw [if_neg (show ¬ (0 : Int32) < 0 by decide), if_neg (show ¬ e0.1 taTotal ≤ (0 : Int32) by rw [eT, lei, lN, t0i]; omega)]
    rfl
  unfold rd5
  rw [tk, rdl_5]
  obtain ⟨e1, q1, q2, q3, q4, q5⟩ : ∃ e1 : E5, ((fun g => if g = paKind then e0.2.1 taKinds 0 else if g = paAt then 0 else e0.1 g, e0.2) : E5) = e1 ∧ tq5 e1 = tq5 e0 ∧ (e1.1 paAt = 0 ∧ e1.1 paKind = (tq5 e0).2.1 0) ∧ (gE5 e1 = gE5 e0 ∧ e1.2 = e0.2) ∧ (e1.1 paOpen = e0.1 paOpen ∧ e1.1 coMain = e0.1 coMain ∧ e1.1 taTotal = e0.1 taTotal) := ⟨_, rfl, rfl, ⟨rfl, rfl⟩, ⟨rfl, rfl⟩, rfl, rfl, rfl⟩
  rw [q1]
  clear q1 tk
  obtain ⟨σd, y1, y2, y3, y4⟩ : ∃ σd : rS, siU σc 10 (Int32.ofNat Bk) = σd ∧ sx5 σd = sx5 σc ∧ gS5 σd = gS5 σc ∧ (σd.1 2 = σc.1 2 ∧ σd.1 10 = Int32.ofNat Bk ∧ σd.1 11 = σc.1 11 ∧ σd.1 46 = σc.1 46 ∧ σd.1 47 = σc.1 47 ∧ σd.1 13 = σc.1 13) := ⟨_, rfl, rfl, rfl, rfl, rfl, rfl, rfl, rfl, rfl⟩
  rw [y1]
  have so : σd.2.2.1 5 (σd.1 10).toNatClampNeg = (sx5 σc).1 (Bk + 0) := by
    rw [y4.2.1, cl_5 (by omega), ← y2]
    rfl
  have ko := (kd_o5 (H.2.2.1 0 (by omega))).1
  unfold g5_readNext
  rw [so]
  by_cases c : (tq5 e0).2.1 0 = 143
  · rw [if_pos (ko.mpr c)]
    dsimp only [pb5]
    have d : dk5 ((tq5 e0).2.2.1 0) e1 := by
      refine ⟨q3.2.trans c, ?_⟩
      unfold pl5
      rw [q3.1, if_neg (show ¬ (0 : Int32) < 0 by decide), q5.2.2, if_neg (show ¬ e0.1 taTotal ≤ (0 : Int32) by rw [eT, lei, lN, t0i]; omega), q4.2]
      rfl
    have fl : (g5_flaw 1 (σd.1 10) σd).1 11 = 1 ∧ (g5_flaw 1 (σd.1 10) σd).1 12 = (tq5 e0).2.2.1 0 := by
      unfold g5_flaw g5_flaw_23
      dsimp only [pb5]
      rw [if_pos (y4.2.2.1.trans c11), so, if_pos (ko.mpr c)]
      refine ⟨rfl, ?_⟩
      show σd.2.2.1 6 (σd.1 10).toNatClampNeg = _
      rw [y4.2.1, cl_5 (by omega), H.2.1 0 (by omega), ← y2]
      rfl
    have z := kq_84 fu5 _ (kq_rf (s := g5_flaw 1 (σd.1 10) σd)) (by rw [fl.1]; decide)
    rcases dk_R5 (n := 0) (N := N) fu5 d (q5.2.2.trans eT) (by omega) (by omega) with w | w
    · exact Or.inl w
    · exact Or.inr (Or.inr ⟨1, _, by decide, z.1.trans fl.1, z.2.trans fl.2, w⟩)
  · rw [if_neg (fun q => c (ko.mp q))]
    have pz : ∀ (m : Nat) (nr rr : Nat → Int32), pN5 (tq5 e0) Bk N m 0 nr 0 rr 0 := fun m nr rr => ⟨by omega, rfl, rfl, fun k hk => absurd hk (by omega)⟩
    have w15 : σd.1 15 = 0 := (congrArg (fun W : W5 => W.1) y3).trans c15
    have w16 : σd.1 16 = 0 := (congrArg (fun W : W5 => W.2.2.1) y3).trans c16
    have w18 : σd.1 18 = 0 := (congrArg (fun W : W5 => W.2.2.2.2.1) y3).trans c18
    have w19 : σd.1 19 = 0 := (congrArg (fun W : W5 => wst5 W) y3).trans c19
    have L : LR5 (tq5 e0) (sx5 σc) Bk N (Int32.ofNat n) (gE5 e1) (gS5 σd) 0 0 e1 σd := by
      refine ⟨⟨q2, y2, y4.1.trans c2⟩, ⟨rfl, rfl⟩, ⟨by omega, q3.1, y4.2.1, q3.2, c⟩, ⟨y4.2.2.1.trans c11, y4.2.2.2.1.trans c46, y4.2.2.2.2.1.trans c47⟩, ?_, ?_, ?_⟩
      · rw [y4.2.2.2.2.2, c13, q5.1, I3.2.1]
      · rw [q5.1, I3.2.1]; decide
      · rw [q5.1, I3.2.1]; decide
    have o : oI5 (tq5 e0) (sx5 σc) Bk N (Int32.ofNat n) 0 0 e1 σd := by
      refine ⟨L, ?_, ?_, ?_, ?_, ?_⟩
      · rw [q4.1]
        refine ⟨⟨0, ?_⟩, ⟨0, ?_⟩, ⟨0, ?_, fun k hk => absurd hk (by omega)⟩, I4⟩
        · show pN5 (tq5 e0) Bk N 10 (e0.1 coVars) _ (σd.1 15) _ 0
          rw [I2.1, w15]
          exact pz _ _ _
        · show pN5 (tq5 e0) Bk N 3 (e0.1 coArrays) _ (σd.1 16) _ 0
          rw [I2.2.1, w16]
          exact pz _ _ _
        · show pN5 (tq5 e0) Bk N 10 (e0.1 coFunctions) _ (σd.1 18) _ 0
          rw [I2.2.2.2.1, w18]
          exact pz _ _ _
      · have q : e1.1 1010 = e0.1 1010 := congrArg (fun V : V5 => vow5 V) q4.1
        exact q.trans I3.2.2.2.1
      · have q : e1.1 1005 = e0.1 1005 := congrArg (fun V : V5 => vin5 V) q4.1
        exact q.trans I3.2.2.1
      · have q : e1.1 1014 = e0.1 1014 := congrArg (fun V : V5 => vbl5 V) q4.1
        exact q.trans I3.2.2.2.2
      · refine ⟨by decide, ?_, w19, fun j hj => absurd hj (by omega)⟩
        have q : e1.1 513 = e0.1 513 := congrArg (fun V : V5 => vst5 V) q4.1
        exact q.trans I2.2.2.2.2.1
    have z := (rd_l5 H fu5).1 fu5 0 0 0 e1 σd o (q5.2.1.trans I2.2.2.2.2.2.2) (by omega) (by unfold fu5; omega)
    rcases z with z | ⟨e', u, z, q⟩ | z
    · exact Or.inl z
    · exact Or.inr (Or.inl ⟨e', u, z, _, _, _, _, _, q⟩)
    · exact Or.inr (Or.inr z)
theorem rp_5 {U : U5} {e0 : E5} {σ : rS} {n : Nat} (HU : okU5 U) (hr : ∀ j, -128 ≤ (U.1 j).toInt ∧ (U.1 j).toInt ≤ 127) (HS : okS5 σ) (hB : ∀ j, j < n → bU5 U j = bS5 σ j) (hn : nU5 U = n) (sn : nS5 σ = n) (I : ini5 U e0) : sf5 (fun e' _ σ' => ∃ T X Bk N Z, QE5 T X Bk N Z e' σ') (rd5 e0) (g5_tellProgram σ) := by
  unfold g5_tellProgram
  dsimp only [pb5]
  by_cases c : (siU (siU (siU (siU (siU (siU (siU (siU (siU (siU σ 46 0) 47 0) 11 0) 12 0) 13 0) 15 0) 16 0) 17 0) 18 0) 19 0).1 3 = 0
  · rw [if_pos c]
    exact rp_B5 (Bk := 65537) HU hr HS hB hn sn I (by decide) rfl ⟨rfl, rfl, rfl, rfl⟩ ⟨rfl, rfl, rfl, rfl⟩
  · rw [if_neg c]
    exact rp_B5 (Bk := 0) HU hr HS hB hn sn I (by decide) rfl ⟨rfl, rfl, rfl, rfl⟩ ⟨rfl, rfl, rfl, rfl⟩
