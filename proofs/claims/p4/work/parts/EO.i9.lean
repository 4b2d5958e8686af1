set_option maxHeartbeats 1600000
/-! the class: Solver's constructor, exactly -/
theorem mkn_t9 {κ : zS} {m : Int32} {f a : Nat} : zT (mkn9 κ m f a) (zn κ) = 8 ∧ (∀ b, b < zn κ → zT (mkn9 κ m f a) b = zT κ b) ∧ zn (mkn9 κ m f a) = zn κ + 2 := by
  refine ⟨?_, fun b hb => ?_, rfl⟩
  · show (if zn κ = zn κ then (if zn κ = zn κ + 1 then 20 else if zn κ = zn κ then 48 else κ.1 (zn κ)) - 40 else _) = 8
    rw [if_pos rfl, if_neg (by omega), if_pos rfl]
  · show (if b = zn κ then _ else if b = zn κ + 1 then 20 else if b = zn κ then 48 else κ.1 b) = κ.1 b
    rw [if_neg (by omega), if_neg (by omega), if_neg (by omega)]
theorem mkn_r9 {κ : zS} {m : Int32} {f a : Nat} : zR (mkn9 κ m f a) f a = zn κ ∧ ∀ g b, b < zn κ → ¬ (g = f ∧ b = a) → zR (mkn9 κ m f a) g b = zR κ g b := by
  refine ⟨if_pos ⟨rfl, rfl⟩, fun g b hb h => ?_⟩
  show (if g = f ∧ b = a then _ else if g = nuLimbs ∧ b = zn κ then _ else if b = zn κ then 0 else κ.2.2.2.1 g b) = κ.2.2.2.1 g b
  rw [if_neg h, if_neg (by omega), if_neg (by omega)]
theorem zOk_ra9 {κ κ2 : zS} {w : Nat} {m : Int32} (hw : w < zn κ) (e : κ2 = iRa9 κ w m) : zOk κ2 w 11 := by
  have t1 := mkn_t9 (κ := κ) (m := m) (f := raTop) (a := w)
  have t2 := mkn_t9 (κ := mkn9 κ m raTop w) (m := m) (f := raBottom) (a := w)
  have r1 := mkn_r9 (κ := κ) (m := m) (f := raTop) (a := w)
  have r2 := mkn_r9 (κ := mkn9 κ m raTop w) (m := m) (f := raBottom) (a := w)
  have q1 : zR (mkn9 (mkn9 κ m raTop w) m raBottom w) raTop w = zn κ := (r2.2 raTop w (by omega) (fun z => absurd z.1 (by decide))).trans r1.1
  have e1 : zR κ2 raTop w = zn κ := by rw [e]; exact q1
  have e2 : zR κ2 raBottom w = zn (mkn9 κ m raTop w) := by rw [e]; exact r2.1
  have e3 : ∀ b, zT κ2 b = zT (mkn9 (mkn9 κ m raTop w) m raBottom w) b := fun b => by rw [e]; rfl
  refine zOk_11 ?_ ?_
  · rw [e1, e3, t2.2.1 _ (by omega)]
    exact t1.1
  · rw [e2, e3]
    exact t2.1
/-- a fraction made for a field -/
def mkR9 (κ : zS) (m : Int32) (f a : Nat) : zS := ur (nff (iRa9 (noo κ 11) (zn κ) m) (zn κ)) f a (zn κ)
def jSo9 (κ : zS) (a p q : Nat) : zS := ur (ur (ur κ soAtlas a p) soCalc a q) soWeb a (zR (ur (ur κ soAtlas a p) soCalc a q) atWeb p)
def iSo9 (κ : zS) (a p q : Nat) : zS := (mkr9 (mkr9 (mkr9 (mkn9 (mkn9 (mkn9 (mkn9 (mkn9 (mkR9 (mkn9 (mkr9 (mkr9 (jSo9 κ a p q) soVisits a 25 0) soWorths a 25 0) 4 soWhole a) 4 soPart a) 2 soFactor a) 4 soScaled a) 4 soTerm a) 4 soSum a) 4 soLess a) soCells a 24 0) soRows a 20 0) soTaken a 20 0)
theorem So_init_c {C : zC} {n0 : Nat} {a0 : Nat} {a1 : Nat} {a2 : Nat} {κ : zS} {Q : zS → Prop} (W : zW C n0 κ) (Ta0 : zT κ a0 = 52) (Ta1 : zT κ a1 = 3) (Ta2 : zT κ a2 = 4)  (h : ∀ (κ' : zS), (κ' = iSo9 κ a0 a1 a2) → Q κ') : zRun C 3 mSo_init [.ref a0, .ref a1, .ref a2] κ (oV Q noX) := by
  refine So_init_run W Ta0 Ta1 Ta2 ?_
  replace W := W.lo (Nat.le_trans W.1.2.1 W.1.2.2) (Nat.le_refl (zn κ))
  unfold w_So_init_0
  intro κ_1 hκ_1
  intro W2
  intro κ_3 hκ_3
  intro W4
  intro κ_5 hκ_5
  intro W6
  refine ⟨?_, ?_⟩
  · exact ⟨by decide, by decide⟩  -- b1
  intro κ_7 hκ_7
  intro W8
  refine ⟨?_, ?_⟩
  · rw [hκ_7]; exact if_pos rfl  -- b2
  intro κ_9 hκ_9
  intro W10
  refine ⟨?_, ?_⟩
  · exact ⟨by decide, by decide⟩  -- b3
  intro κ_11 hκ_11
  intro W12
  refine ⟨?_, ?_⟩
  · rw [hκ_11]; exact if_pos rfl  -- b4
  intro κ_13 hκ_13
  intro W14
  intro κ_15 hκ_15
  intro W16
  intro T17
  refine Nu_init_c W16 T17  ?_ (fun κ_18 q19 => ?_)
  · decide  -- p5
  intro W20
  intro M21
  refine ⟨?_, ?_⟩
  · exact zOk_n9 q19  -- b6
  intro κ_22 hκ_22
  intro W23
  intro κ_24 hκ_24
  intro W25
  intro κ_26 hκ_26
  intro W27
  intro T28
  refine Ra_init_c3 W27 T28  ?_ (fun κ_29 q30 => ?_)
  · decide  -- p7
  intro W31
  intro M32
  refine ⟨?_, ?_⟩
  · exact zOk_ra9 (by rw [hκ_26]; exact Nat.lt_succ_self _) q30  -- b8
  intro κ_33 hκ_33
  intro W34
  intro κ_35 hκ_35
  intro W36
  intro κ_37 hκ_37
  intro W38
  intro T39
  refine Nu_init_c W38 T39  ?_ (fun κ_40 q41 => ?_)
  · decide  -- p9
  intro W42
  intro M43
  refine ⟨?_, ?_⟩
  · exact zOk_n9 q41  -- b10
  intro κ_44 hκ_44
  intro W45
  intro κ_46 hκ_46
  intro W47
  intro κ_48 hκ_48
  intro W49
  intro T50
  refine Nu_init_c W49 T50  ?_ (fun κ_51 q52 => ?_)
  · decide  -- p11
  intro W53
  intro M54
  refine ⟨?_, ?_⟩
  · exact zOk_n9 q52  -- b12
  intro κ_55 hκ_55
  intro W56
  intro κ_57 hκ_57
  intro W58
  intro κ_59 hκ_59
  intro W60
  intro T61
  refine Nu_init_c W60 T61  ?_ (fun κ_62 q63 => ?_)
  · decide  -- p13
  intro W64
  intro M65
  refine ⟨?_, ?_⟩
  · exact zOk_n9 q63  -- b14
  intro κ_66 hκ_66
  intro W67
  intro κ_68 hκ_68
  intro W69
  intro κ_70 hκ_70
  intro W71
  intro T72
  refine Nu_init_c W71 T72  ?_ (fun κ_73 q74 => ?_)
  · decide  -- p15
  intro W75
  intro M76
  refine ⟨?_, ?_⟩
  · exact zOk_n9 q74  -- b16
  intro κ_77 hκ_77
  intro W78
  intro κ_79 hκ_79
  intro W80
  intro κ_81 hκ_81
  intro W82
  intro T83
  refine Nu_init_c W82 T83  ?_ (fun κ_84 q85 => ?_)
  · decide  -- p17
  intro W86
  intro M87
  refine ⟨?_, ?_⟩
  · exact zOk_n9 q85  -- b18
  intro κ_88 hκ_88
  intro W89
  intro κ_90 hκ_90
  intro W91
  refine ⟨?_, ?_⟩
  · exact ⟨by decide, by decide⟩  -- b19
  intro κ_92 hκ_92
  intro W93
  refine ⟨?_, ?_⟩
  · rw [hκ_92]; exact if_pos rfl  -- b20
  intro κ_94 hκ_94
  intro W95
  refine ⟨?_, ?_⟩
  · exact ⟨by decide, by decide⟩  -- b21
  intro κ_96 hκ_96
  intro W97
  refine ⟨?_, ?_⟩
  · rw [hκ_96]; exact if_pos rfl  -- b22
  intro κ_98 hκ_98
  intro W99
  refine ⟨?_, ?_⟩
  · exact ⟨by decide, by decide⟩  -- b23
  intro κ_100 hκ_100
  intro W101
  refine ⟨?_, ?_⟩
  · rw [hκ_100]; exact if_pos rfl  -- b24
  intro κ_102 hκ_102
  intro W103
  refine h _ ?_
  · have s0 : κ_5 = jSo9 κ a0 a1 a2 := by rw [hκ_5, hκ_3, hκ_1]; rfl
    have r1 : κ_9 = mkr9 κ_5 soVisits a0 25 0 := by rw [hκ_9, hκ_7]; rfl
    have r2 : κ_13 = mkr9 κ_9 soWorths a0 25 0 := by rw [hκ_13, hκ_11]; rfl
    have w1 : κ_24 = mkn9 κ_13 4 soWhole a0 := by rw [hκ_24, hκ_22, q19, hκ_15]; rfl
    have w2 : κ_35 = mkR9 κ_24 4 soPart a0 := by rw [hκ_35, hκ_33, q30, hκ_26]; rfl
    have w3 : κ_46 = mkn9 κ_35 2 soFactor a0 := by rw [hκ_46, hκ_44, q41, hκ_37]; rfl
    have w4 : κ_57 = mkn9 κ_46 4 soScaled a0 := by rw [hκ_57, hκ_55, q52, hκ_48]; rfl
    have w5 : κ_68 = mkn9 κ_57 4 soTerm a0 := by rw [hκ_68, hκ_66, q63, hκ_59]; rfl
    have w6 : κ_79 = mkn9 κ_68 4 soSum a0 := by rw [hκ_79, hκ_77, q74, hκ_70]; rfl
    have w7 : κ_90 = mkn9 κ_79 4 soLess a0 := by rw [hκ_90, hκ_88, q85, hκ_81]; rfl
    have r3 : κ_94 = mkr9 κ_90 soCells a0 24 0 := by rw [hκ_94, hκ_92]; rfl
    have r4 : κ_98 = mkr9 κ_94 soRows a0 20 0 := by rw [hκ_98, hκ_96]; rfl
    have r5 : κ_102 = mkr9 κ_98 soTaken a0 20 0 := by rw [hκ_102, hκ_100]; rfl
    unfold iSo9
    rw [r5, r4, r3, w7, w6, w5, w4, w3, w2, w1, r2, r1, s0]
