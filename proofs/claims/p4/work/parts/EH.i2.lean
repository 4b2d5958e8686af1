set_option maxHeartbeats 1600000
/-! the class: Calc's constructor, exactly -/
theorem zOk_n9 {κ1 κ2 : zS} {n w : Nat} (e : κ2 = uo (na κ1 20 n) nuLimbs w (zn κ1)) : zOk κ2 w 8 := by
  have r : zR κ2 nuLimbs w = zn κ1 := by rw [e]; exact if_pos ⟨rfl, rfl⟩
  refine zOk_8 ?_ ?_
  · rw [r, e]; exact if_pos rfl
  · rw [r, e]; exact if_pos rfl
/-- a number made for a field -/
def mkn9 (κ : zS) (m : Int32) (f a : Nat) : zS := ur (nff (mkr9 (noo κ 8) nuLimbs (zn κ) 20 (if m < (2 : Int32) then (2 : Int32) else m).toNatClampNeg) (zn κ)) f a (zn κ)
theorem Ca_init_c {C : zC} {n0 : Nat} {a0 : Nat} {κ : zS} {Q : zS → Prop} (W : zW C n0 κ) (Ta0 : zT κ a0 = 44)  (h : ∀ (κ' : zS), (κ' = mkn9 (mkn9 (mkn9 (mkn9 (mkn9 (mkn9 (mkr9 κ caFactors a0 22 ((4 : Int32)).toNatClampNeg) 8 caQuotient a0) 8 caRest a0) 8 caDivisor a0) 8 caX a0) 8 caY a0) 8 caSpare a0) → Q κ') : zRun C 2 mCa_init [.ref a0] κ (oV Q noX) := by
  refine Ca_init_run W Ta0 ?_
  replace W := W.lo (Nat.le_trans W.1.2.1 W.1.2.2) (Nat.le_refl (zn κ))
  unfold w_Ca_init_0
  refine ⟨?_, ?_⟩
  · first | exact ⟨by decide, by decide⟩ | exact zOk_n9 (by assumption) | (subst_vars; exact if_pos rfl)  -- b1
  intro κ_1 hκ_1
  intro W2
  refine ⟨?_, ?_⟩
  · first | exact ⟨by decide, by decide⟩ | exact zOk_n9 (by assumption) | (subst_vars; exact if_pos rfl)  -- b2
  intro κ_3 hκ_3
  intro W4
  intro κ_5 hκ_5
  intro W6
  intro T7
  refine Nu_init_c W6 T7  ?_ (fun κ_8 q9 => ?_)
  · decide  -- p3
  intro W10
  intro M11
  refine ⟨?_, ?_⟩
  · first | exact ⟨by decide, by decide⟩ | exact zOk_n9 (by assumption) | (subst_vars; exact if_pos rfl)  -- b4
  intro κ_12 hκ_12
  intro W13
  intro κ_14 hκ_14
  intro W15
  intro κ_16 hκ_16
  intro W17
  intro T18
  refine Nu_init_c W17 T18  ?_ (fun κ_19 q20 => ?_)
  · decide  -- p5
  intro W21
  intro M22
  refine ⟨?_, ?_⟩
  · first | exact ⟨by decide, by decide⟩ | exact zOk_n9 (by assumption) | (subst_vars; exact if_pos rfl)  -- b6
  intro κ_23 hκ_23
  intro W24
  intro κ_25 hκ_25
  intro W26
  intro κ_27 hκ_27
  intro W28
  intro T29
  refine Nu_init_c W28 T29  ?_ (fun κ_30 q31 => ?_)
  · decide  -- p7
  intro W32
  intro M33
  refine ⟨?_, ?_⟩
  · first | exact ⟨by decide, by decide⟩ | exact zOk_n9 (by assumption) | (subst_vars; exact if_pos rfl)  -- b8
  intro κ_34 hκ_34
  intro W35
  intro κ_36 hκ_36
  intro W37
  intro κ_38 hκ_38
  intro W39
  intro T40
  refine Nu_init_c W39 T40  ?_ (fun κ_41 q42 => ?_)
  · decide  -- p9
  intro W43
  intro M44
  refine ⟨?_, ?_⟩
  · first | exact ⟨by decide, by decide⟩ | exact zOk_n9 (by assumption) | (subst_vars; exact if_pos rfl)  -- b10
  intro κ_45 hκ_45
  intro W46
  intro κ_47 hκ_47
  intro W48
  intro κ_49 hκ_49
  intro W50
  intro T51
  refine Nu_init_c W50 T51  ?_ (fun κ_52 q53 => ?_)
  · decide  -- p11
  intro W54
  intro M55
  refine ⟨?_, ?_⟩
  · first | exact ⟨by decide, by decide⟩ | exact zOk_n9 (by assumption) | (subst_vars; exact if_pos rfl)  -- b12
  intro κ_56 hκ_56
  intro W57
  intro κ_58 hκ_58
  intro W59
  intro κ_60 hκ_60
  intro W61
  intro T62
  refine Nu_init_c W61 T62  ?_ (fun κ_63 q64 => ?_)
  · decide  -- p13
  intro W65
  intro M66
  refine ⟨?_, ?_⟩
  · first | exact ⟨by decide, by decide⟩ | exact zOk_n9 (by assumption) | (subst_vars; exact if_pos rfl)  -- b14
  intro κ_67 hκ_67
  intro W68
  intro κ_69 hκ_69
  intro W70
  refine h _ ?_
  · subst_vars; rfl  -- q15
