/-! methods of the class: At_survey, Ma_begin, At_discover, Nu_init, Ca_init, Nu_bitsOf, Nu_compare, Nu_copy, Nu_over, Nu_put, Nu_shiftBack, Nu_shiftFrom -/
theorem dX0_survey_0 : decode cX0_survey 0 = .ok (.aload_n 0, 1) := by decide +kernel
theorem dX0_survey_1 : decode cX0_survey 1 = .ok (.getfield 22, 3) := by decide +kernel
theorem dX0_survey_4 : decode cX0_survey 4 = .ok (.aload_n 0, 1) := by decide +kernel
theorem dX0_survey_5 : decode cX0_survey 5 = .ok (.iconst 0, 1) := by decide +kernel
theorem dX0_survey_6 : decode cX0_survey 6 = .ok (.invokevirtual 204, 3) := by decide +kernel
theorem dX0_survey_9 : decode cX0_survey 9 = .ok (.aload_n 0, 1) := by decide +kernel
theorem dX0_survey_10 : decode cX0_survey 10 = .ok (.getfield 22, 3) := by decide +kernel
theorem dX0_survey_13 : decode cX0_survey 13 = .ok (.invokevirtual 208, 3) := by decide +kernel
theorem dX0_survey_16 : decode cX0_survey 16 = .ok (.iconst 0, 1) := by decide +kernel
theorem dX0_survey_17 : decode cX0_survey 17 = .ok (.istore_n 1, 1) := by decide +kernel
theorem dX0_survey_18 : decode cX0_survey 18 = .ok (.iload_n 1, 1) := by decide +kernel
theorem dX0_survey_19 : decode cX0_survey 19 = .ok (.aload_n 0, 1) := by decide +kernel
theorem dX0_survey_20 : decode cX0_survey 20 = .ok (.getfield 33, 3) := by decide +kernel
theorem dX0_survey_23 : decode cX0_survey 23 = .ok (.getfield 92, 3) := by decide +kernel
theorem dX0_survey_26 : decode cX0_survey 26 = .ok (.if_icmp .ge 32, 3) := by decide +kernel
theorem dX0_survey_29 : decode cX0_survey 29 = .ok (.aload_n 0, 1) := by decide +kernel
theorem dX0_survey_30 : decode cX0_survey 30 = .ok (.getfield 57, 3) := by decide +kernel
theorem dX0_survey_33 : decode cX0_survey 33 = .ok (.iload_n 1, 1) := by decide +kernel
theorem dX0_survey_34 : decode cX0_survey 34 = .ok (.aload_n 0, 1) := by decide +kernel
theorem dX0_survey_35 : decode cX0_survey 35 = .ok (.getfield 22, 3) := by decide +kernel
theorem dX0_survey_38 : decode cX0_survey 38 = .ok (.getfield 211, 3) := by decide +kernel
theorem dX0_survey_41 : decode cX0_survey 41 = .ok (.iload_n 1, 1) := by decide +kernel
theorem dX0_survey_42 : decode cX0_survey 42 = .ok (.baload, 1) := by decide +kernel
theorem dX0_survey_43 : decode cX0_survey 43 = .ok (.ifCond .ne 7, 3) := by decide +kernel
theorem dX0_survey_46 : decode cX0_survey 46 = .ok (.iconst 1, 1) := by decide +kernel
theorem dX0_survey_47 : decode cX0_survey 47 = .ok (.goto 4, 3) := by decide +kernel
theorem dX0_survey_50 : decode cX0_survey 50 = .ok (.iconst 0, 1) := by decide +kernel
theorem dX0_survey_51 : decode cX0_survey 51 = .ok (.bastore, 1) := by decide +kernel
theorem dX0_survey_52 : decode cX0_survey 52 = .ok (.iinc 1 1, 3) := by decide +kernel
theorem dX0_survey_55 : decode cX0_survey 55 = .ok (.goto (-37), 3) := by decide +kernel
theorem dX0_survey_58 : decode cX0_survey 58 = .ok (.iconst 0, 1) := by decide +kernel
theorem dX0_survey_59 : decode cX0_survey 59 = .ok (.istore_n 1, 1) := by decide +kernel
theorem dX0_survey_60 : decode cX0_survey 60 = .ok (.iload_n 1, 1) := by decide +kernel
theorem dX0_survey_61 : decode cX0_survey 61 = .ok (.aload_n 0, 1) := by decide +kernel
theorem dX0_survey_62 : decode cX0_survey 62 = .ok (.getfield 22, 3) := by decide +kernel
theorem dX0_survey_65 : decode cX0_survey 65 = .ok (.getfield 214, 3) := by decide +kernel
theorem dX0_survey_68 : decode cX0_survey 68 = .ok (.if_icmp .ge 49, 3) := by decide +kernel
theorem dX0_survey_71 : decode cX0_survey 71 = .ok (.aload_n 0, 1) := by decide +kernel
theorem dX0_survey_72 : decode cX0_survey 72 = .ok (.getfield 22, 3) := by decide +kernel
theorem dX0_survey_75 : decode cX0_survey 75 = .ok (.iload_n 1, 1) := by decide +kernel
theorem dX0_survey_76 : decode cX0_survey 76 = .ok (.invokevirtual 217, 3) := by decide +kernel
theorem dX0_survey_79 : decode cX0_survey 79 = .ok (.ifCond .eq 32, 3) := by decide +kernel
theorem dX0_survey_82 : decode cX0_survey 82 = .ok (.aload_n 0, 1) := by decide +kernel
theorem dX0_survey_83 : decode cX0_survey 83 = .ok (.dup, 1) := by decide +kernel
theorem dX0_survey_84 : decode cX0_survey 84 = .ok (.getfield 82, 3) := by decide +kernel
theorem dX0_survey_87 : decode cX0_survey 87 = .ok (.iconst 1, 1) := by decide +kernel
theorem dX0_survey_88 : decode cX0_survey 88 = .ok (.iadd, 1) := by decide +kernel
theorem dX0_survey_89 : decode cX0_survey 89 = .ok (.putfield 82, 3) := by decide +kernel
theorem dX0_survey_92 : decode cX0_survey 92 = .ok (.aload_n 0, 1) := by decide +kernel
theorem dX0_survey_93 : decode cX0_survey 93 = .ok (.aload_n 0, 1) := by decide +kernel
theorem dX0_survey_94 : decode cX0_survey 94 = .ok (.getfield 85, 3) := by decide +kernel
theorem dX0_survey_97 : decode cX0_survey 97 = .ok (.aload_n 0, 1) := by decide +kernel
theorem dX0_survey_98 : decode cX0_survey 98 = .ok (.getfield 22, 3) := by decide +kernel
theorem dX0_survey_101 : decode cX0_survey 101 = .ok (.iload_n 1, 1) := by decide +kernel
theorem dX0_survey_102 : decode cX0_survey 102 = .ok (.invokevirtual 220, 3) := by decide +kernel
theorem dX0_survey_105 : decode cX0_survey 105 = .ok (.invokestatic 223, 3) := by decide +kernel
theorem dX0_survey_108 : decode cX0_survey 108 = .ok (.putfield 85, 3) := by decide +kernel
theorem dX0_survey_111 : decode cX0_survey 111 = .ok (.iinc 1 1, 3) := by decide +kernel
theorem dX0_survey_114 : decode cX0_survey 114 = .ok (.goto (-54), 3) := by decide +kernel
theorem dX0_survey_117 : decode cX0_survey 117 = .ok (.return_, 1) := by decide +kernel
def w_At_survey_51 (C : zC) (n0 : Nat) (Q : zS → Prop) (B18 : Nat → Int32 → zS → Prop) (a0 : Nat) (a1 : Int32) (s0 : Nat) (s1 : Int32) (s2 : Int32) (κ : zS) : Prop :=
  inb s1 (zN κ s0) ∧
  ∀ κ1, κ1 = ua κ s0 (s1).toNatClampNeg (vp_nar .boolean s2) →
  ∀ _ : zW C n0 κ1,
  ∀ v1_2 : Int32, v1_2 = a1 + (1 : Int32) →
  B18 a0 v1_2 κ1
theorem t_At_survey_51 {C : zC} {n0 : Nat} {Q : zS → Prop} {B18 : Nat → Int32 → zS → Prop} (hB18 : ∀ a0' a1' τ, zW C n0 τ → zT τ a0' = 3 → B18 a0' a1' τ → zG C n0 3 mAt_survey 18 [some (.ref a0'), some (.int a1')] [] τ (oV Q noX)) {a0 : Nat} {a1 : Int32} {s0 : Nat} {s1 : Int32} {s2 : Int32} {κ : zS} (W : zW C n0 κ) (Ta0 : zT κ a0 = 3) (Ts0 : zT κ s0 = 23) (F : w_At_survey_51 C n0 Q B18 a0 a1 s0 s1 s2 κ) : zG C n0 3 mAt_survey 51 [some (.ref a0), some (.int a1)] [.int s2, .int s1, .ref s0] κ (oV Q noX) := by
  unfold w_At_survey_51 at F
  refine y_zst W dX0_survey_51 Ts0 F.1 (fun κ1 eκ1 => ?_)
  replace F := F.2 κ1 eκ1
  have Wκ1 : zW C n0 κ1 := zW_ua W eκ1 (fun _ => nb_nr) (fun h => absurd (h.symm.trans Ts0) (by decide))
  have Mκ1 : zM (zn κ) κ κ1 := by rw [eκ1]; exact zM.of rfl rfl rfl
  replace F := F Wκ1
  refine y_incb dX0_survey_52 zi_1 rfl (Nat.le_of_ble_eq_true rfl) (fun v1_2 ev1_2 => ?_)
  replace F := F v1_2 ev1_2
  refine y_goto dX0_survey_55 (t := 18) rfl ?_
  have h3 := (ztm W Mκ1 Ta0)
  exact y_k (hB18 _ _ _ Wκ1 h3 F) ⟨rfl, rfl, trivial⟩

def w_At_survey_60 (C : zC) (n0 : Nat) (Q : zS → Prop)  (a0 : Nat) (a1 : Int32) (κ : zS) : Prop :=
  ∃ I : Nat → Nat → Int32 → zS → Prop, (∃ n, I n a0 a1 κ) ∧ ∀ n a0 a1 κ, zW C n0 κ → zT κ a0 = 3 → I n a0 a1 κ →
    ((zI κ weKnots (zR κ atWeb a0)) ≤ a1 →
      Q κ) ∧
    (¬ (zI κ weKnots (zR κ atWeb a0)) ≤ a1 →
      ∀ _ : zT κ (zR κ atWeb a0) = 14,
      zRun C 1 mWe_isRing [.ref (zR κ atWeb a0), .int a1] κ (oI (fun r2 κ1 =>
        ∀ _ : zW C n0 κ1,
        ∀ _ : zM (zn κ) κ κ1,
        (r2 = (0 : Int32) →
          ∀ v1_4 : Int32, v1_4 = a1 + (1 : Int32) →
          ∃ k < n, I k a0 v1_4 κ1) ∧
        (¬ r2 = (0 : Int32) →
          ∀ κ7, κ7 = ui κ1 atRings a0 ((zI κ1 atRings a0) + (1 : Int32)) →
          ∀ _ : zW C n0 κ7,
          ∀ _ : zT κ7 (zR κ7 atWeb a0) = 14,
          zRun C 0 mWe_sizeOf [.ref (zR κ7 atWeb a0), .int a1] κ7 (oI (fun r10 κ9 =>
            ∀ _ : zW C n0 κ9,
            ∀ _ : zM (zn κ7) κ7 κ9,
            ∀ κ12, κ12 = ui κ9 atGreatest a0 (if (zI κ7 atGreatest a0) < r10 then r10 else (zI κ7 atGreatest a0)) →
            ∀ _ : zW C n0 κ12,
            ∀ v1_14 : Int32, v1_14 = a1 + (1 : Int32) →
            ∃ k < n, I k a0 v1_14 κ12) noX))) noX))
theorem t_At_survey_60 {C : zC} {n0 : Nat} {Q : zS → Prop}   {a0 : Nat} {a1 : Int32} {κ : zS} (W : zW C n0 κ) (Ta0 : zT κ a0 = 3) (F : w_At_survey_60 C n0 Q  a0 a1 κ) : zG C n0 3 mAt_survey 60 [some (.ref a0), some (.int a1)] [] κ (oV Q noX) := by
  obtain ⟨I, ⟨m0, hI0⟩, F0⟩ := F
  have key : ∀ n a0 a1 κ, zW C n0 κ → zT κ a0 = 3 → I n a0 a1 κ → zG C n0 3 mAt_survey 60 [some (.ref a0), some (.int a1)] [] κ (oV Q noX) := by
    intro n
    induction n using Nat.strongRecOn with
    | _ n ih =>
      intro a0 a1 κ W Ta0 hI
      have F := F0 n a0 a1 κ W Ta0 hI
      clear hI hI0
      refine y_iln dX0_survey_60 rfl ?_
      refine y_aln dX0_survey_61 rfl ?_
      refine gf_X0_22 W dX0_survey_62 rfl Ta0 ?_
      refine gf_X0_214 dX0_survey_65 rfl (Or.inl (ty_atWeb W Ta0)) ?_
      refine y_ii ((zI κ weKnots (zR κ atWeb a0)) ≤ a1) dX0_survey_68 (t := 117) rfl rfl (fun c9 => ?_) (fun c9 => ?_)
      · replace F := F.1 c9
        exact y_rv W dX0_survey_117 rfl F
      · replace F := F.2 c9
        refine y_aln dX0_survey_71 rfl ?_
        refine gf_X0_22 W dX0_survey_72 rfl Ta0 ?_
        refine y_iln dX0_survey_75 rfl ?_
        replace F := F (ty_atWeb W Ta0)
        refine k_X0_217 W dX0_survey_76 rfl (Nat.le_of_ble_eq_true rfl) (Nat.le_of_ble_eq_true rfl) (Or.inl (ty_atWeb W Ta0)) F (fun r2 κ1 Wκ1 Mκ1 F => ?_) (fun _ _ h9 => False.elim h9)
        replace F := F Wκ1 Mκ1
        refine y_i (r2 = (0 : Int32)) dX0_survey_79 (t := 111) rfl rfl (fun c9 => ?_) (fun c9 => ?_)
        · replace F := F.1 c9
          refine y_incb dX0_survey_111 zi_1 rfl (Nat.le_of_ble_eq_true rfl) (fun v1_4 ev1_4 => ?_)
          replace F := F v1_4 ev1_4
          refine y_goto dX0_survey_114 (t := 60) rfl ?_
          have h5 := (ztm W Mκ1 Ta0)
          obtain ⟨k, hk, hI⟩ := F
          exact y_k (ih k hk _ _ _ Wκ1 h5 hI) ⟨rfl, rfl, trivial⟩
        · replace F := F.2 c9
          refine y_aln dX0_survey_82 rfl ?_
          refine y_dup dX0_survey_83 rfl ?_
          have h6 := (ztm W Mκ1 Ta0)
          refine gf_X0_82 dX0_survey_84 rfl (Or.inl h6) ?_
          refine y_ic dX0_survey_87 zi_1 ?_
          refine y_iadd dX0_survey_88 ?_
          refine pf_X0_82 Wκ1 dX0_survey_89 rfl (Or.inl h6) (fun κ7 eκ7 => ?_)
          replace F := F κ7 eκ7
          have Wκ7 : zW C n0 κ7 := zW_ui Wκ1 eκ7 (fun h => absurd h (by decide))
          have Mκ7 : zM (zn κ1) κ1 κ7 := by rw [eκ7]; exact zM.of rfl rfl rfl
          replace F := F Wκ7
          refine y_aln dX0_survey_92 rfl ?_
          refine y_aln dX0_survey_93 rfl ?_
          have h8 := (ztm Wκ1 Mκ7 h6)
          refine gf_X0_85 dX0_survey_94 rfl (Or.inl h8) ?_
          refine y_aln dX0_survey_97 rfl ?_
          refine gf_X0_22 Wκ7 dX0_survey_98 rfl h8 ?_
          refine y_iln dX0_survey_101 rfl ?_
          replace F := F (ty_atWeb Wκ7 h8)
          refine k_X0_220 Wκ7 dX0_survey_102 rfl (Nat.le_of_ble_eq_true rfl) (Nat.le_of_ble_eq_true rfl) (Or.inl (ty_atWeb Wκ7 h8)) F (fun r10 κ9 Wκ9 Mκ9 F => ?_) (fun _ _ h9 => False.elim h9)
          replace F := F Wκ9 Mκ9
          refine y_max dX0_survey_105 rfl zbi_X0_223 (Nat.le_of_ble_eq_true rfl) (Nat.le_of_ble_eq_true rfl) ?_
          have h13 := (ztm Wκ7 Mκ9 h8)
          refine pf_X0_85 Wκ9 dX0_survey_108 rfl (Or.inl h13) (fun κ12 eκ12 => ?_)
          replace F := F κ12 eκ12
          have Wκ12 : zW C n0 κ12 := zW_ui Wκ9 eκ12 (fun h => absurd h (by decide))
          have Mκ12 : zM (zn κ9) κ9 κ12 := by rw [eκ12]; exact zM.of rfl rfl rfl
          replace F := F Wκ12
          refine y_incb dX0_survey_111 zi_1 rfl (Nat.le_of_ble_eq_true rfl) (fun v1_14 ev1_14 => ?_)
          replace F := F v1_14 ev1_14
          refine y_goto dX0_survey_114 (t := 60) rfl ?_
          have h15 := (ztm Wκ9 Mκ12 h13)
          obtain ⟨k, hk, hI⟩ := F
          exact y_k (ih k hk _ _ _ Wκ12 h15 hI) ⟨rfl, rfl, trivial⟩
  exact key m0 a0 a1 κ W Ta0 hI0

def w_At_survey_18 (C : zC) (n0 : Nat) (Q : zS → Prop)  (a0 : Nat) (a1 : Int32) (κ : zS) : Prop :=
  ∃ I : Nat → Nat → Int32 → zS → Prop, (∃ n, I n a0 a1 κ) ∧ ∀ n a0 a1 κ, zW C n0 κ → zT κ a0 = 3 → I n a0 a1 κ →
    ((zI κ hoTotal (zR κ atStates a0)) ≤ a1 →
      w_At_survey_60 C n0 Q  a0 (0 : Int32) κ) ∧
    (¬ (zI κ hoTotal (zR κ atStates a0)) ≤ a1 →
      inb a1 (zN κ (zR κ weOpen (zR κ atWeb a0))) ∧
      (¬ (zA κ (zR κ weOpen (zR κ atWeb a0)) (a1).toNatClampNeg) = (0 : Int32) →
        w_At_survey_51 C n0 Q (fun a0' a1' τ => ∃ k < n, I k a0' a1' τ) a0 a1 (zR κ atHopeless a0) a1 (0 : Int32) κ) ∧
      ((zA κ (zR κ weOpen (zR κ atWeb a0)) (a1).toNatClampNeg) = (0 : Int32) →
        w_At_survey_51 C n0 Q (fun a0' a1' τ => ∃ k < n, I k a0' a1' τ) a0 a1 (zR κ atHopeless a0) a1 (1 : Int32) κ))
theorem t_At_survey_18 {C : zC} {n0 : Nat} {Q : zS → Prop}   {a0 : Nat} {a1 : Int32} {κ : zS} (W : zW C n0 κ) (Ta0 : zT κ a0 = 3) (F : w_At_survey_18 C n0 Q  a0 a1 κ) : zG C n0 3 mAt_survey 18 [some (.ref a0), some (.int a1)] [] κ (oV Q noX) := by
  obtain ⟨I, ⟨m0, hI0⟩, F0⟩ := F
  have key : ∀ n a0 a1 κ, zW C n0 κ → zT κ a0 = 3 → I n a0 a1 κ → zG C n0 3 mAt_survey 18 [some (.ref a0), some (.int a1)] [] κ (oV Q noX) := by
    intro n
    induction n using Nat.strongRecOn with
    | _ n ih =>
      intro a0 a1 κ W Ta0 hI
      have F := F0 n a0 a1 κ W Ta0 hI
      clear hI hI0
      refine y_iln dX0_survey_18 rfl ?_
      refine y_aln dX0_survey_19 rfl ?_
      refine gf_X0_33 W dX0_survey_20 rfl Ta0 ?_
      refine gf_X0_92 dX0_survey_23 rfl (Or.inl (ty_atStates W Ta0)) ?_
      refine y_ii ((zI κ hoTotal (zR κ atStates a0)) ≤ a1) dX0_survey_26 (t := 58) rfl rfl (fun c9 => ?_) (fun c9 => ?_)
      · replace F := F.1 c9
        refine y_ic dX0_survey_58 zi_0 ?_
        refine y_isn dX0_survey_59 (Nat.le_of_ble_eq_true rfl) rfl ?_
        exact y_k (t_At_survey_60  W Ta0 F) ⟨rfl, rfl, trivial⟩
      · replace F := F.2 c9
        refine y_aln dX0_survey_29 rfl ?_
        refine gf_X0_57 W dX0_survey_30 rfl Ta0 ?_
        refine y_iln dX0_survey_33 rfl ?_
        refine y_aln dX0_survey_34 rfl ?_
        refine gf_X0_22 W dX0_survey_35 rfl Ta0 ?_
        refine gf_X0_211 W dX0_survey_38 rfl (ty_atWeb W Ta0) ?_
        refine y_iln dX0_survey_41 rfl ?_
        refine y_zld dX0_survey_42 (ty_weOpen W (ty_atWeb W Ta0)) F.1 ?_
        replace F := F.2
        refine y_in ((zA κ (zR κ weOpen (zR κ atWeb a0)) (a1).toNatClampNeg) = (0 : Int32)) dX0_survey_43 (t := 50) rfl rfl (fun c9 => ?_) (fun c9 => ?_)
        · replace F := F.1 c9
          refine y_ic dX0_survey_50 zi_0 ?_
          exact y_k (t_At_survey_51 (fun a0' a1' τ w9 f09 hb => by obtain ⟨k, hk, hI⟩ := hb; exact ih k hk a0' a1' τ w9 f09 hI) W Ta0 (ty_atHopeless W Ta0) F) ⟨rfl, rfl, trivial⟩
        · replace F := F.2 c9
          refine y_ic dX0_survey_46 zi_1 ?_
          refine y_goto dX0_survey_47 (t := 51) rfl ?_
          exact y_k (t_At_survey_51 (fun a0' a1' τ w9 f09 hb => by obtain ⟨k, hk, hI⟩ := hb; exact ih k hk a0' a1' τ w9 f09 hI) W Ta0 (ty_atHopeless W Ta0) F) ⟨rfl, rfl, trivial⟩
  exact key m0 a0 a1 κ W Ta0 hI0

def w_At_survey_0 (C : zC) (n0 : Nat) (Q : zS → Prop)  (a0 : Nat) (κ : zS) : Prop :=
  ∀ _ : zT κ (zR κ atWeb a0) = 14,
  ∀ _ : zT κ a0 = 3,
  zRun C 2 mWe_weave [.ref (zR κ atWeb a0), .ref a0, .int (0 : Int32)] κ (oV (fun κ1 =>
    ∀ _ : zW C n0 κ1,
    ∀ _ : zM (zn κ) κ κ1,
    ∀ _ : zT κ1 (zR κ1 atWeb a0) = 14,
    zRun C 2 mWe_knot [.ref (zR κ1 atWeb a0)] κ1 (oV (fun κ5 =>
      ∀ _ : zW C n0 κ5,
      ∀ _ : zM (zn κ1) κ1 κ5,
      w_At_survey_18 C n0 Q  a0 (0 : Int32) κ5) noX)) noX)
theorem t_At_survey_0 {C : zC} {n0 : Nat} {Q : zS → Prop}   {a0 : Nat} {κ : zS} (W : zW C n0 κ) (Ta0 : zT κ a0 = 3) (F : w_At_survey_0 C n0 Q  a0 κ) : zG C n0 3 mAt_survey 0 [some (.ref a0), none] [] κ (oV Q noX) := by
  unfold w_At_survey_0 at F
  refine y_aln dX0_survey_0 rfl ?_
  refine gf_X0_22 W dX0_survey_1 rfl Ta0 ?_
  refine y_aln dX0_survey_4 rfl ?_
  refine y_ic dX0_survey_5 zi_0 ?_
  replace F := F (ty_atWeb W Ta0)
  replace F := F Ta0
  refine k_X0_204 W dX0_survey_6 rfl (Nat.le_of_ble_eq_true rfl) (Nat.le_of_ble_eq_true rfl) (Or.inl (ty_atWeb W Ta0)) F (fun  κ1 Wκ1 Mκ1 F => ?_) (fun _ _ h9 => False.elim h9)
  replace F := F Wκ1 Mκ1
  refine y_aln dX0_survey_9 rfl ?_
  have h4 := (ztm W Mκ1 Ta0)
  refine gf_X0_22 Wκ1 dX0_survey_10 rfl h4 ?_
  replace F := F (ty_atWeb Wκ1 h4)
  refine k_X0_208 Wκ1 dX0_survey_13 rfl (Nat.le_of_ble_eq_true rfl) (Nat.le_of_ble_eq_true rfl) (Or.inl (ty_atWeb Wκ1 h4)) F (fun  κ5 Wκ5 Mκ5 F => ?_) (fun _ _ h9 => False.elim h9)
  replace F := F Wκ5 Mκ5
  refine y_ic dX0_survey_16 zi_0 ?_
  refine y_isn dX0_survey_17 (Nat.le_of_ble_eq_true rfl) rfl ?_
  have h8 := (ztm Wκ1 Mκ5 h4)
  exact y_k (t_At_survey_18  Wκ5 h8 F) ⟨rfl, rfl, trivial⟩

theorem At_survey_run {C : zC} {n0 : Nat} {Q : zS → Prop} {a0 : Nat} {κ : zS} (W : zW C n0 κ) (Ta0 : zT κ a0 = 3) (F : w_At_survey_0 C (zn κ) Q a0 κ) : zRun C 3 mAt_survey [.ref a0] κ (oV Q noX) := z_run (m_ent _ 1) (t_At_survey_0 (W.lo (Nat.le_trans W.1.2.1 W.1.2.2) (Nat.le_refl _)) Ta0 F)

theorem dX4_begin_0 : decode cX4_begin 0 = .ok (.aload_n 0, 1) := by decide +kernel
theorem dX4_begin_1 : decode cX4_begin 1 = .ok (.aload_n 1, 1) := by decide +kernel
theorem dX4_begin_2 : decode cX4_begin 2 = .ok (.putfield 11, 3) := by decide +kernel
theorem dX4_begin_5 : decode cX4_begin 5 = .ok (.aload_n 0, 1) := by decide +kernel
theorem dX4_begin_6 : decode cX4_begin 6 = .ok (.aload_n 1, 1) := by decide +kernel
theorem dX4_begin_7 : decode cX4_begin 7 = .ok (.invokevirtual 31, 3) := by decide +kernel
theorem dX4_begin_10 : decode cX4_begin 10 = .ok (.bipush 34, 2) := by decide +kernel
theorem dX4_begin_12 : decode cX4_begin 12 = .ok (.invokestatic 37, 3) := by decide +kernel
theorem dX4_begin_15 : decode cX4_begin 15 = .ok (.putfield 43, 3) := by decide +kernel
theorem dX4_begin_18 : decode cX4_begin 18 = .ok (.aload_n 0, 1) := by decide +kernel
theorem dX4_begin_19 : decode cX4_begin 19 = .ok (.getfield 15, 3) := by decide +kernel
theorem dX4_begin_22 : decode cX4_begin 22 = .ok (.iconst 0, 1) := by decide +kernel
theorem dX4_begin_23 : decode cX4_begin 23 = .ok (.invokestatic 46, 3) := by decide +kernel
theorem dX4_begin_26 : decode cX4_begin 26 = .ok (.aload_n 1, 1) := by decide +kernel
theorem dX4_begin_27 : decode cX4_begin 27 = .ok (.getfield 52, 3) := by decide +kernel
theorem dX4_begin_30 : decode cX4_begin 30 = .ok (.iconst 0, 1) := by decide +kernel
theorem dX4_begin_31 : decode cX4_begin 31 = .ok (.aload_n 0, 1) := by decide +kernel
theorem dX4_begin_32 : decode cX4_begin 32 = .ok (.getfield 15, 3) := by decide +kernel
theorem dX4_begin_35 : decode cX4_begin 35 = .ok (.iconst 0, 1) := by decide +kernel
theorem dX4_begin_36 : decode cX4_begin 36 = .ok (.aload_n 1, 1) := by decide +kernel
theorem dX4_begin_37 : decode cX4_begin 37 = .ok (.getfield 55, 3) := by decide +kernel
theorem dX4_begin_40 : decode cX4_begin 40 = .ok (.bipush 10, 2) := by decide +kernel
theorem dX4_begin_42 : decode cX4_begin 42 = .ok (.invokestatic 37, 3) := by decide +kernel
theorem dX4_begin_45 : decode cX4_begin 45 = .ok (.invokestatic 58, 3) := by decide +kernel
theorem dX4_begin_48 : decode cX4_begin 48 = .ok (.aload_n 0, 1) := by decide +kernel
theorem dX4_begin_49 : decode cX4_begin 49 = .ok (.iconst 1, 1) := by decide +kernel
theorem dX4_begin_50 : decode cX4_begin 50 = .ok (.putfield 64, 3) := by decide +kernel
theorem dX4_begin_53 : decode cX4_begin 53 = .ok (.aload_n 0, 1) := by decide +kernel
theorem dX4_begin_54 : decode cX4_begin 54 = .ok (.aload_n 0, 1) := by decide +kernel
theorem dX4_begin_55 : decode cX4_begin 55 = .ok (.getfield 43, 3) := by decide +kernel
theorem dX4_begin_58 : decode cX4_begin 58 = .ok (.putfield 67, 3) := by decide +kernel
theorem dX4_begin_61 : decode cX4_begin 61 = .ok (.aload_n 0, 1) := by decide +kernel
theorem dX4_begin_62 : decode cX4_begin 62 = .ok (.iconst 0, 1) := by decide +kernel
theorem dX4_begin_63 : decode cX4_begin 63 = .ok (.putfield 70, 3) := by decide +kernel
theorem dX4_begin_66 : decode cX4_begin 66 = .ok (.aload_n 0, 1) := by decide +kernel
theorem dX4_begin_67 : decode cX4_begin 67 = .ok (.iconst 0, 1) := by decide +kernel
theorem dX4_begin_68 : decode cX4_begin 68 = .ok (.putfield 73, 3) := by decide +kernel
theorem dX4_begin_71 : decode cX4_begin 71 = .ok (.aload_n 0, 1) := by decide +kernel
theorem dX4_begin_72 : decode cX4_begin 72 = .ok (.iconst (-1), 1) := by decide +kernel
theorem dX4_begin_73 : decode cX4_begin 73 = .ok (.putfield 76, 3) := by decide +kernel
theorem dX4_begin_76 : decode cX4_begin 76 = .ok (.aload_n 0, 1) := by decide +kernel
theorem dX4_begin_77 : decode cX4_begin 77 = .ok (.iconst 0, 1) := by decide +kernel
theorem dX4_begin_78 : decode cX4_begin 78 = .ok (.putfield 79, 3) := by decide +kernel
theorem dX4_begin_81 : decode cX4_begin 81 = .ok (.aload_n 0, 1) := by decide +kernel
theorem dX4_begin_82 : decode cX4_begin 82 = .ok (.aload_n 1, 1) := by decide +kernel
theorem dX4_begin_83 : decode cX4_begin 83 = .ok (.aload_n 1, 1) := by decide +kernel
theorem dX4_begin_84 : decode cX4_begin 84 = .ok (.getfield 82, 3) := by decide +kernel
theorem dX4_begin_87 : decode cX4_begin 87 = .ok (.invokevirtual 85, 3) := by decide +kernel
theorem dX4_begin_90 : decode cX4_begin 90 = .ok (.putfield 89, 3) := by decide +kernel
theorem dX4_begin_93 : decode cX4_begin 93 = .ok (.aload_n 0, 1) := by decide +kernel
theorem dX4_begin_94 : decode cX4_begin 94 = .ok (.iconst 0, 1) := by decide +kernel
theorem dX4_begin_95 : decode cX4_begin 95 = .ok (.putfield 92, 3) := by decide +kernel
theorem dX4_begin_98 : decode cX4_begin 98 = .ok (.aload_n 0, 1) := by decide +kernel
theorem dX4_begin_99 : decode cX4_begin 99 = .ok (.invokevirtual 95, 3) := by decide +kernel
theorem dX4_begin_102 : decode cX4_begin 102 = .ok (.return_, 1) := by decide +kernel
def w_Ma_begin_0 (C : zC) (n0 : Nat) (Q : zS → Prop)  (a0 : Nat) (a1 : Nat) (κ : zS) : Prop :=
  ∀ κ1, κ1 = ur κ maCode a0 a1 →
  ∀ _ : zW C n0 κ1,
  ∀ _ : zT κ1 a1 = 5,
  zRun C 0 mCo_shared [.ref a1] κ1 (oI (fun r3 κ2 =>
    ∀ _ : zW C n0 κ2,
    ∀ _ : zM (zn κ1) κ1 κ2,
    ∀ κ6, κ6 = ui κ2 maShared a0 (if (34 : Int32) < r3 then (34 : Int32) else r3) →
    ∀ _ : zW C n0 κ6,
    ∀ _ : zT κ6 (zR κ6 maMemory a0) = 20,
    zRun C 0 mAr_fill [.ref (zR κ6 maMemory a0), .int (0 : Int32)] κ6 (oV (fun κ9 =>
      ∀ _ : zW C n0 κ9,
      ∀ _ : zM (zn κ6) κ6 κ9,
      cpo κ9 (zR κ9 coVarStarts a1) (zR κ9 maMemory a0) (0 : Int32) (0 : Int32) (if (10 : Int32) < (zI κ9 coVars a1) then (10 : Int32) else (zI κ9 coVars a1)) ∧
      ∀ κ14, κ14 = uc κ9 (zR κ9 coVarStarts a1) (zR κ9 maMemory a0) ((0 : Int32)).toNatClampNeg ((0 : Int32)).toNatClampNeg ((if (10 : Int32) < (zI κ9 coVars a1) then (10 : Int32) else (zI κ9 coVars a1))).toNatClampNeg →
      ∀ _ : zW C n0 κ14,
      ∀ κ15, κ15 = ui κ14 maOpen a0 (1 : Int32) →
      ∀ _ : zW C n0 κ15,
      ∀ κ18, κ18 = ui κ15 maFrame a0 (zI κ15 maShared a0) →
      ∀ _ : zW C n0 κ18,
      ∀ κ19, κ19 = ui κ18 maFailure a0 (0 : Int32) →
      ∀ _ : zW C n0 κ19,
      ∀ κ21, κ21 = ui κ19 maGained a0 (0 : Int32) →
      ∀ _ : zW C n0 κ21,
      ∀ κ23, κ23 = ui κ21 maWants a0 (-1 : Int32) →
      ∀ _ : zW C n0 κ23,
      ∀ κ25, κ25 = ui κ23 maOutcome a0 (0 : Int32) →
      ∀ _ : zW C n0 κ25,
      ∀ _ : zT κ25 a1 = 5,
      zRun C 0 mCo_firstOf [.ref a1, .int (zI κ25 coMain a1)] κ25 (oI (fun r29 κ28 =>
        ∀ _ : zW C n0 κ28,
        ∀ _ : zM (zn κ25) κ25 κ28,
        ∀ κ31, κ31 = ui κ28 maGoing a0 r29 →
        ∀ _ : zW C n0 κ31,
        ∀ κ33, κ33 = ui κ31 maAnswer a0 (0 : Int32) →
        ∀ _ : zW C n0 κ33,
        ∀ _ : zT κ33 a0 = 7,
        zRun C 1 mMa_proceed [.ref a0] κ33 (oV (fun κ35 =>
          ∀ _ : zW C n0 κ35,
          ∀ _ : zM (zn κ33) κ33 κ35,
          Q κ35) noX)) noX)) noX)) noX)
theorem t_Ma_begin_0 {C : zC} {n0 : Nat} {Q : zS → Prop}   {a0 : Nat} {a1 : Nat} {κ : zS} (W : zW C n0 κ) (Ta0 : zT κ a0 = 7) (Ta1 : zT κ a1 = 5) (F : w_Ma_begin_0 C n0 Q  a0 a1 κ) : zG C n0 2 mMa_begin 0 [some (.ref a0), some (.ref a1)] [] κ (oV Q noX) := by
  unfold w_Ma_begin_0 at F
  refine y_aln dX4_begin_0 rfl ?_
  refine y_aln dX4_begin_1 rfl ?_
  refine pf_X4_11 W dX4_begin_2 rfl (Or.inl Ta0) Ta1 (fun κ1 eκ1 => ?_)
  replace F := F κ1 eκ1
  have Wκ1 : zW C n0 κ1 := zW_ur W eκ1 (fun t ht => by cases ht; exact ⟨by decide, Ta1⟩)
  have Mκ1 : zM (zn κ) κ κ1 := by rw [eκ1]; exact zM.of rfl rfl rfl
  replace F := F Wκ1
  refine y_aln dX4_begin_5 rfl ?_
  refine y_aln dX4_begin_6 rfl ?_
  have h4 := (ztm W Mκ1 Ta1)
  replace F := F h4
  refine k_X4_31 Wκ1 dX4_begin_7 rfl (Nat.le_of_ble_eq_true rfl) (Nat.le_of_ble_eq_true rfl) (Or.inl h4) F (fun r3 κ2 Wκ2 Mκ2 F => ?_) (fun _ _ h9 => False.elim h9)
  replace F := F Wκ2 Mκ2
  refine y_bi1 dX4_begin_10 zb_34 ?_
  refine y_min dX4_begin_12 rfl zbi_X4_37 (Nat.le_of_ble_eq_true rfl) (Nat.le_of_ble_eq_true rfl) ?_
  have h7 := (ztm Wκ1 Mκ2 (ztm W Mκ1 Ta0))
  refine pf_X4_43 Wκ2 dX4_begin_15 rfl (Or.inl h7) (fun κ6 eκ6 => ?_)
  replace F := F κ6 eκ6
  have Wκ6 : zW C n0 κ6 := zW_ui Wκ2 eκ6 (fun h => absurd h (by decide))
  have Mκ6 : zM (zn κ2) κ2 κ6 := by rw [eκ6]; exact zM.of rfl rfl rfl
  replace F := F Wκ6
  refine y_aln dX4_begin_18 rfl ?_
  have h8 := (ztm Wκ2 Mκ6 h7)
  refine gf_X4_15 Wκ6 dX4_begin_19 rfl h8 ?_
  refine y_ic dX4_begin_22 zi_0 ?_
  replace F := F (ty_maMemory Wκ6 h8)
  refine k_X4_46 Wκ6 dX4_begin_23 rfl (Nat.le_of_ble_eq_true rfl) (Nat.le_of_ble_eq_true rfl)  F (fun  κ9 Wκ9 Mκ9 F => ?_) (fun _ _ h9 => False.elim h9)
  replace F := F Wκ9 Mκ9
  refine y_aln dX4_begin_26 rfl ?_
  have h12 := (ztm Wκ6 Mκ9 (ztm Wκ2 Mκ6 (ztm Wκ1 Mκ2 h4)))
  refine gf_X4_52 Wκ9 dX4_begin_27 rfl h12 ?_
  refine y_ic dX4_begin_30 zi_0 ?_
  refine y_aln dX4_begin_31 rfl ?_
  have h13 := (ztm Wκ6 Mκ9 h8)
  refine gf_X4_15 Wκ9 dX4_begin_32 rfl h13 ?_
  refine y_ic dX4_begin_35 zi_0 ?_
  refine y_aln dX4_begin_36 rfl ?_
  refine gf_X4_55 dX4_begin_37 rfl (Or.inl h12) ?_
  refine y_bi1 dX4_begin_40 zb_10 ?_
  refine y_min dX4_begin_42 rfl zbi_X4_37 (Nat.le_of_ble_eq_true rfl) (Nat.le_of_ble_eq_true rfl) ?_
  refine y_cpy (t := 0) Wκ9 dX4_begin_45 rfl zbi_X4_58 (ty_coVarStarts Wκ9 h12) (ty_maMemory Wκ9 h13) (by decide) (Nat.le_of_ble_eq_true rfl) (Nat.le_of_ble_eq_true rfl) F.1 (fun κ14 eκ14 => ?_)
  replace F := F.2 κ14 eκ14
  have Wκ14 : zW C n0 κ14 := zW_uc Wκ9 eκ14 ((ty_coVarStarts Wκ9 h12).trans (ty_maMemory Wκ9 h13).symm)
  have Mκ14 : zM (zn κ9) κ9 κ14 := by rw [eκ14]; exact zM.of rfl rfl rfl
  replace F := F Wκ14
  refine y_aln dX4_begin_48 rfl ?_
  refine y_ic dX4_begin_49 zi_1 ?_
  have h16 := (ztm Wκ9 Mκ14 h13)
  refine pf_X4_64 Wκ14 dX4_begin_50 rfl (Or.inl h16) (fun κ15 eκ15 => ?_)
  replace F := F κ15 eκ15
  have Wκ15 : zW C n0 κ15 := zW_ui Wκ14 eκ15 (fun h => absurd h (by decide))
  have Mκ15 : zM (zn κ14) κ14 κ15 := by rw [eκ15]; exact zM.of rfl rfl rfl
  replace F := F Wκ15
  refine y_aln dX4_begin_53 rfl ?_
  refine y_aln dX4_begin_54 rfl ?_
  have h17 := (ztm Wκ14 Mκ15 h16)
  refine gf_X4_43 dX4_begin_55 rfl (Or.inl h17) ?_
  refine pf_X4_67 Wκ15 dX4_begin_58 rfl (Or.inl h17) (fun κ18 eκ18 => ?_)
  replace F := F κ18 eκ18
  have Wκ18 : zW C n0 κ18 := zW_ui Wκ15 eκ18 (fun h => absurd h (by decide))
  have Mκ18 : zM (zn κ15) κ15 κ18 := by rw [eκ18]; exact zM.of rfl rfl rfl
  replace F := F Wκ18
  refine y_aln dX4_begin_61 rfl ?_
  refine y_ic dX4_begin_62 zi_0 ?_
  have h20 := (ztm Wκ15 Mκ18 h17)
  refine pf_X4_70 Wκ18 dX4_begin_63 rfl (Or.inl h20) (fun κ19 eκ19 => ?_)
  replace F := F κ19 eκ19
  have Wκ19 : zW C n0 κ19 := zW_ui Wκ18 eκ19 (fun h => absurd h (by decide))
  have Mκ19 : zM (zn κ18) κ18 κ19 := by rw [eκ19]; exact zM.of rfl rfl rfl
  replace F := F Wκ19
  refine y_aln dX4_begin_66 rfl ?_
  refine y_ic dX4_begin_67 zi_0 ?_
  have h22 := (ztm Wκ18 Mκ19 h20)
  refine pf_X4_73 Wκ19 dX4_begin_68 rfl (Or.inl h22) (fun κ21 eκ21 => ?_)
  replace F := F κ21 eκ21
  have Wκ21 : zW C n0 κ21 := zW_ui Wκ19 eκ21 (fun h => absurd h (by decide))
  have Mκ21 : zM (zn κ19) κ19 κ21 := by rw [eκ21]; exact zM.of rfl rfl rfl
  replace F := F Wκ21
  refine y_aln dX4_begin_71 rfl ?_
  refine y_ic dX4_begin_72 zi_m1 ?_
  have h24 := (ztm Wκ19 Mκ21 h22)
  refine pf_X4_76 Wκ21 dX4_begin_73 rfl (Or.inl h24) (fun κ23 eκ23 => ?_)
  replace F := F κ23 eκ23
  have Wκ23 : zW C n0 κ23 := zW_ui Wκ21 eκ23 (fun h => absurd h (by decide))
  have Mκ23 : zM (zn κ21) κ21 κ23 := by rw [eκ23]; exact zM.of rfl rfl rfl
  replace F := F Wκ23
  refine y_aln dX4_begin_76 rfl ?_
  refine y_ic dX4_begin_77 zi_0 ?_
  have h26 := (ztm Wκ21 Mκ23 h24)
  refine pf_X4_79 Wκ23 dX4_begin_78 rfl (Or.inl h26) (fun κ25 eκ25 => ?_)
  replace F := F κ25 eκ25
  have Wκ25 : zW C n0 κ25 := zW_ui Wκ23 eκ25 (fun h => absurd h (by decide))
  have Mκ25 : zM (zn κ23) κ23 κ25 := by rw [eκ25]; exact zM.of rfl rfl rfl
  replace F := F Wκ25
  refine y_aln dX4_begin_81 rfl ?_
  refine y_aln dX4_begin_82 rfl ?_
  refine y_aln dX4_begin_83 rfl ?_
  have h27 := (ztm Wκ23 Mκ25 (ztm Wκ21 Mκ23 (ztm Wκ19 Mκ21 (ztm Wκ18 Mκ19 (ztm Wκ15 Mκ18 (ztm Wκ14 Mκ15 (ztm Wκ9 Mκ14 h12)))))))
  refine gf_X4_82 dX4_begin_84 rfl (Or.inl h27) ?_
  replace F := F h27
  refine k_X4_85 Wκ25 dX4_begin_87 rfl (Nat.le_of_ble_eq_true rfl) (Nat.le_of_ble_eq_true rfl) (Or.inl h27) F (fun r29 κ28 Wκ28 Mκ28 F => ?_) (fun _ _ h9 => False.elim h9)
  replace F := F Wκ28 Mκ28
  have h32 := (ztm Wκ25 Mκ28 (ztm Wκ23 Mκ25 h26))
  refine pf_X4_89 Wκ28 dX4_begin_90 rfl (Or.inl h32) (fun κ31 eκ31 => ?_)
  replace F := F κ31 eκ31
  have Wκ31 : zW C n0 κ31 := zW_ui Wκ28 eκ31 (fun h => absurd h (by decide))
  have Mκ31 : zM (zn κ28) κ28 κ31 := by rw [eκ31]; exact zM.of rfl rfl rfl
  replace F := F Wκ31
  refine y_aln dX4_begin_93 rfl ?_
  refine y_ic dX4_begin_94 zi_0 ?_
  have h34 := (ztm Wκ28 Mκ31 h32)
  refine pf_X4_92 Wκ31 dX4_begin_95 rfl (Or.inl h34) (fun κ33 eκ33 => ?_)
  replace F := F κ33 eκ33
  have Wκ33 : zW C n0 κ33 := zW_ui Wκ31 eκ33 (fun h => absurd h (by decide))
  have Mκ33 : zM (zn κ31) κ31 κ33 := by rw [eκ33]; exact zM.of rfl rfl rfl
  replace F := F Wκ33
  refine y_aln dX4_begin_98 rfl ?_
  have h37 := (ztm Wκ31 Mκ33 h34)
  replace F := F h37
  refine k_X4_95 Wκ33 dX4_begin_99 rfl (Nat.le_of_ble_eq_true rfl) (Nat.le_of_ble_eq_true rfl) (Or.inl h37) F (fun  κ35 Wκ35 Mκ35 F => ?_) (fun _ _ h9 => False.elim h9)
  replace F := F Wκ35 Mκ35
  exact y_rv Wκ35 dX4_begin_102 rfl F

theorem Ma_begin_run {C : zC} {n0 : Nat} {Q : zS → Prop} {a0 : Nat} {a1 : Nat} {κ : zS} (W : zW C n0 κ) (Ta0 : zT κ a0 = 7) (Ta1 : zT κ a1 = 5) (F : w_Ma_begin_0 C (zn κ) Q a0 a1 κ) : zRun C 2 mMa_begin [.ref a0, .ref a1] κ (oV Q noX) := z_run (m_ent _ 0) (t_Ma_begin_0 (W.lo (Nat.le_trans W.1.2.1 W.1.2.2) (Nat.le_refl _)) Ta0 Ta1 F)

theorem dX0_discover_0 : decode cX0_discover 0 = .ok (.aload_n 0, 1) := by decide +kernel
theorem dX0_discover_1 : decode cX0_discover 1 = .ok (.iconst 0, 1) := by decide +kernel
theorem dX0_discover_2 : decode cX0_discover 2 = .ok (.putfield 88, 3) := by decide +kernel
theorem dX0_discover_5 : decode cX0_discover 5 = .ok (.aload_n 0, 1) := by decide +kernel
theorem dX0_discover_6 : decode cX0_discover 6 = .ok (.aload_n 1, 1) := by decide +kernel
theorem dX0_discover_7 : decode cX0_discover 7 = .ok (.putfield 15, 3) := by decide +kernel
theorem dX0_discover_10 : decode cX0_discover 10 = .ok (.aload_n 0, 1) := by decide +kernel
theorem dX0_discover_11 : decode cX0_discover 11 = .ok (.invokevirtual 142, 3) := by decide +kernel
theorem dX0_discover_14 : decode cX0_discover 14 = .ok (.aload_n 0, 1) := by decide +kernel
theorem dX0_discover_15 : decode cX0_discover 15 = .ok (.getfield 9, 3) := by decide +kernel
theorem dX0_discover_18 : decode cX0_discover 18 = .ok (.aload_n 1, 1) := by decide +kernel
theorem dX0_discover_19 : decode cX0_discover 19 = .ok (.invokevirtual 143, 3) := by decide +kernel
theorem dX0_discover_22 : decode cX0_discover 22 = .ok (.aload_n 0, 1) := by decide +kernel
theorem dX0_discover_23 : decode cX0_discover 23 = .ok (.getfield 9, 3) := by decide +kernel
theorem dX0_discover_26 : decode cX0_discover 26 = .ok (.getfield 147, 3) := by decide +kernel
theorem dX0_discover_29 : decode cX0_discover 29 = .ok (.iconst 1, 1) := by decide +kernel
theorem dX0_discover_30 : decode cX0_discover 30 = .ok (.if_icmp .ne 49, 3) := by decide +kernel
theorem dX0_discover_33 : decode cX0_discover 33 = .ok (.aload_n 0, 1) := by decide +kernel
theorem dX0_discover_34 : decode cX0_discover 34 = .ok (.getfield 9, 3) := by decide +kernel
theorem dX0_discover_37 : decode cX0_discover 37 = .ok (.getfield 125, 3) := by decide +kernel
theorem dX0_discover_40 : decode cX0_discover 40 = .ok (.aload_n 0, 1) := by decide +kernel
theorem dX0_discover_41 : decode cX0_discover 41 = .ok (.getfield 9, 3) := by decide +kernel
theorem dX0_discover_44 : decode cX0_discover 44 = .ok (.getfield 150, 3) := by decide +kernel
theorem dX0_discover_47 : decode cX0_discover 47 = .ok (.iconst 0, 1) := by decide +kernel
theorem dX0_discover_48 : decode cX0_discover 48 = .ok (.iastore, 1) := by decide +kernel
theorem dX0_discover_49 : decode cX0_discover 49 = .ok (.aload_n 0, 1) := by decide +kernel
theorem dX0_discover_50 : decode cX0_discover 50 = .ok (.getfield 37, 3) := by decide +kernel
theorem dX0_discover_53 : decode cX0_discover 53 = .ok (.aload_n 0, 1) := by decide +kernel
theorem dX0_discover_54 : decode cX0_discover 54 = .ok (.getfield 9, 3) := by decide +kernel
theorem dX0_discover_57 : decode cX0_discover 57 = .ok (.getfield 125, 3) := by decide +kernel
theorem dX0_discover_60 : decode cX0_discover 60 = .ok (.aload_n 0, 1) := by decide +kernel
theorem dX0_discover_61 : decode cX0_discover 61 = .ok (.getfield 9, 3) := by decide +kernel
theorem dX0_discover_64 : decode cX0_discover 64 = .ok (.getfield 150, 3) := by decide +kernel
theorem dX0_discover_67 : decode cX0_discover 67 = .ok (.iconst 1, 1) := by decide +kernel
theorem dX0_discover_68 : decode cX0_discover 68 = .ok (.iadd, 1) := by decide +kernel
theorem dX0_discover_69 : decode cX0_discover 69 = .ok (.sipush 1000, 3) := by decide +kernel
theorem dX0_discover_72 : decode cX0_discover 72 = .ok (.invokevirtual 152, 3) := by decide +kernel
theorem dX0_discover_75 : decode cX0_discover 75 = .ok (.pop, 1) := by decide +kernel
theorem dX0_discover_76 : decode cX0_discover 76 = .ok (.goto 26, 3) := by decide +kernel
theorem dX0_discover_79 : decode cX0_discover 79 = .ok (.aload_n 0, 1) := by decide +kernel
theorem dX0_discover_80 : decode cX0_discover 80 = .ok (.getfield 33, 3) := by decide +kernel
theorem dX0_discover_83 : decode cX0_discover 83 = .ok (.aload_n 0, 1) := by decide +kernel
theorem dX0_discover_84 : decode cX0_discover 84 = .ok (.getfield 9, 3) := by decide +kernel
theorem dX0_discover_87 : decode cX0_discover 87 = .ok (.getfield 125, 3) := by decide +kernel
theorem dX0_discover_90 : decode cX0_discover 90 = .ok (.aload_n 0, 1) := by decide +kernel
theorem dX0_discover_91 : decode cX0_discover 91 = .ok (.getfield 9, 3) := by decide +kernel
theorem dX0_discover_94 : decode cX0_discover 94 = .ok (.invokevirtual 128, 3) := by decide +kernel
theorem dX0_discover_97 : decode cX0_discover 97 = .ok (.iload_n 2, 1) := by decide +kernel
theorem dX0_discover_98 : decode cX0_discover 98 = .ok (.invokevirtual 152, 3) := by decide +kernel
theorem dX0_discover_101 : decode cX0_discover 101 = .ok (.pop, 1) := by decide +kernel
theorem dX0_discover_102 : decode cX0_discover 102 = .ok (.iconst 0, 1) := by decide +kernel
theorem dX0_discover_103 : decode cX0_discover 103 = .ok (.istore_n 3, 1) := by decide +kernel
theorem dX0_discover_104 : decode cX0_discover 104 = .ok (.iload_n 3, 1) := by decide +kernel
theorem dX0_discover_105 : decode cX0_discover 105 = .ok (.aload_n 0, 1) := by decide +kernel
theorem dX0_discover_106 : decode cX0_discover 106 = .ok (.getfield 33, 3) := by decide +kernel
theorem dX0_discover_109 : decode cX0_discover 109 = .ok (.getfield 92, 3) := by decide +kernel
theorem dX0_discover_112 : decode cX0_discover 112 = .ok (.if_icmp .ge 25, 3) := by decide +kernel
theorem dX0_discover_115 : decode cX0_discover 115 = .ok (.iload_n 3, 1) := by decide +kernel
theorem dX0_discover_116 : decode cX0_discover 116 = .ok (.iload_n 2, 1) := by decide +kernel
theorem dX0_discover_117 : decode cX0_discover 117 = .ok (.if_icmp .ge 20, 3) := by decide +kernel
theorem dX0_discover_120 : decode cX0_discover 120 = .ok (.aload_n 0, 1) := by decide +kernel
theorem dX0_discover_121 : decode cX0_discover 121 = .ok (.iload_n 3, 1) := by decide +kernel
theorem dX0_discover_122 : decode cX0_discover 122 = .ok (.iload_n 2, 1) := by decide +kernel
theorem dX0_discover_123 : decode cX0_discover 123 = .ok (.invokevirtual 156, 3) := by decide +kernel
theorem dX0_discover_126 : decode cX0_discover 126 = .ok (.ifCond .ne 5, 3) := by decide +kernel
theorem dX0_discover_129 : decode cX0_discover 129 = .ok (.iconst (-1), 1) := by decide +kernel
theorem dX0_discover_130 : decode cX0_discover 130 = .ok (.ireturn, 1) := by decide +kernel
theorem dX0_discover_131 : decode cX0_discover 131 = .ok (.iinc 3 1, 3) := by decide +kernel
theorem dX0_discover_134 : decode cX0_discover 134 = .ok (.goto (-30), 3) := by decide +kernel
theorem dX0_discover_137 : decode cX0_discover 137 = .ok (.aload_n 0, 1) := by decide +kernel
theorem dX0_discover_138 : decode cX0_discover 138 = .ok (.invokevirtual 160, 3) := by decide +kernel
theorem dX0_discover_141 : decode cX0_discover 141 = .ok (.aload_n 0, 1) := by decide +kernel
theorem dX0_discover_142 : decode cX0_discover 142 = .ok (.iconst 1, 1) := by decide +kernel
theorem dX0_discover_143 : decode cX0_discover 143 = .ok (.putfield 88, 3) := by decide +kernel
theorem dX0_discover_146 : decode cX0_discover 146 = .ok (.aload_n 0, 1) := by decide +kernel
theorem dX0_discover_147 : decode cX0_discover 147 = .ok (.getfield 33, 3) := by decide +kernel
theorem dX0_discover_150 : decode cX0_discover 150 = .ok (.getfield 92, 3) := by decide +kernel
theorem dX0_discover_153 : decode cX0_discover 153 = .ok (.ireturn, 1) := by decide +kernel
def w_At_discover_137 (C : zC) (n0 : Nat) (Q : Int32 → zS → Prop)  (a0 : Nat) (κ : zS) : Prop :=
  ∀ _ : zT κ a0 = 3,
  zRun C 3 mAt_survey [.ref a0] κ (oV (fun κ1 =>
    ∀ _ : zW C n0 κ1,
    ∀ _ : zM (zn κ) κ κ1,
    ∀ κ4, κ4 = ui κ1 atExplored a0 (1 : Int32) →
    ∀ _ : zW C n0 κ4,
    Q (zI κ4 hoTotal (zR κ4 atStates a0)) κ4) noX)
theorem t_At_discover_137 {C : zC} {n0 : Nat} {Q : Int32 → zS → Prop}   {a0 : Nat} {κ : zS} (W : zW C n0 κ) (Ta0 : zT κ a0 = 3) (F : w_At_discover_137 C n0 Q  a0 κ) : zG C n0 6 mAt_discover 137 [some (.ref a0), none, none, none] [] κ (oI Q noX) := by
  unfold w_At_discover_137 at F
  refine y_aln dX0_discover_137 rfl ?_
  replace F := F Ta0
  refine k_X0_160 W dX0_discover_138 rfl (Nat.le_of_ble_eq_true rfl) (Nat.le_of_ble_eq_true rfl) (Or.inl Ta0) F (fun  κ1 Wκ1 Mκ1 F => ?_) (fun _ _ h9 => False.elim h9)
  replace F := F Wκ1 Mκ1
  refine y_aln dX0_discover_141 rfl ?_
  refine y_ic dX0_discover_142 zi_1 ?_
  have h5 := (ztm W Mκ1 Ta0)
  refine pf_X0_88 Wκ1 dX0_discover_143 rfl (nb_nar nb_1) (Or.inl h5) (fun κ4 eκ4 => ?_)
  replace F := F κ4 eκ4
  have Wκ4 : zW C n0 κ4 := zW_ui Wκ1 eκ4 (fun _ => nb_1)
  have Mκ4 : zM (zn κ1) κ1 κ4 := by rw [eκ4]; exact zM.of rfl rfl rfl
  replace F := F Wκ4
  refine y_aln dX0_discover_146 rfl ?_
  have h6 := (ztm Wκ1 Mκ4 h5)
  refine gf_X0_33 Wκ4 dX0_discover_147 rfl h6 ?_
  refine gf_X0_92 dX0_discover_150 rfl (Or.inl (ty_atStates Wκ4 h6)) ?_
  exact y_ri Wκ4 dX0_discover_153 rfl in_nar F

def w_At_discover_104 (C : zC) (n0 : Nat) (Q : Int32 → zS → Prop)  (a0 : Nat) (a2 : Int32) (a3 : Int32) (κ : zS) : Prop :=
  ∃ I : Nat → Nat → Int32 → Int32 → zS → Prop, (∃ n, I n a0 a2 a3 κ) ∧ ∀ n a0 a2 a3 κ, zW C n0 κ → zT κ a0 = 3 → I n a0 a2 a3 κ →
    ((zI κ hoTotal (zR κ atStates a0)) ≤ a3 →
      w_At_discover_137 C n0 Q  a0 κ) ∧
    (¬ (zI κ hoTotal (zR κ atStates a0)) ≤ a3 →
      (a2 ≤ a3 →
        w_At_discover_137 C n0 Q  a0 κ) ∧
      (¬ a2 ≤ a3 →
        ∀ _ : zT κ a0 = 3,
        zRun C 5 mAt_expand [.ref a0, .int a3, .int a2] κ (oI (fun r2 κ1 =>
          ∀ _ : zW C n0 κ1,
          ∀ _ : zM (zn κ) κ κ1,
          (¬ r2 = (0 : Int32) →
            ∀ v3_4 : Int32, v3_4 = a3 + (1 : Int32) →
            ∃ k < n, I k a0 a2 v3_4 κ1) ∧
          (r2 = (0 : Int32) →
            Q (-1 : Int32) κ1)) noX)))
theorem t_At_discover_104 {C : zC} {n0 : Nat} {Q : Int32 → zS → Prop}   {a0 : Nat} {a2 : Int32} {a3 : Int32} {κ : zS} (W : zW C n0 κ) (Ta0 : zT κ a0 = 3) (F : w_At_discover_104 C n0 Q  a0 a2 a3 κ) : zG C n0 6 mAt_discover 104 [some (.ref a0), none, some (.int a2), some (.int a3)] [] κ (oI Q noX) := by
  obtain ⟨I, ⟨m0, hI0⟩, F0⟩ := F
  have key : ∀ n a0 a2 a3 κ, zW C n0 κ → zT κ a0 = 3 → I n a0 a2 a3 κ → zG C n0 6 mAt_discover 104 [some (.ref a0), none, some (.int a2), some (.int a3)] [] κ (oI Q noX) := by
    intro n
    induction n using Nat.strongRecOn with
    | _ n ih =>
      intro a0 a2 a3 κ W Ta0 hI
      have F := F0 n a0 a2 a3 κ W Ta0 hI
      clear hI hI0
      refine y_iln dX0_discover_104 rfl ?_
      refine y_aln dX0_discover_105 rfl ?_
      refine gf_X0_33 W dX0_discover_106 rfl Ta0 ?_
      refine gf_X0_92 dX0_discover_109 rfl (Or.inl (ty_atStates W Ta0)) ?_
      refine y_ii ((zI κ hoTotal (zR κ atStates a0)) ≤ a3) dX0_discover_112 (t := 137) rfl rfl (fun c9 => ?_) (fun c9 => ?_)
      · replace F := F.1 c9
        exact y_k (t_At_discover_137  W Ta0 F) ⟨rfl, trivial⟩
      · replace F := F.2 c9
        refine y_iln dX0_discover_115 rfl ?_
        refine y_iln dX0_discover_116 rfl ?_
        refine y_ii (a2 ≤ a3) dX0_discover_117 (t := 137) rfl rfl (fun c9 => ?_) (fun c9 => ?_)
        · replace F := F.1 c9
          exact y_k (t_At_discover_137  W Ta0 F) ⟨rfl, trivial⟩
        · replace F := F.2 c9
          refine y_aln dX0_discover_120 rfl ?_
          refine y_iln dX0_discover_121 rfl ?_
          refine y_iln dX0_discover_122 rfl ?_
          replace F := F Ta0
          refine k_X0_156 W dX0_discover_123 rfl (Nat.le_of_ble_eq_true rfl) (Nat.le_of_ble_eq_true rfl) (Or.inl Ta0) F (fun r2 κ1 Wκ1 Mκ1 F => ?_) (fun _ _ h9 => False.elim h9)
          replace F := F Wκ1 Mκ1
          refine y_in (r2 = (0 : Int32)) dX0_discover_126 (t := 131) rfl rfl (fun c9 => ?_) (fun c9 => ?_)
          · replace F := F.1 c9
            refine y_incb dX0_discover_131 zi_1 rfl (Nat.le_of_ble_eq_true rfl) (fun v3_4 ev3_4 => ?_)
            replace F := F v3_4 ev3_4
            refine y_goto dX0_discover_134 (t := 104) rfl ?_
            have h5 := (ztm W Mκ1 Ta0)
            obtain ⟨k, hk, hI⟩ := F
            exact y_k (ih k hk _ _ _ _ Wκ1 h5 hI) ⟨rfl, rfl, rfl, trivial⟩
          · replace F := F.2 c9
            refine y_ic dX0_discover_129 zi_m1 ?_
            exact y_ri Wκ1 dX0_discover_130 rfl in_nar F
  exact key m0 a0 a2 a3 κ W Ta0 hI0

def w_At_discover_0 (C : zC) (n0 : Nat) (Q : Int32 → zS → Prop)  (a0 : Nat) (a1 : Nat) (a2 : Int32) (κ : zS) : Prop :=
  ∀ κ1, κ1 = ui κ atExplored a0 (0 : Int32) →
  ∀ _ : zW C n0 κ1,
  ∀ κ2, κ2 = ur κ1 atCode a0 a1 →
  ∀ _ : zW C n0 κ2,
  ∀ _ : zT κ2 a0 = 3,
  zRun C 2 mAt_clear [.ref a0] κ2 (oV (fun κ5 =>
    ∀ _ : zW C n0 κ5,
    ∀ _ : zM (zn κ2) κ2 κ5,
    ∀ _ : zT κ5 (zR κ5 atMachine a0) = 7,
    ∀ _ : zT κ5 a1 = 5,
    zRun C 2 mMa_begin [.ref (zR κ5 atMachine a0), .ref a1] κ5 (oV (fun κ10 =>
      ∀ _ : zW C n0 κ10,
      ∀ _ : zM (zn κ5) κ5 κ10,
      (¬ (zI κ10 maOutcome (zR κ10 atMachine a0)) = (1 : Int32) →
        ∀ _ : zT κ10 (zR κ10 atMachine a0) = 7,
        zRun C 0 mMa_length [.ref (zR κ10 atMachine a0)] κ10 (oI (fun r16 κ15 =>
          ∀ _ : zW C n0 κ15,
          ∀ _ : zM (zn κ10) κ10 κ15,
          ∀ _ : zT κ15 (zR κ10 atStates a0) = 6,
          ∀ _ : zT κ15 (zR κ10 maMemory (zR κ10 atMachine a0)) = 20,
          zRun C 2 mHo_enter [.ref (zR κ10 atStates a0), .ref (zR κ10 maMemory (zR κ10 atMachine a0)), .int r16, .int a2] κ15 (oI (fun r19 κ18 =>
            ∀ _ : zW C n0 κ18,
            ∀ _ : zM (zn κ15) κ15 κ18,
            w_At_discover_104 C n0 Q  a0 a2 (0 : Int32) κ18) noX)) noX)) ∧
      ((zI κ10 maOutcome (zR κ10 atMachine a0)) = (1 : Int32) →
        inb (zI κ10 maShared (zR κ10 atMachine a0)) (zN κ10 (zR κ10 maMemory (zR κ10 atMachine a0))) ∧
        ∀ κ24, κ24 = ua κ10 (zR κ10 maMemory (zR κ10 atMachine a0)) ((zI κ10 maShared (zR κ10 atMachine a0))).toNatClampNeg (0 : Int32) →
        ∀ _ : zW C n0 κ24,
        ∀ _ : zT κ24 (zR κ24 atEndings a0) = 6,
        ∀ _ : zT κ24 (zR κ24 maMemory (zR κ24 atMachine a0)) = 20,
        zRun C 2 mHo_enter [.ref (zR κ24 atEndings a0), .ref (zR κ24 maMemory (zR κ24 atMachine a0)), .int ((zI κ24 maShared (zR κ24 atMachine a0)) + (1 : Int32)), .int (1000 : Int32)] κ24 (oI (fun r27 κ26 =>
          ∀ _ : zW C n0 κ26,
          ∀ _ : zM (zn κ24) κ24 κ26,
          w_At_discover_104 C n0 Q  a0 a2 (0 : Int32) κ26) noX))) noX)) noX)
theorem t_At_discover_0 {C : zC} {n0 : Nat} {Q : Int32 → zS → Prop}   {a0 : Nat} {a1 : Nat} {a2 : Int32} {κ : zS} (W : zW C n0 κ) (Ta0 : zT κ a0 = 3) (Ta1 : zT κ a1 = 5) (F : w_At_discover_0 C n0 Q  a0 a1 a2 κ) : zG C n0 6 mAt_discover 0 [some (.ref a0), some (.ref a1), some (.int a2), none] [] κ (oI Q noX) := by
  unfold w_At_discover_0 at F
  refine y_aln dX0_discover_0 rfl ?_
  refine y_ic dX0_discover_1 zi_0 ?_
  refine pf_X0_88 W dX0_discover_2 rfl (nb_nar nb_0) (Or.inl Ta0) (fun κ1 eκ1 => ?_)
  replace F := F κ1 eκ1
  have Wκ1 : zW C n0 κ1 := zW_ui W eκ1 (fun _ => nb_0)
  have Mκ1 : zM (zn κ) κ κ1 := by rw [eκ1]; exact zM.of rfl rfl rfl
  replace F := F Wκ1
  refine y_aln dX0_discover_5 rfl ?_
  refine y_aln dX0_discover_6 rfl ?_
  have h3 := (ztm W Mκ1 Ta1)
  have h4 := (ztm W Mκ1 Ta0)
  refine pf_X0_15 Wκ1 dX0_discover_7 rfl (Or.inl h4) h3 (fun κ2 eκ2 => ?_)
  replace F := F κ2 eκ2
  have Wκ2 : zW C n0 κ2 := zW_ur Wκ1 eκ2 (fun t ht => by cases ht; exact ⟨by decide, h3⟩)
  have Mκ2 : zM (zn κ1) κ1 κ2 := by rw [eκ2]; exact zM.of rfl rfl rfl
  replace F := F Wκ2
  refine y_aln dX0_discover_10 rfl ?_
  have h7 := (ztm Wκ1 Mκ2 h4)
  replace F := F h7
  refine k_X0_142 Wκ2 dX0_discover_11 rfl (Nat.le_of_ble_eq_true rfl) (Nat.le_of_ble_eq_true rfl) (Or.inl h7) F (fun  κ5 Wκ5 Mκ5 F => ?_) (fun _ _ h9 => False.elim h9)
  replace F := F Wκ5 Mκ5
  refine y_aln dX0_discover_14 rfl ?_
  have h9 := (ztm Wκ2 Mκ5 h7)
  refine gf_X0_9 Wκ5 dX0_discover_15 rfl h9 ?_
  refine y_aln dX0_discover_18 rfl ?_
  replace F := F (ty_atMachine Wκ5 h9)
  have h12 := (ztm Wκ2 Mκ5 (ztm Wκ1 Mκ2 h3))
  replace F := F h12
  refine k_X0_143 Wκ5 dX0_discover_19 rfl (Nat.le_of_ble_eq_true rfl) (Nat.le_of_ble_eq_true rfl) (Or.inl (ty_atMachine Wκ5 h9)) F (fun  κ10 Wκ10 Mκ10 F => ?_) (fun _ _ h9 => False.elim h9)
  replace F := F Wκ10 Mκ10
  refine y_aln dX0_discover_22 rfl ?_
  have h14 := (ztm Wκ5 Mκ10 h9)
  refine gf_X0_9 Wκ10 dX0_discover_23 rfl h14 ?_
  refine gf_X0_147 dX0_discover_26 rfl (Or.inl (ty_atMachine Wκ10 h14)) ?_
  refine y_ic dX0_discover_29 zi_1 ?_
  refine y_iin ((zI κ10 maOutcome (zR κ10 atMachine a0)) = (1 : Int32)) dX0_discover_30 (t := 79) rfl rfl (fun c9 => ?_) (fun c9 => ?_)
  · replace F := F.1 c9
    refine y_aln dX0_discover_79 rfl ?_
    refine gf_X0_33 Wκ10 dX0_discover_80 rfl h14 ?_
    refine y_aln dX0_discover_83 rfl ?_
    refine gf_X0_9 Wκ10 dX0_discover_84 rfl h14 ?_
    refine gf_X0_125 Wκ10 dX0_discover_87 rfl (ty_atMachine Wκ10 h14) ?_
    refine y_aln dX0_discover_90 rfl ?_
    refine gf_X0_9 Wκ10 dX0_discover_91 rfl h14 ?_
    replace F := F (ty_atMachine Wκ10 h14)
    refine k_X0_128 Wκ10 dX0_discover_94 rfl (Nat.le_of_ble_eq_true rfl) (Nat.le_of_ble_eq_true rfl) (Or.inl (ty_atMachine Wκ10 h14)) F (fun r16 κ15 Wκ15 Mκ15 F => ?_) (fun _ _ h9 => False.elim h9)
    replace F := F Wκ15 Mκ15
    refine y_iln dX0_discover_97 rfl ?_
    have h20 := (ztm Wκ10 Mκ15 (ty_atStates Wκ10 h14))
    replace F := F h20
    have h21 := (ztm Wκ10 Mκ15 (ty_maMemory Wκ10 (ty_atMachine Wκ10 h14)))
    replace F := F h21
    refine k_X0_152 Wκ15 dX0_discover_98 rfl (Nat.le_of_ble_eq_true rfl) (Nat.le_of_ble_eq_true rfl) (Or.inl h20) F (fun r19 κ18 Wκ18 Mκ18 F => ?_) (fun _ _ h9 => False.elim h9)
    replace F := F Wκ18 Mκ18
    refine y_pop dX0_discover_101 rfl ?_
    refine y_ic dX0_discover_102 zi_0 ?_
    refine y_isn dX0_discover_103 (Nat.le_of_ble_eq_true rfl) rfl ?_
    have h23 := (ztm Wκ15 Mκ18 (ztm Wκ10 Mκ15 h14))
    exact y_k (t_At_discover_104  Wκ18 h23 F) ⟨rfl, rfl, rfl, trivial⟩
  · replace F := F.2 c9
    refine y_aln dX0_discover_33 rfl ?_
    refine gf_X0_9 Wκ10 dX0_discover_34 rfl h14 ?_
    refine gf_X0_125 Wκ10 dX0_discover_37 rfl (ty_atMachine Wκ10 h14) ?_
    refine y_aln dX0_discover_40 rfl ?_
    refine gf_X0_9 Wκ10 dX0_discover_41 rfl h14 ?_
    refine gf_X0_150 dX0_discover_44 rfl (Or.inl (ty_atMachine Wκ10 h14)) ?_
    refine y_ic dX0_discover_47 zi_0 ?_
    refine y_ast Wκ10 dX0_discover_48 (ty_maMemory Wκ10 (ty_atMachine Wκ10 h14)) F.1 (fun κ24 eκ24 => ?_)
    replace F := F.2 κ24 eκ24
    have Wκ24 : zW C n0 κ24 := zW_ua Wκ10 eκ24 (fun h => absurd (h.symm.trans (ty_maMemory Wκ10 (ty_atMachine Wκ10 h14))) (by decide)) (fun h => absurd (h.symm.trans (ty_maMemory Wκ10 (ty_atMachine Wκ10 h14))) (by decide))
    have Mκ24 : zM (zn κ10) κ10 κ24 := by rw [eκ24]; exact zM.of rfl rfl rfl
    replace F := F Wκ24
    refine y_aln dX0_discover_49 rfl ?_
    have h25 := (ztm Wκ10 Mκ24 h14)
    refine gf_X0_37 Wκ24 dX0_discover_50 rfl h25 ?_
    refine y_aln dX0_discover_53 rfl ?_
    refine gf_X0_9 Wκ24 dX0_discover_54 rfl h25 ?_
    refine gf_X0_125 Wκ24 dX0_discover_57 rfl (ty_atMachine Wκ24 h25) ?_
    refine y_aln dX0_discover_60 rfl ?_
    refine gf_X0_9 Wκ24 dX0_discover_61 rfl h25 ?_
    refine gf_X0_150 dX0_discover_64 rfl (Or.inl (ty_atMachine Wκ24 h25)) ?_
    refine y_ic dX0_discover_67 zi_1 ?_
    refine y_iadd dX0_discover_68 ?_
    refine y_si dX0_discover_69 zs_1000 ?_
    replace F := F (ty_atEndings Wκ24 h25)
    replace F := F (ty_maMemory Wκ24 (ty_atMachine Wκ24 h25))
    refine k_X0_152 Wκ24 dX0_discover_72 rfl (Nat.le_of_ble_eq_true rfl) (Nat.le_of_ble_eq_true rfl) (Or.inl (ty_atEndings Wκ24 h25)) F (fun r27 κ26 Wκ26 Mκ26 F => ?_) (fun _ _ h9 => False.elim h9)
    replace F := F Wκ26 Mκ26
    refine y_pop dX0_discover_75 rfl ?_
    refine y_goto dX0_discover_76 (t := 102) rfl ?_
    refine y_ic dX0_discover_102 zi_0 ?_
    refine y_isn dX0_discover_103 (Nat.le_of_ble_eq_true rfl) rfl ?_
    have h29 := (ztm Wκ24 Mκ26 h25)
    exact y_k (t_At_discover_104  Wκ26 h29 F) ⟨rfl, rfl, rfl, trivial⟩

theorem At_discover_run {C : zC} {n0 : Nat} {Q : Int32 → zS → Prop} {a0 : Nat} {a1 : Nat} {a2 : Int32} {κ : zS} (W : zW C n0 κ) (Ta0 : zT κ a0 = 3) (Ta1 : zT κ a1 = 5) (F : w_At_discover_0 C (zn κ) Q a0 a1 a2 κ) : zRun C 6 mAt_discover [.ref a0, .ref a1, .int a2] κ (oI Q noX) := z_run (m_ent _ 1) (t_At_discover_0 (W.lo (Nat.le_trans W.1.2.1 W.1.2.2) (Nat.le_refl _)) Ta0 Ta1 F)

theorem dX5_init_0 : decode cX5_init 0 = .ok (.aload_n 0, 1) := by decide +kernel
theorem dX5_init_1 : decode cX5_init 1 = .ok (.invokespecial 1, 3) := by decide +kernel
theorem dX5_init_4 : decode cX5_init 4 = .ok (.aload_n 0, 1) := by decide +kernel
theorem dX5_init_5 : decode cX5_init 5 = .ok (.iload_n 1, 1) := by decide +kernel
theorem dX5_init_6 : decode cX5_init 6 = .ok (.iconst 2, 1) := by decide +kernel
theorem dX5_init_7 : decode cX5_init 7 = .ok (.invokestatic 7, 3) := by decide +kernel
theorem dX5_init_10 : decode cX5_init 10 = .ok (.newarray .int, 2) := by decide +kernel
theorem dX5_init_12 : decode cX5_init 12 = .ok (.putfield 13, 3) := by decide +kernel
theorem dX5_init_15 : decode cX5_init 15 = .ok (.return_, 1) := by decide +kernel
def w_Nu_init_0 (C : zC) (n0 : Nat) (Q : zS → Prop)  (a0 : Nat) (a1 : Int32) (κ : zS) : Prop :=
  nsz (if a1 < (2 : Int32) then (2 : Int32) else a1) ∧
  ∀ κ1, κ1 = na κ 20 ((if a1 < (2 : Int32) then (2 : Int32) else a1)).toNatClampNeg →
  ∀ _ : zW C n0 κ1,
  zO κ1 (zn κ) = (0, 0) ∧
  ∀ κ4, κ4 = uo κ1 nuLimbs a0 (zn κ) →
  ∀ _ : zW C n0 κ4,
  Q κ4
theorem t_Nu_init_0 {C : zC} {n0 : Nat} {Q : zS → Prop}   {a0 : Nat} {a1 : Int32} {κ : zS} (W : zW C n0 κ) (Ta0 : zT κ a0 = 48) (F : w_Nu_init_0 C n0 Q  a0 a1 κ) : zG C n0 1 mNu_init 0 [some (.ref a0), some (.int a1)] [] κ (oV Q noX) := by
  unfold w_Nu_init_0 at F
  refine y_aln dX5_init_0 rfl ?_
  refine y_oinit dX5_init_1 rfl zbi_X5_1 (Nat.le_of_ble_eq_true rfl) (Nat.le_of_ble_eq_true rfl) ?_
  refine y_aln dX5_init_4 rfl ?_
  refine y_iln dX5_init_5 rfl ?_
  refine y_ic dX5_init_6 zi_2 ?_
  refine y_max dX5_init_7 rfl zbi_X5_7 (Nat.le_of_ble_eq_true rfl) (Nat.le_of_ble_eq_true rfl) ?_
  have b2 := F.1
  refine y_newa (t := 0) W dX5_init_10 (by decide) b2 (fun κ1 eκ1 => ?_)
  replace F := F.2 κ1 eκ1
  have Wκ1 : zW C n0 κ1 := zW_na W eκ1 (by decide) (by decide) b2.2
  have Mκ1 : zM (zn κ) κ κ1 := zM_na (W.lo (Nat.le_trans W.1.2.1 W.1.2.2) (Nat.le_refl _)) eκ1
  replace F := F Wκ1
  have g3 : zT κ1 (zn κ) = 20 := by rw [eκ1]; exact if_pos rfl
  have b5 := F.1
  replace F := F.2
  have h6 := (ztm W Mκ1 Ta0)
  refine pf_X5_13 Wκ1 dX5_init_12 rfl (Or.inr h6) g3 (fun κ4 eκ4 => ?_)
  replace F := F κ4 eκ4
  have Wκ4 : zW C n0 κ4 := zW_uo Wκ1 eκ4 (fun t ht => by cases ht; exact g3) b5
  have Mκ4 : zM (zn κ1) κ1 κ4 := by rw [eκ4]; exact zM.of rfl rfl rfl
  replace F := F Wκ4
  exact y_rv Wκ4 dX5_init_15 rfl F

theorem Nu_init_run {C : zC} {n0 : Nat} {Q : zS → Prop} {a0 : Nat} {a1 : Int32} {κ : zS} (W : zW C n0 κ) (Ta0 : zT κ a0 = 48) (F : w_Nu_init_0 C (zn κ) Q a0 a1 κ) : zRun C 1 mNu_init [.ref a0, .int a1] κ (oV Q noX) := z_run (m_ent _ 0) (t_Nu_init_0 (W.lo (Nat.le_trans W.1.2.1 W.1.2.2) (Nat.le_refl _)) Ta0 F)

theorem dX1_init_0 : decode cX1_init 0 = .ok (.aload_n 0, 1) := by decide +kernel
theorem dX1_init_1 : decode cX1_init 1 = .ok (.invokespecial 1, 3) := by decide +kernel
theorem dX1_init_4 : decode cX1_init 4 = .ok (.aload_n 0, 1) := by decide +kernel
theorem dX1_init_5 : decode cX1_init 5 = .ok (.iconst 4, 1) := by decide +kernel
theorem dX1_init_6 : decode cX1_init 6 = .ok (.newarray .long, 2) := by decide +kernel
theorem dX1_init_8 : decode cX1_init 8 = .ok (.putfield 7, 3) := by decide +kernel
theorem dX1_init_11 : decode cX1_init 11 = .ok (.aload_n 0, 1) := by decide +kernel
theorem dX1_init_12 : decode cX1_init 12 = .ok (.new 13, 3) := by decide +kernel
theorem dX1_init_15 : decode cX1_init 15 = .ok (.dup, 1) := by decide +kernel
theorem dX1_init_16 : decode cX1_init 16 = .ok (.bipush 8, 2) := by decide +kernel
theorem dX1_init_18 : decode cX1_init 18 = .ok (.invokespecial 15, 3) := by decide +kernel
theorem dX1_init_21 : decode cX1_init 21 = .ok (.putfield 18, 3) := by decide +kernel
theorem dX1_init_24 : decode cX1_init 24 = .ok (.aload_n 0, 1) := by decide +kernel
theorem dX1_init_25 : decode cX1_init 25 = .ok (.new 13, 3) := by decide +kernel
theorem dX1_init_28 : decode cX1_init 28 = .ok (.dup, 1) := by decide +kernel
theorem dX1_init_29 : decode cX1_init 29 = .ok (.bipush 8, 2) := by decide +kernel
theorem dX1_init_31 : decode cX1_init 31 = .ok (.invokespecial 15, 3) := by decide +kernel
theorem dX1_init_34 : decode cX1_init 34 = .ok (.putfield 22, 3) := by decide +kernel
theorem dX1_init_37 : decode cX1_init 37 = .ok (.aload_n 0, 1) := by decide +kernel
theorem dX1_init_38 : decode cX1_init 38 = .ok (.new 13, 3) := by decide +kernel
theorem dX1_init_41 : decode cX1_init 41 = .ok (.dup, 1) := by decide +kernel
theorem dX1_init_42 : decode cX1_init 42 = .ok (.bipush 8, 2) := by decide +kernel
theorem dX1_init_44 : decode cX1_init 44 = .ok (.invokespecial 15, 3) := by decide +kernel
theorem dX1_init_47 : decode cX1_init 47 = .ok (.putfield 25, 3) := by decide +kernel
theorem dX1_init_50 : decode cX1_init 50 = .ok (.aload_n 0, 1) := by decide +kernel
theorem dX1_init_51 : decode cX1_init 51 = .ok (.new 13, 3) := by decide +kernel
theorem dX1_init_54 : decode cX1_init 54 = .ok (.dup, 1) := by decide +kernel
theorem dX1_init_55 : decode cX1_init 55 = .ok (.bipush 8, 2) := by decide +kernel
theorem dX1_init_57 : decode cX1_init 57 = .ok (.invokespecial 15, 3) := by decide +kernel
theorem dX1_init_60 : decode cX1_init 60 = .ok (.putfield 28, 3) := by decide +kernel
theorem dX1_init_63 : decode cX1_init 63 = .ok (.aload_n 0, 1) := by decide +kernel
theorem dX1_init_64 : decode cX1_init 64 = .ok (.new 13, 3) := by decide +kernel
theorem dX1_init_67 : decode cX1_init 67 = .ok (.dup, 1) := by decide +kernel
theorem dX1_init_68 : decode cX1_init 68 = .ok (.bipush 8, 2) := by decide +kernel
theorem dX1_init_70 : decode cX1_init 70 = .ok (.invokespecial 15, 3) := by decide +kernel
theorem dX1_init_73 : decode cX1_init 73 = .ok (.putfield 31, 3) := by decide +kernel
theorem dX1_init_76 : decode cX1_init 76 = .ok (.aload_n 0, 1) := by decide +kernel
theorem dX1_init_77 : decode cX1_init 77 = .ok (.new 13, 3) := by decide +kernel
theorem dX1_init_80 : decode cX1_init 80 = .ok (.dup, 1) := by decide +kernel
theorem dX1_init_81 : decode cX1_init 81 = .ok (.bipush 8, 2) := by decide +kernel
theorem dX1_init_83 : decode cX1_init 83 = .ok (.invokespecial 15, 3) := by decide +kernel
theorem dX1_init_86 : decode cX1_init 86 = .ok (.putfield 34, 3) := by decide +kernel
theorem dX1_init_89 : decode cX1_init 89 = .ok (.return_, 1) := by decide +kernel
def w_Ca_init_0 (C : zC) (n0 : Nat) (Q : zS → Prop)  (a0 : Nat) (κ : zS) : Prop :=
  nsz (4 : Int32) ∧
  ∀ κ1, κ1 = na κ 22 ((4 : Int32)).toNatClampNeg →
  ∀ _ : zW C n0 κ1,
  zO κ1 (zn κ) = (0, 0) ∧
  ∀ κ4, κ4 = uo κ1 caFactors a0 (zn κ) →
  ∀ _ : zW C n0 κ4,
  ∀ κ7, κ7 = noo κ4 8 →
  ∀ _ : zW C n0 κ7,
  ∀ _ : zT κ7 (zn κ4) = 48,
  zRun C 1 mNu_init [.ref (zn κ4), .int (8 : Int32)] κ7 (oV (fun κ9 =>
    ∀ _ : zW C n0 κ9,
    ∀ _ : zM (zn κ7) κ7 κ9,
    zOk κ9 (zn κ4) 8 ∧
    ∀ κ12, κ12 = nff κ9 (zn κ4) →
    ∀ _ : zW C n0 κ12,
    ∀ κ14, κ14 = ur κ12 caQuotient a0 (zn κ4) →
    ∀ _ : zW C n0 κ14,
    ∀ κ16, κ16 = noo κ14 8 →
    ∀ _ : zW C n0 κ16,
    ∀ _ : zT κ16 (zn κ14) = 48,
    zRun C 1 mNu_init [.ref (zn κ14), .int (8 : Int32)] κ16 (oV (fun κ18 =>
      ∀ _ : zW C n0 κ18,
      ∀ _ : zM (zn κ16) κ16 κ18,
      zOk κ18 (zn κ14) 8 ∧
      ∀ κ21, κ21 = nff κ18 (zn κ14) →
      ∀ _ : zW C n0 κ21,
      ∀ κ23, κ23 = ur κ21 caRest a0 (zn κ14) →
      ∀ _ : zW C n0 κ23,
      ∀ κ25, κ25 = noo κ23 8 →
      ∀ _ : zW C n0 κ25,
      ∀ _ : zT κ25 (zn κ23) = 48,
      zRun C 1 mNu_init [.ref (zn κ23), .int (8 : Int32)] κ25 (oV (fun κ27 =>
        ∀ _ : zW C n0 κ27,
        ∀ _ : zM (zn κ25) κ25 κ27,
        zOk κ27 (zn κ23) 8 ∧
        ∀ κ30, κ30 = nff κ27 (zn κ23) →
        ∀ _ : zW C n0 κ30,
        ∀ κ32, κ32 = ur κ30 caDivisor a0 (zn κ23) →
        ∀ _ : zW C n0 κ32,
        ∀ κ34, κ34 = noo κ32 8 →
        ∀ _ : zW C n0 κ34,
        ∀ _ : zT κ34 (zn κ32) = 48,
        zRun C 1 mNu_init [.ref (zn κ32), .int (8 : Int32)] κ34 (oV (fun κ36 =>
          ∀ _ : zW C n0 κ36,
          ∀ _ : zM (zn κ34) κ34 κ36,
          zOk κ36 (zn κ32) 8 ∧
          ∀ κ39, κ39 = nff κ36 (zn κ32) →
          ∀ _ : zW C n0 κ39,
          ∀ κ41, κ41 = ur κ39 caX a0 (zn κ32) →
          ∀ _ : zW C n0 κ41,
          ∀ κ43, κ43 = noo κ41 8 →
          ∀ _ : zW C n0 κ43,
          ∀ _ : zT κ43 (zn κ41) = 48,
          zRun C 1 mNu_init [.ref (zn κ41), .int (8 : Int32)] κ43 (oV (fun κ45 =>
            ∀ _ : zW C n0 κ45,
            ∀ _ : zM (zn κ43) κ43 κ45,
            zOk κ45 (zn κ41) 8 ∧
            ∀ κ48, κ48 = nff κ45 (zn κ41) →
            ∀ _ : zW C n0 κ48,
            ∀ κ50, κ50 = ur κ48 caY a0 (zn κ41) →
            ∀ _ : zW C n0 κ50,
            ∀ κ52, κ52 = noo κ50 8 →
            ∀ _ : zW C n0 κ52,
            ∀ _ : zT κ52 (zn κ50) = 48,
            zRun C 1 mNu_init [.ref (zn κ50), .int (8 : Int32)] κ52 (oV (fun κ54 =>
              ∀ _ : zW C n0 κ54,
              ∀ _ : zM (zn κ52) κ52 κ54,
              zOk κ54 (zn κ50) 8 ∧
              ∀ κ57, κ57 = nff κ54 (zn κ50) →
              ∀ _ : zW C n0 κ57,
              ∀ κ59, κ59 = ur κ57 caSpare a0 (zn κ50) →
              ∀ _ : zW C n0 κ59,
              Q κ59) noX)) noX)) noX)) noX)) noX)) noX)
theorem t_Ca_init_0 {C : zC} {n0 : Nat} {Q : zS → Prop}   {a0 : Nat} {κ : zS} (W : zW C n0 κ) (Ta0 : zT κ a0 = 44) (F : w_Ca_init_0 C n0 Q  a0 κ) : zG C n0 2 mCa_init 0 [some (.ref a0)] [] κ (oV Q noX) := by
  unfold w_Ca_init_0 at F
  refine y_aln dX1_init_0 rfl ?_
  refine y_oinit dX1_init_1 rfl zbi_X1_1 (Nat.le_of_ble_eq_true rfl) (Nat.le_of_ble_eq_true rfl) ?_
  refine y_aln dX1_init_4 rfl ?_
  refine y_ic dX1_init_5 zi_4 ?_
  have b2 := F.1
  refine y_newa (t := 2) W dX1_init_6 (by decide) b2 (fun κ1 eκ1 => ?_)
  replace F := F.2 κ1 eκ1
  have Wκ1 : zW C n0 κ1 := zW_na W eκ1 (by decide) (by decide) b2.2
  have Mκ1 : zM (zn κ) κ κ1 := zM_na (W.lo (Nat.le_trans W.1.2.1 W.1.2.2) (Nat.le_refl _)) eκ1
  replace F := F Wκ1
  have g3 : zT κ1 (zn κ) = 22 := by rw [eκ1]; exact if_pos rfl
  have b5 := F.1
  replace F := F.2
  have h6 := (ztm W Mκ1 Ta0)
  refine pf_X1_7 Wκ1 dX1_init_8 rfl rfl (Or.inr h6) g3 (fun κ4 eκ4 => ?_)
  replace F := F κ4 eκ4
  have Wκ4 : zW C n0 κ4 := zW_uo Wκ1 eκ4 (fun t ht => by cases ht; exact g3) b5
  have Mκ4 : zM (zn κ1) κ1 κ4 := by rw [eκ4]; exact zM.of rfl rfl rfl
  replace F := F Wκ4
  refine y_aln dX1_init_11 rfl ?_
  refine y_newo Wκ4 dX1_init_12 rfl znw_X1_13 znx_X1_13 (by decide) (fun κ7 eκ7 => ?_)
  replace F := F κ7 eκ7
  have Wκ7 : zW C n0 κ7 := zW_no Wκ4 eκ7
  have Mκ7 : zM (zn κ4) κ4 κ7 := zM_no (Wκ4.lo (Nat.le_trans Wκ4.1.2.1 Wκ4.1.2.2) (Nat.le_refl _)) eκ7
  replace F := F Wκ7
  have g8 : zT κ7 (zn κ4) = 48 := by rw [eκ7]; exact if_pos rfl
  refine y_dup dX1_init_15 rfl ?_
  refine y_bi1 dX1_init_16 zb_8 ?_
  replace F := F g8
  refine k_X1_15 Wκ7 dX1_init_18 rfl (Nat.le_of_ble_eq_true rfl) (Nat.le_of_ble_eq_true rfl)  F (fun  κ9 Wκ9 Mκ9 F => ?_) (fun _ _ h9 => False.elim h9)
  replace F := F Wκ9 Mκ9
  have h13 := (ztm Wκ7 Mκ9 g8)
  have Rκ12 := h13
  refine y_flip (ci := 8) Rκ12 (by decide) (Nat.le_trans Wκ4.1.2.2 (Nat.le_refl _)) (fun κ12 eκ12 => ?_)
  have Wκ12 : zW C n0 κ12 := zW_nf Wκ9 eκ12 Rκ12 (by decide) (by decide) F.1
  replace F := F.2 κ12 eκ12 Wκ12
  have Gκ12 : zT κ12 (zn κ4) = 8 := zth eκ12 Rκ12 (by decide)
  have h15 := (ztg eκ12 (Wκ4.nw (ztm Wκ1 Mκ4 h6)) (ztm Wκ7 Mκ9 (ztm Wκ4 Mκ7 (ztm Wκ1 Mκ4 h6))))
  refine pf_X1_18 Wκ12 dX1_init_21 rfl rfl (Or.inr h15) Gκ12 (fun κ14 eκ14 => ?_)
  replace F := F κ14 eκ14
  have Wκ14 : zW C n0 κ14 := zW_ur Wκ12 eκ14 (fun t ht => by cases ht; exact ⟨by decide, Gκ12⟩)
  have Mκ14 : zM (zn κ12) κ12 κ14 := by rw [eκ14]; exact zM.of rfl rfl rfl
  replace F := F Wκ14
  refine y_aln dX1_init_24 rfl ?_
  refine y_newo Wκ14 dX1_init_25 rfl znw_X1_13 znx_X1_13 (by decide) (fun κ16 eκ16 => ?_)
  replace F := F κ16 eκ16
  have Wκ16 : zW C n0 κ16 := zW_no Wκ14 eκ16
  have Mκ16 : zM (zn κ14) κ14 κ16 := zM_no (Wκ14.lo (Nat.le_trans Wκ14.1.2.1 Wκ14.1.2.2) (Nat.le_refl _)) eκ16
  replace F := F Wκ16
  have g17 : zT κ16 (zn κ14) = 48 := by rw [eκ16]; exact if_pos rfl
  refine y_dup dX1_init_28 rfl ?_
  refine y_bi1 dX1_init_29 zb_8 ?_
  replace F := F g17
  refine k_X1_15 Wκ16 dX1_init_31 rfl (Nat.le_of_ble_eq_true rfl) (Nat.le_of_ble_eq_true rfl)  F (fun  κ18 Wκ18 Mκ18 F => ?_) (fun _ _ h9 => False.elim h9)
  replace F := F Wκ18 Mκ18
  have h22 := (ztm Wκ16 Mκ18 g17)
  have Rκ21 := h22
  refine y_flip (ci := 8) Rκ21 (by decide) (Nat.le_trans Wκ14.1.2.2 (Nat.le_refl _)) (fun κ21 eκ21 => ?_)
  have Wκ21 : zW C n0 κ21 := zW_nf Wκ18 eκ21 Rκ21 (by decide) (by decide) F.1
  replace F := F.2 κ21 eκ21 Wκ21
  have Gκ21 : zT κ21 (zn κ14) = 8 := zth eκ21 Rκ21 (by decide)
  have h24 := (ztg eκ21 (Wκ14.nw (ztm Wκ12 Mκ14 h15)) (ztm Wκ16 Mκ18 (ztm Wκ14 Mκ16 (ztm Wκ12 Mκ14 h15))))
  refine pf_X1_22 Wκ21 dX1_init_34 rfl (Or.inr h24) Gκ21 (fun κ23 eκ23 => ?_)
  replace F := F κ23 eκ23
  have Wκ23 : zW C n0 κ23 := zW_ur Wκ21 eκ23 (fun t ht => by cases ht; exact ⟨by decide, Gκ21⟩)
  have Mκ23 : zM (zn κ21) κ21 κ23 := by rw [eκ23]; exact zM.of rfl rfl rfl
  replace F := F Wκ23
  refine y_aln dX1_init_37 rfl ?_
  refine y_newo Wκ23 dX1_init_38 rfl znw_X1_13 znx_X1_13 (by decide) (fun κ25 eκ25 => ?_)
  replace F := F κ25 eκ25
  have Wκ25 : zW C n0 κ25 := zW_no Wκ23 eκ25
  have Mκ25 : zM (zn κ23) κ23 κ25 := zM_no (Wκ23.lo (Nat.le_trans Wκ23.1.2.1 Wκ23.1.2.2) (Nat.le_refl _)) eκ25
  replace F := F Wκ25
  have g26 : zT κ25 (zn κ23) = 48 := by rw [eκ25]; exact if_pos rfl
  refine y_dup dX1_init_41 rfl ?_
  refine y_bi1 dX1_init_42 zb_8 ?_
  replace F := F g26
  refine k_X1_15 Wκ25 dX1_init_44 rfl (Nat.le_of_ble_eq_true rfl) (Nat.le_of_ble_eq_true rfl)  F (fun  κ27 Wκ27 Mκ27 F => ?_) (fun _ _ h9 => False.elim h9)
  replace F := F Wκ27 Mκ27
  have h31 := (ztm Wκ25 Mκ27 g26)
  have Rκ30 := h31
  refine y_flip (ci := 8) Rκ30 (by decide) (Nat.le_trans Wκ23.1.2.2 (Nat.le_refl _)) (fun κ30 eκ30 => ?_)
  have Wκ30 : zW C n0 κ30 := zW_nf Wκ27 eκ30 Rκ30 (by decide) (by decide) F.1
  replace F := F.2 κ30 eκ30 Wκ30
  have Gκ30 : zT κ30 (zn κ23) = 8 := zth eκ30 Rκ30 (by decide)
  have h33 := (ztg eκ30 (Wκ23.nw (ztm Wκ21 Mκ23 h24)) (ztm Wκ25 Mκ27 (ztm Wκ23 Mκ25 (ztm Wκ21 Mκ23 h24))))
  refine pf_X1_25 Wκ30 dX1_init_47 rfl rfl (Or.inr h33) Gκ30 (fun κ32 eκ32 => ?_)
  replace F := F κ32 eκ32
  have Wκ32 : zW C n0 κ32 := zW_ur Wκ30 eκ32 (fun t ht => by cases ht; exact ⟨by decide, Gκ30⟩)
  have Mκ32 : zM (zn κ30) κ30 κ32 := by rw [eκ32]; exact zM.of rfl rfl rfl
  replace F := F Wκ32
  refine y_aln dX1_init_50 rfl ?_
  refine y_newo Wκ32 dX1_init_51 rfl znw_X1_13 znx_X1_13 (by decide) (fun κ34 eκ34 => ?_)
  replace F := F κ34 eκ34
  have Wκ34 : zW C n0 κ34 := zW_no Wκ32 eκ34
  have Mκ34 : zM (zn κ32) κ32 κ34 := zM_no (Wκ32.lo (Nat.le_trans Wκ32.1.2.1 Wκ32.1.2.2) (Nat.le_refl _)) eκ34
  replace F := F Wκ34
  have g35 : zT κ34 (zn κ32) = 48 := by rw [eκ34]; exact if_pos rfl
  refine y_dup dX1_init_54 rfl ?_
  refine y_bi1 dX1_init_55 zb_8 ?_
  replace F := F g35
  refine k_X1_15 Wκ34 dX1_init_57 rfl (Nat.le_of_ble_eq_true rfl) (Nat.le_of_ble_eq_true rfl)  F (fun  κ36 Wκ36 Mκ36 F => ?_) (fun _ _ h9 => False.elim h9)
  replace F := F Wκ36 Mκ36
  have h40 := (ztm Wκ34 Mκ36 g35)
  have Rκ39 := h40
  refine y_flip (ci := 8) Rκ39 (by decide) (Nat.le_trans Wκ32.1.2.2 (Nat.le_refl _)) (fun κ39 eκ39 => ?_)
  have Wκ39 : zW C n0 κ39 := zW_nf Wκ36 eκ39 Rκ39 (by decide) (by decide) F.1
  replace F := F.2 κ39 eκ39 Wκ39
  have Gκ39 : zT κ39 (zn κ32) = 8 := zth eκ39 Rκ39 (by decide)
  have h42 := (ztg eκ39 (Wκ32.nw (ztm Wκ30 Mκ32 h33)) (ztm Wκ34 Mκ36 (ztm Wκ32 Mκ34 (ztm Wκ30 Mκ32 h33))))
  refine pf_X1_28 Wκ39 dX1_init_60 rfl (Or.inr h42) Gκ39 (fun κ41 eκ41 => ?_)
  replace F := F κ41 eκ41
  have Wκ41 : zW C n0 κ41 := zW_ur Wκ39 eκ41 (fun t ht => by cases ht; exact ⟨by decide, Gκ39⟩)
  have Mκ41 : zM (zn κ39) κ39 κ41 := by rw [eκ41]; exact zM.of rfl rfl rfl
  replace F := F Wκ41
  refine y_aln dX1_init_63 rfl ?_
  refine y_newo Wκ41 dX1_init_64 rfl znw_X1_13 znx_X1_13 (by decide) (fun κ43 eκ43 => ?_)
  replace F := F κ43 eκ43
  have Wκ43 : zW C n0 κ43 := zW_no Wκ41 eκ43
  have Mκ43 : zM (zn κ41) κ41 κ43 := zM_no (Wκ41.lo (Nat.le_trans Wκ41.1.2.1 Wκ41.1.2.2) (Nat.le_refl _)) eκ43
  replace F := F Wκ43
  have g44 : zT κ43 (zn κ41) = 48 := by rw [eκ43]; exact if_pos rfl
  refine y_dup dX1_init_67 rfl ?_
  refine y_bi1 dX1_init_68 zb_8 ?_
  replace F := F g44
  refine k_X1_15 Wκ43 dX1_init_70 rfl (Nat.le_of_ble_eq_true rfl) (Nat.le_of_ble_eq_true rfl)  F (fun  κ45 Wκ45 Mκ45 F => ?_) (fun _ _ h9 => False.elim h9)
  replace F := F Wκ45 Mκ45
  have h49 := (ztm Wκ43 Mκ45 g44)
  have Rκ48 := h49
  refine y_flip (ci := 8) Rκ48 (by decide) (Nat.le_trans Wκ41.1.2.2 (Nat.le_refl _)) (fun κ48 eκ48 => ?_)
  have Wκ48 : zW C n0 κ48 := zW_nf Wκ45 eκ48 Rκ48 (by decide) (by decide) F.1
  replace F := F.2 κ48 eκ48 Wκ48
  have Gκ48 : zT κ48 (zn κ41) = 8 := zth eκ48 Rκ48 (by decide)
  have h51 := (ztg eκ48 (Wκ41.nw (ztm Wκ39 Mκ41 h42)) (ztm Wκ43 Mκ45 (ztm Wκ41 Mκ43 (ztm Wκ39 Mκ41 h42))))
  refine pf_X1_31 Wκ48 dX1_init_73 rfl (Or.inr h51) Gκ48 (fun κ50 eκ50 => ?_)
  replace F := F κ50 eκ50
  have Wκ50 : zW C n0 κ50 := zW_ur Wκ48 eκ50 (fun t ht => by cases ht; exact ⟨by decide, Gκ48⟩)
  have Mκ50 : zM (zn κ48) κ48 κ50 := by rw [eκ50]; exact zM.of rfl rfl rfl
  replace F := F Wκ50
  refine y_aln dX1_init_76 rfl ?_
  refine y_newo Wκ50 dX1_init_77 rfl znw_X1_13 znx_X1_13 (by decide) (fun κ52 eκ52 => ?_)
  replace F := F κ52 eκ52
  have Wκ52 : zW C n0 κ52 := zW_no Wκ50 eκ52
  have Mκ52 : zM (zn κ50) κ50 κ52 := zM_no (Wκ50.lo (Nat.le_trans Wκ50.1.2.1 Wκ50.1.2.2) (Nat.le_refl _)) eκ52
  replace F := F Wκ52
  have g53 : zT κ52 (zn κ50) = 48 := by rw [eκ52]; exact if_pos rfl
  refine y_dup dX1_init_80 rfl ?_
  refine y_bi1 dX1_init_81 zb_8 ?_
  replace F := F g53
  refine k_X1_15 Wκ52 dX1_init_83 rfl (Nat.le_of_ble_eq_true rfl) (Nat.le_of_ble_eq_true rfl)  F (fun  κ54 Wκ54 Mκ54 F => ?_) (fun _ _ h9 => False.elim h9)
  replace F := F Wκ54 Mκ54
  have h58 := (ztm Wκ52 Mκ54 g53)
  have Rκ57 := h58
  refine y_flip (ci := 8) Rκ57 (by decide) (Nat.le_trans Wκ50.1.2.2 (Nat.le_refl _)) (fun κ57 eκ57 => ?_)
  have Wκ57 : zW C n0 κ57 := zW_nf Wκ54 eκ57 Rκ57 (by decide) (by decide) F.1
  replace F := F.2 κ57 eκ57 Wκ57
  have Gκ57 : zT κ57 (zn κ50) = 8 := zth eκ57 Rκ57 (by decide)
  have h60 := (ztg eκ57 (Wκ50.nw (ztm Wκ48 Mκ50 h51)) (ztm Wκ52 Mκ54 (ztm Wκ50 Mκ52 (ztm Wκ48 Mκ50 h51))))
  refine pf_X1_34 Wκ57 dX1_init_86 rfl rfl (Or.inr h60) Gκ57 (fun κ59 eκ59 => ?_)
  replace F := F κ59 eκ59
  have Wκ59 : zW C n0 κ59 := zW_ur Wκ57 eκ59 (fun t ht => by cases ht; exact ⟨by decide, Gκ57⟩)
  have Mκ59 : zM (zn κ57) κ57 κ59 := by rw [eκ59]; exact zM.of rfl rfl rfl
  replace F := F Wκ59
  exact y_rv Wκ59 dX1_init_89 rfl F

theorem Ca_init_run {C : zC} {n0 : Nat} {Q : zS → Prop} {a0 : Nat} {κ : zS} (W : zW C n0 κ) (Ta0 : zT κ a0 = 44) (F : w_Ca_init_0 C (zn κ) Q a0 κ) : zRun C 2 mCa_init [.ref a0] κ (oV Q noX) := z_run (m_ent _ 0) (t_Ca_init_0 (W.lo (Nat.le_trans W.1.2.1 W.1.2.2) (Nat.le_refl _)) Ta0 F)

theorem dX5_bitsOf_0 : decode cX5_bitsOf 0 = .ok (.iconst 0, 1) := by decide +kernel
theorem dX5_bitsOf_1 : decode cX5_bitsOf 1 = .ok (.istore_n 1, 1) := by decide +kernel
theorem dX5_bitsOf_2 : decode cX5_bitsOf 2 = .ok (.iload_n 0, 1) := by decide +kernel
theorem dX5_bitsOf_3 : decode cX5_bitsOf 3 = .ok (.istore_n 2, 1) := by decide +kernel
theorem dX5_bitsOf_4 : decode cX5_bitsOf 4 = .ok (.iload_n 2, 1) := by decide +kernel
theorem dX5_bitsOf_5 : decode cX5_bitsOf 5 = .ok (.ifCond .le 13, 3) := by decide +kernel
theorem dX5_bitsOf_8 : decode cX5_bitsOf 8 = .ok (.iinc 1 1, 3) := by decide +kernel
theorem dX5_bitsOf_11 : decode cX5_bitsOf 11 = .ok (.iload_n 2, 1) := by decide +kernel
theorem dX5_bitsOf_12 : decode cX5_bitsOf 12 = .ok (.iconst 1, 1) := by decide +kernel
theorem dX5_bitsOf_13 : decode cX5_bitsOf 13 = .ok (.ishr, 1) := by decide +kernel
theorem dX5_bitsOf_14 : decode cX5_bitsOf 14 = .ok (.istore_n 2, 1) := by decide +kernel
theorem dX5_bitsOf_15 : decode cX5_bitsOf 15 = .ok (.goto (-11), 3) := by decide +kernel
theorem dX5_bitsOf_18 : decode cX5_bitsOf 18 = .ok (.iload_n 1, 1) := by decide +kernel
theorem dX5_bitsOf_19 : decode cX5_bitsOf 19 = .ok (.ireturn, 1) := by decide +kernel
def w_Nu_bitsOf_4 (C : zC) (n0 : Nat) (Q : Int32 → zS → Prop)  (a1 : Int32) (a2 : Int32) (κ : zS) : Prop :=
  ∃ I : Nat → Int32 → Int32 → zS → Prop, (∃ n, I n a1 a2 κ) ∧ ∀ n a1 a2 κ, zW C n0 κ → I n a1 a2 κ →
    (a2 ≤ (0 : Int32) →
      Q a1 κ) ∧
    (¬ a2 ≤ (0 : Int32) →
      ∀ v1_1 : Int32, v1_1 = a1 + (1 : Int32) →
      ∀ v2_2 : Int32, v2_2 = (a2 >>> ((1 : Int32) &&& 31)) →
      ∃ k < n, I k v1_1 v2_2 κ)
theorem t_Nu_bitsOf_4 {C : zC} {n0 : Nat} {Q : Int32 → zS → Prop}   {a1 : Int32} {a2 : Int32} {κ : zS} (W : zW C n0 κ)  (F : w_Nu_bitsOf_4 C n0 Q  a1 a2 κ) : zG C n0 0 mNu_bitsOf 4 [none, some (.int a1), some (.int a2)] [] κ (oI Q noX) := by
  obtain ⟨I, ⟨m0, hI0⟩, F0⟩ := F
  have key : ∀ n a1 a2 κ, zW C n0 κ → I n a1 a2 κ → zG C n0 0 mNu_bitsOf 4 [none, some (.int a1), some (.int a2)] [] κ (oI Q noX) := by
    intro n
    induction n using Nat.strongRecOn with
    | _ n ih =>
      intro a1 a2 κ W  hI
      have F := F0 n a1 a2 κ W  hI
      clear hI hI0
      refine y_iln dX5_bitsOf_4 rfl ?_
      refine y_i (a2 ≤ (0 : Int32)) dX5_bitsOf_5 (t := 18) rfl rfl (fun c9 => ?_) (fun c9 => ?_)
      · replace F := F.1 c9
        refine y_iln dX5_bitsOf_18 rfl ?_
        exact y_ri W dX5_bitsOf_19 rfl in_nar F
      · replace F := F.2 c9
        refine y_incb dX5_bitsOf_8 zi_1 rfl (Nat.le_of_ble_eq_true rfl) (fun v1_1 ev1_1 => ?_)
        replace F := F v1_1 ev1_1
        refine y_iln dX5_bitsOf_11 rfl ?_
        refine y_ic dX5_bitsOf_12 zi_1 ?_
        refine y_ishr dX5_bitsOf_13 ?_
        refine y_isnb dX5_bitsOf_14 (Nat.le_of_ble_eq_true rfl) (fun v2_2 ev2_2 => ?_)
        replace F := F v2_2 ev2_2
        refine y_goto dX5_bitsOf_15 (t := 4) rfl ?_
        obtain ⟨k, hk, hI⟩ := F
        exact y_k (ih k hk _ _ _ W  hI) ⟨rfl, rfl, trivial⟩
  exact key m0 a1 a2 κ W  hI0

def w_Nu_bitsOf_0 (C : zC) (n0 : Nat) (Q : Int32 → zS → Prop)  (a0 : Int32) (κ : zS) : Prop :=
  w_Nu_bitsOf_4 C n0 Q  (0 : Int32) a0 κ
theorem t_Nu_bitsOf_0 {C : zC} {n0 : Nat} {Q : Int32 → zS → Prop}   {a0 : Int32} {κ : zS} (W : zW C n0 κ)  (F : w_Nu_bitsOf_0 C n0 Q  a0 κ) : zG C n0 0 mNu_bitsOf 0 [some (.int a0), none, none] [] κ (oI Q noX) := by
  unfold w_Nu_bitsOf_0 at F
  refine y_ic dX5_bitsOf_0 zi_0 ?_
  refine y_isn dX5_bitsOf_1 (Nat.le_of_ble_eq_true rfl) rfl ?_
  refine y_iln dX5_bitsOf_2 rfl ?_
  refine y_isn dX5_bitsOf_3 (Nat.le_of_ble_eq_true rfl) rfl ?_
  exact y_k (t_Nu_bitsOf_4  W  F) ⟨rfl, rfl, trivial⟩

theorem Nu_bitsOf_run {C : zC} {n0 : Nat} {Q : Int32 → zS → Prop} {a0 : Int32} {κ : zS} (W : zW C n0 κ)  (F : w_Nu_bitsOf_0 C (zn κ) Q a0 κ) : zRun C 0 mNu_bitsOf [.int a0] κ (oI Q noX) := z_run (m_ent _ 2) (t_Nu_bitsOf_0 (W.lo (Nat.le_trans W.1.2.1 W.1.2.2) (Nat.le_refl _))  F)

theorem dX5_compare_0 : decode cX5_compare 0 = .ok (.aload_n 0, 1) := by decide +kernel
theorem dX5_compare_1 : decode cX5_compare 1 = .ok (.getfield 25, 3) := by decide +kernel
theorem dX5_compare_4 : decode cX5_compare 4 = .ok (.aload_n 1, 1) := by decide +kernel
theorem dX5_compare_5 : decode cX5_compare 5 = .ok (.getfield 25, 3) := by decide +kernel
theorem dX5_compare_8 : decode cX5_compare 8 = .ok (.if_icmp .eq 20, 3) := by decide +kernel
theorem dX5_compare_11 : decode cX5_compare 11 = .ok (.aload_n 0, 1) := by decide +kernel
theorem dX5_compare_12 : decode cX5_compare 12 = .ok (.getfield 25, 3) := by decide +kernel
theorem dX5_compare_15 : decode cX5_compare 15 = .ok (.aload_n 1, 1) := by decide +kernel
theorem dX5_compare_16 : decode cX5_compare 16 = .ok (.getfield 25, 3) := by decide +kernel
theorem dX5_compare_19 : decode cX5_compare 19 = .ok (.if_icmp .ge 7, 3) := by decide +kernel
theorem dX5_compare_22 : decode cX5_compare 22 = .ok (.iconst (-1), 1) := by decide +kernel
theorem dX5_compare_23 : decode cX5_compare 23 = .ok (.goto 4, 3) := by decide +kernel
theorem dX5_compare_26 : decode cX5_compare 26 = .ok (.iconst 1, 1) := by decide +kernel
theorem dX5_compare_27 : decode cX5_compare 27 = .ok (.ireturn, 1) := by decide +kernel
theorem dX5_compare_28 : decode cX5_compare 28 = .ok (.aload_n 0, 1) := by decide +kernel
theorem dX5_compare_29 : decode cX5_compare 29 = .ok (.getfield 25, 3) := by decide +kernel
theorem dX5_compare_32 : decode cX5_compare 32 = .ok (.iconst 1, 1) := by decide +kernel
theorem dX5_compare_33 : decode cX5_compare 33 = .ok (.isub, 1) := by decide +kernel
theorem dX5_compare_34 : decode cX5_compare 34 = .ok (.istore_n 2, 1) := by decide +kernel
theorem dX5_compare_35 : decode cX5_compare 35 = .ok (.iload_n 2, 1) := by decide +kernel
theorem dX5_compare_36 : decode cX5_compare 36 = .ok (.ifCond .lt 45, 3) := by decide +kernel
theorem dX5_compare_39 : decode cX5_compare 39 = .ok (.aload_n 0, 1) := by decide +kernel
theorem dX5_compare_40 : decode cX5_compare 40 = .ok (.getfield 13, 3) := by decide +kernel
theorem dX5_compare_43 : decode cX5_compare 43 = .ok (.iload_n 2, 1) := by decide +kernel
theorem dX5_compare_44 : decode cX5_compare 44 = .ok (.iaload, 1) := by decide +kernel
theorem dX5_compare_45 : decode cX5_compare 45 = .ok (.aload_n 1, 1) := by decide +kernel
theorem dX5_compare_46 : decode cX5_compare 46 = .ok (.getfield 13, 3) := by decide +kernel
theorem dX5_compare_49 : decode cX5_compare 49 = .ok (.iload_n 2, 1) := by decide +kernel
theorem dX5_compare_50 : decode cX5_compare 50 = .ok (.iaload, 1) := by decide +kernel
theorem dX5_compare_51 : decode cX5_compare 51 = .ok (.if_icmp .eq 24, 3) := by decide +kernel
theorem dX5_compare_54 : decode cX5_compare 54 = .ok (.aload_n 0, 1) := by decide +kernel
theorem dX5_compare_55 : decode cX5_compare 55 = .ok (.getfield 13, 3) := by decide +kernel
theorem dX5_compare_58 : decode cX5_compare 58 = .ok (.iload_n 2, 1) := by decide +kernel
theorem dX5_compare_59 : decode cX5_compare 59 = .ok (.iaload, 1) := by decide +kernel
theorem dX5_compare_60 : decode cX5_compare 60 = .ok (.aload_n 1, 1) := by decide +kernel
theorem dX5_compare_61 : decode cX5_compare 61 = .ok (.getfield 13, 3) := by decide +kernel
theorem dX5_compare_64 : decode cX5_compare 64 = .ok (.iload_n 2, 1) := by decide +kernel
theorem dX5_compare_65 : decode cX5_compare 65 = .ok (.iaload, 1) := by decide +kernel
theorem dX5_compare_66 : decode cX5_compare 66 = .ok (.if_icmp .ge 7, 3) := by decide +kernel
theorem dX5_compare_69 : decode cX5_compare 69 = .ok (.iconst (-1), 1) := by decide +kernel
theorem dX5_compare_70 : decode cX5_compare 70 = .ok (.goto 4, 3) := by decide +kernel
theorem dX5_compare_73 : decode cX5_compare 73 = .ok (.iconst 1, 1) := by decide +kernel
theorem dX5_compare_74 : decode cX5_compare 74 = .ok (.ireturn, 1) := by decide +kernel
theorem dX5_compare_75 : decode cX5_compare 75 = .ok (.iinc 2 (-1), 3) := by decide +kernel
theorem dX5_compare_78 : decode cX5_compare 78 = .ok (.goto (-43), 3) := by decide +kernel
theorem dX5_compare_81 : decode cX5_compare 81 = .ok (.iconst 0, 1) := by decide +kernel
theorem dX5_compare_82 : decode cX5_compare 82 = .ok (.ireturn, 1) := by decide +kernel
def w_Nu_compare_35 (C : zC) (n0 : Nat) (Q : Int32 → zS → Prop)  (a0 : Nat) (a1 : Nat) (a2 : Int32) (κ : zS) : Prop :=
  ∃ I : Nat → Nat → Nat → Int32 → zS → Prop, (∃ n, I n a0 a1 a2 κ) ∧ ∀ n a0 a1 a2 κ, zW C n0 κ → zT κ a0 = 8 → zT κ a1 = 8 → I n a0 a1 a2 κ →
    (a2 < (0 : Int32) →
      Q (0 : Int32) κ) ∧
    (¬ a2 < (0 : Int32) →
      inb a2 (zN κ (zR κ nuLimbs a0)) ∧
      inb a2 (zN κ (zR κ nuLimbs a1)) ∧
      ((zA κ (zR κ nuLimbs a0) (a2).toNatClampNeg) = (zA κ (zR κ nuLimbs a1) (a2).toNatClampNeg) →
        ∀ v2_1 : Int32, v2_1 = a2 + (-1 : Int32) →
        ∃ k < n, I k a0 a1 v2_1 κ) ∧
      (¬ (zA κ (zR κ nuLimbs a0) (a2).toNatClampNeg) = (zA κ (zR κ nuLimbs a1) (a2).toNatClampNeg) →
        inb a2 (zN κ (zR κ nuLimbs a0)) ∧
        inb a2 (zN κ (zR κ nuLimbs a1)) ∧
        ((zA κ (zR κ nuLimbs a1) (a2).toNatClampNeg) ≤ (zA κ (zR κ nuLimbs a0) (a2).toNatClampNeg) →
          Q (1 : Int32) κ) ∧
        (¬ (zA κ (zR κ nuLimbs a1) (a2).toNatClampNeg) ≤ (zA κ (zR κ nuLimbs a0) (a2).toNatClampNeg) →
          Q (-1 : Int32) κ)))
theorem t_Nu_compare_35 {C : zC} {n0 : Nat} {Q : Int32 → zS → Prop}   {a0 : Nat} {a1 : Nat} {a2 : Int32} {κ : zS} (W : zW C n0 κ) (Ta0 : zT κ a0 = 8) (Ta1 : zT κ a1 = 8) (F : w_Nu_compare_35 C n0 Q  a0 a1 a2 κ) : zG C n0 0 mNu_compare 35 [some (.ref a0), some (.ref a1), some (.int a2)] [] κ (oI Q noX) := by
  obtain ⟨I, ⟨m0, hI0⟩, F0⟩ := F
  have key : ∀ n a0 a1 a2 κ, zW C n0 κ → zT κ a0 = 8 → zT κ a1 = 8 → I n a0 a1 a2 κ → zG C n0 0 mNu_compare 35 [some (.ref a0), some (.ref a1), some (.int a2)] [] κ (oI Q noX) := by
    intro n
    induction n using Nat.strongRecOn with
    | _ n ih =>
      intro a0 a1 a2 κ W Ta0 Ta1 hI
      have F := F0 n a0 a1 a2 κ W Ta0 Ta1 hI
      clear hI hI0
      refine y_iln dX5_compare_35 rfl ?_
      refine y_i (a2 < (0 : Int32)) dX5_compare_36 (t := 81) rfl rfl (fun c9 => ?_) (fun c9 => ?_)
      · replace F := F.1 c9
        refine y_ic dX5_compare_81 zi_0 ?_
        exact y_ri W dX5_compare_82 rfl in_nar F
      · replace F := F.2 c9
        refine y_aln dX5_compare_39 rfl ?_
        refine gf_X5_13 W dX5_compare_40 rfl Ta0 ?_
        refine y_iln dX5_compare_43 rfl ?_
        refine y_ald dX5_compare_44 (ty_nuLimbs W Ta0) F.1 ?_
        replace F := F.2
        refine y_aln dX5_compare_45 rfl ?_
        refine gf_X5_13 W dX5_compare_46 rfl Ta1 ?_
        refine y_iln dX5_compare_49 rfl ?_
        refine y_ald dX5_compare_50 (ty_nuLimbs W Ta1) F.1 ?_
        replace F := F.2
        refine y_ii ((zA κ (zR κ nuLimbs a0) (a2).toNatClampNeg) = (zA κ (zR κ nuLimbs a1) (a2).toNatClampNeg)) dX5_compare_51 (t := 75) rfl rfl (fun c9 => ?_) (fun c9 => ?_)
        · replace F := F.1 c9
          refine y_incb dX5_compare_75 zi_m1 rfl (Nat.le_of_ble_eq_true rfl) (fun v2_1 ev2_1 => ?_)
          replace F := F v2_1 ev2_1
          refine y_goto dX5_compare_78 (t := 35) rfl ?_
          obtain ⟨k, hk, hI⟩ := F
          exact y_k (ih k hk _ _ _ _ W Ta0 Ta1 hI) ⟨rfl, rfl, rfl, trivial⟩
        · replace F := F.2 c9
          refine y_aln dX5_compare_54 rfl ?_
          refine gf_X5_13 W dX5_compare_55 rfl Ta0 ?_
          refine y_iln dX5_compare_58 rfl ?_
          refine y_ald dX5_compare_59 (ty_nuLimbs W Ta0) F.1 ?_
          replace F := F.2
          refine y_aln dX5_compare_60 rfl ?_
          refine gf_X5_13 W dX5_compare_61 rfl Ta1 ?_
          refine y_iln dX5_compare_64 rfl ?_
          refine y_ald dX5_compare_65 (ty_nuLimbs W Ta1) F.1 ?_
          replace F := F.2
          refine y_ii ((zA κ (zR κ nuLimbs a1) (a2).toNatClampNeg) ≤ (zA κ (zR κ nuLimbs a0) (a2).toNatClampNeg)) dX5_compare_66 (t := 73) rfl rfl (fun c9 => ?_) (fun c9 => ?_)
          · replace F := F.1 c9
            refine y_ic dX5_compare_73 zi_1 ?_
            exact y_ri W dX5_compare_74 rfl in_nar F
          · replace F := F.2 c9
            refine y_ic dX5_compare_69 zi_m1 ?_
            refine y_goto dX5_compare_70 (t := 74) rfl ?_
            exact y_ri W dX5_compare_74 rfl in_nar F
  exact key m0 a0 a1 a2 κ W Ta0 Ta1 hI0

def w_Nu_compare_0 (C : zC) (n0 : Nat) (Q : Int32 → zS → Prop)  (a0 : Nat) (a1 : Nat) (κ : zS) : Prop :=
  ((zI κ nuLength a0) = (zI κ nuLength a1) →
    ∀ v2_1 : Int32, v2_1 = ((zI κ nuLength a0) - (1 : Int32)) →
    w_Nu_compare_35 C n0 Q  a0 a1 v2_1 κ) ∧
  (¬ (zI κ nuLength a0) = (zI κ nuLength a1) →
    ((zI κ nuLength a1) ≤ (zI κ nuLength a0) →
      Q (1 : Int32) κ) ∧
    (¬ (zI κ nuLength a1) ≤ (zI κ nuLength a0) →
      Q (-1 : Int32) κ))
theorem t_Nu_compare_0 {C : zC} {n0 : Nat} {Q : Int32 → zS → Prop}   {a0 : Nat} {a1 : Nat} {κ : zS} (W : zW C n0 κ) (Ta0 : zT κ a0 = 8) (Ta1 : zT κ a1 = 8) (F : w_Nu_compare_0 C n0 Q  a0 a1 κ) : zG C n0 0 mNu_compare 0 [some (.ref a0), some (.ref a1), none] [] κ (oI Q noX) := by
  unfold w_Nu_compare_0 at F
  refine y_aln dX5_compare_0 rfl ?_
  refine gf_X5_25 dX5_compare_1 rfl (Or.inl Ta0) ?_
  refine y_aln dX5_compare_4 rfl ?_
  refine gf_X5_25 dX5_compare_5 rfl (Or.inl Ta1) ?_
  refine y_ii ((zI κ nuLength a0) = (zI κ nuLength a1)) dX5_compare_8 (t := 28) rfl rfl (fun c9 => ?_) (fun c9 => ?_)
  · replace F := F.1 c9
    refine y_aln dX5_compare_28 rfl ?_
    refine gf_X5_25 dX5_compare_29 rfl (Or.inl Ta0) ?_
    refine y_ic dX5_compare_32 zi_1 ?_
    refine y_isub dX5_compare_33 ?_
    refine y_isnb dX5_compare_34 (Nat.le_of_ble_eq_true rfl) (fun v2_1 ev2_1 => ?_)
    replace F := F v2_1 ev2_1
    exact y_k (t_Nu_compare_35  W Ta0 Ta1 F) ⟨rfl, rfl, rfl, trivial⟩
  · replace F := F.2 c9
    refine y_aln dX5_compare_11 rfl ?_
    refine gf_X5_25 dX5_compare_12 rfl (Or.inl Ta0) ?_
    refine y_aln dX5_compare_15 rfl ?_
    refine gf_X5_25 dX5_compare_16 rfl (Or.inl Ta1) ?_
    refine y_ii ((zI κ nuLength a1) ≤ (zI κ nuLength a0)) dX5_compare_19 (t := 26) rfl rfl (fun c9 => ?_) (fun c9 => ?_)
    · replace F := F.1 c9
      refine y_ic dX5_compare_26 zi_1 ?_
      exact y_ri W dX5_compare_27 rfl in_nar F
    · replace F := F.2 c9
      refine y_ic dX5_compare_22 zi_m1 ?_
      refine y_goto dX5_compare_23 (t := 27) rfl ?_
      exact y_ri W dX5_compare_27 rfl in_nar F

theorem Nu_compare_run {C : zC} {n0 : Nat} {Q : Int32 → zS → Prop} {a0 : Nat} {a1 : Nat} {κ : zS} (W : zW C n0 κ) (Ta0 : zT κ a0 = 8) (Ta1 : zT κ a1 = 8) (F : w_Nu_compare_0 C (zn κ) Q a0 a1 κ) : zRun C 0 mNu_compare [.ref a0, .ref a1] κ (oI Q noX) := z_run (m_ent _ 1) (t_Nu_compare_0 (W.lo (Nat.le_trans W.1.2.1 W.1.2.2) (Nat.le_refl _)) Ta0 Ta1 F)

theorem dX5_copy_0 : decode cX5_copy 0 = .ok (.aload_n 1, 1) := by decide +kernel
theorem dX5_copy_1 : decode cX5_copy 1 = .ok (.getfield 25, 3) := by decide +kernel
theorem dX5_copy_4 : decode cX5_copy 4 = .ok (.aload_n 0, 1) := by decide +kernel
theorem dX5_copy_5 : decode cX5_copy 5 = .ok (.getfield 13, 3) := by decide +kernel
theorem dX5_copy_8 : decode cX5_copy 8 = .ok (.arraylength, 1) := by decide +kernel
theorem dX5_copy_9 : decode cX5_copy 9 = .ok (.if_icmp .le 22, 3) := by decide +kernel
theorem dX5_copy_12 : decode cX5_copy 12 = .ok (.aload_n 0, 1) := by decide +kernel
theorem dX5_copy_13 : decode cX5_copy 13 = .ok (.aload_n 1, 1) := by decide +kernel
theorem dX5_copy_14 : decode cX5_copy 14 = .ok (.getfield 25, 3) := by decide +kernel
theorem dX5_copy_17 : decode cX5_copy 17 = .ok (.aload_n 1, 1) := by decide +kernel
theorem dX5_copy_18 : decode cX5_copy 18 = .ok (.getfield 25, 3) := by decide +kernel
theorem dX5_copy_21 : decode cX5_copy 21 = .ok (.iconst 2, 1) := by decide +kernel
theorem dX5_copy_22 : decode cX5_copy 22 = .ok (.idiv, 1) := by decide +kernel
theorem dX5_copy_23 : decode cX5_copy 23 = .ok (.iadd, 1) := by decide +kernel
theorem dX5_copy_24 : decode cX5_copy 24 = .ok (.iconst 1, 1) := by decide +kernel
theorem dX5_copy_25 : decode cX5_copy 25 = .ok (.iadd, 1) := by decide +kernel
theorem dX5_copy_26 : decode cX5_copy 26 = .ok (.newarray .int, 2) := by decide +kernel
theorem dX5_copy_28 : decode cX5_copy 28 = .ok (.putfield 13, 3) := by decide +kernel
theorem dX5_copy_31 : decode cX5_copy 31 = .ok (.aload_n 1, 1) := by decide +kernel
theorem dX5_copy_32 : decode cX5_copy 32 = .ok (.getfield 13, 3) := by decide +kernel
theorem dX5_copy_35 : decode cX5_copy 35 = .ok (.iconst 0, 1) := by decide +kernel
theorem dX5_copy_36 : decode cX5_copy 36 = .ok (.aload_n 0, 1) := by decide +kernel
theorem dX5_copy_37 : decode cX5_copy 37 = .ok (.getfield 13, 3) := by decide +kernel
theorem dX5_copy_40 : decode cX5_copy 40 = .ok (.iconst 0, 1) := by decide +kernel
theorem dX5_copy_41 : decode cX5_copy 41 = .ok (.aload_n 1, 1) := by decide +kernel
theorem dX5_copy_42 : decode cX5_copy 42 = .ok (.getfield 25, 3) := by decide +kernel
theorem dX5_copy_45 : decode cX5_copy 45 = .ok (.invokestatic 31, 3) := by decide +kernel
theorem dX5_copy_48 : decode cX5_copy 48 = .ok (.aload_n 0, 1) := by decide +kernel
theorem dX5_copy_49 : decode cX5_copy 49 = .ok (.aload_n 1, 1) := by decide +kernel
theorem dX5_copy_50 : decode cX5_copy 50 = .ok (.getfield 25, 3) := by decide +kernel
theorem dX5_copy_53 : decode cX5_copy 53 = .ok (.putfield 25, 3) := by decide +kernel
theorem dX5_copy_56 : decode cX5_copy 56 = .ok (.return_, 1) := by decide +kernel
def w_Nu_copy_31 (C : zC) (n0 : Nat) (Q : zS → Prop)  (a0 : Nat) (a1 : Nat) (κ : zS) : Prop :=
  cpo κ (zR κ nuLimbs a1) (zR κ nuLimbs a0) (0 : Int32) (0 : Int32) (zI κ nuLength a1) ∧
  ∀ κ1, κ1 = uc κ (zR κ nuLimbs a1) (zR κ nuLimbs a0) ((0 : Int32)).toNatClampNeg ((0 : Int32)).toNatClampNeg ((zI κ nuLength a1)).toNatClampNeg →
  ∀ _ : zW C n0 κ1,
  ∀ κ3, κ3 = ui κ1 nuLength a0 (zI κ1 nuLength a1) →
  ∀ _ : zW C n0 κ3,
  Q κ3
theorem t_Nu_copy_31 {C : zC} {n0 : Nat} {Q : zS → Prop}   {a0 : Nat} {a1 : Nat} {κ : zS} (W : zW C n0 κ) (Ta0 : zT κ a0 = 8) (Ta1 : zT κ a1 = 8) (F : w_Nu_copy_31 C n0 Q  a0 a1 κ) : zG C n0 1 mNu_copy 31 [some (.ref a0), some (.ref a1)] [] κ (oV Q noX) := by
  unfold w_Nu_copy_31 at F
  refine y_aln dX5_copy_31 rfl ?_
  refine gf_X5_13 W dX5_copy_32 rfl Ta1 ?_
  refine y_ic dX5_copy_35 zi_0 ?_
  refine y_aln dX5_copy_36 rfl ?_
  refine gf_X5_13 W dX5_copy_37 rfl Ta0 ?_
  refine y_ic dX5_copy_40 zi_0 ?_
  refine y_aln dX5_copy_41 rfl ?_
  refine gf_X5_25 dX5_copy_42 rfl (Or.inl Ta1) ?_
  refine y_cpy (t := 0) W dX5_copy_45 rfl zbi_X5_31 (ty_nuLimbs W Ta1) (ty_nuLimbs W Ta0) (by decide) (Nat.le_of_ble_eq_true rfl) (Nat.le_of_ble_eq_true rfl) F.1 (fun κ1 eκ1 => ?_)
  replace F := F.2 κ1 eκ1
  have Wκ1 : zW C n0 κ1 := zW_uc W eκ1 ((ty_nuLimbs W Ta1).trans (ty_nuLimbs W Ta0).symm)
  have Mκ1 : zM (zn κ) κ κ1 := by rw [eκ1]; exact zM.of rfl rfl rfl
  replace F := F Wκ1
  refine y_aln dX5_copy_48 rfl ?_
  refine y_aln dX5_copy_49 rfl ?_
  have h2 := (ztm W Mκ1 Ta1)
  refine gf_X5_25 dX5_copy_50 rfl (Or.inl h2) ?_
  have h4 := (ztm W Mκ1 Ta0)
  refine pf_X5_25 Wκ1 dX5_copy_53 rfl (Or.inl h4) (fun κ3 eκ3 => ?_)
  replace F := F κ3 eκ3
  have Wκ3 : zW C n0 κ3 := zW_ui Wκ1 eκ3 (fun h => absurd h (by decide))
  have Mκ3 : zM (zn κ1) κ1 κ3 := by rw [eκ3]; exact zM.of rfl rfl rfl
  replace F := F Wκ3
  exact y_rv Wκ3 dX5_copy_56 rfl F

def w_Nu_copy_0 (C : zC) (n0 : Nat) (Q : zS → Prop)  (a0 : Nat) (a1 : Nat) (κ : zS) : Prop :=
  ((zI κ nuLength a1) ≤ (Int32.ofNat (zN κ (zR κ nuLimbs a0))) →
    w_Nu_copy_31 C n0 Q  a0 a1 κ) ∧
  (¬ (zI κ nuLength a1) ≤ (Int32.ofNat (zN κ (zR κ nuLimbs a0))) →
    ¬ (2 : Int32) = 0 ∧
    nsz (((zI κ nuLength a1) + ((zI κ nuLength a1) / (2 : Int32))) + (1 : Int32)) ∧
    ∀ κ1, κ1 = na κ 20 ((((zI κ nuLength a1) + ((zI κ nuLength a1) / (2 : Int32))) + (1 : Int32))).toNatClampNeg →
    ∀ _ : zW C n0 κ1,
    zO κ1 (zn κ) = (0, 0) ∧
    ∀ κ4, κ4 = uo κ1 nuLimbs a0 (zn κ) →
    ∀ _ : zW C n0 κ4,
    w_Nu_copy_31 C n0 Q  a0 a1 κ4)
theorem t_Nu_copy_0 {C : zC} {n0 : Nat} {Q : zS → Prop}   {a0 : Nat} {a1 : Nat} {κ : zS} (W : zW C n0 κ) (Ta0 : zT κ a0 = 8) (Ta1 : zT κ a1 = 8) (F : w_Nu_copy_0 C n0 Q  a0 a1 κ) : zG C n0 1 mNu_copy 0 [some (.ref a0), some (.ref a1)] [] κ (oV Q noX) := by
  unfold w_Nu_copy_0 at F
  refine y_aln dX5_copy_0 rfl ?_
  refine gf_X5_25 dX5_copy_1 rfl (Or.inl Ta1) ?_
  refine y_aln dX5_copy_4 rfl ?_
  refine gf_X5_13 W dX5_copy_5 rfl Ta0 ?_
  refine y_alen (t := 0) dX5_copy_8 (ty_nuLimbs W Ta0) (by decide) ?_
  refine y_ii ((zI κ nuLength a1) ≤ (Int32.ofNat (zN κ (zR κ nuLimbs a0)))) dX5_copy_9 (t := 31) rfl rfl (fun c9 => ?_) (fun c9 => ?_)
  · replace F := F.1 c9
    exact y_k (t_Nu_copy_31  W Ta0 Ta1 F) ⟨rfl, rfl, trivial⟩
  · replace F := F.2 c9
    refine y_aln dX5_copy_12 rfl ?_
    refine y_aln dX5_copy_13 rfl ?_
    refine gf_X5_25 dX5_copy_14 rfl (Or.inl Ta1) ?_
    refine y_aln dX5_copy_17 rfl ?_
    refine gf_X5_25 dX5_copy_18 rfl (Or.inl Ta1) ?_
    refine y_ic dX5_copy_21 zi_2 ?_
    refine y_div dX5_copy_22 F.1 ?_
    replace F := F.2
    refine y_iadd dX5_copy_23 ?_
    refine y_ic dX5_copy_24 zi_1 ?_
    refine y_iadd dX5_copy_25 ?_
    have b2 := F.1
    refine y_newa (t := 0) W dX5_copy_26 (by decide) b2 (fun κ1 eκ1 => ?_)
    replace F := F.2 κ1 eκ1
    have Wκ1 : zW C n0 κ1 := zW_na W eκ1 (by decide) (by decide) b2.2
    have Mκ1 : zM (zn κ) κ κ1 := zM_na (W.lo (Nat.le_trans W.1.2.1 W.1.2.2) (Nat.le_refl _)) eκ1
    replace F := F Wκ1
    have g3 : zT κ1 (zn κ) = 20 := by rw [eκ1]; exact if_pos rfl
    have b5 := F.1
    replace F := F.2
    have h6 := (ztm W Mκ1 Ta0)
    refine pf_X5_13 Wκ1 dX5_copy_28 rfl (Or.inl h6) g3 (fun κ4 eκ4 => ?_)
    replace F := F κ4 eκ4
    have Wκ4 : zW C n0 κ4 := zW_uo Wκ1 eκ4 (fun t ht => by cases ht; exact g3) b5
    have Mκ4 : zM (zn κ1) κ1 κ4 := by rw [eκ4]; exact zM.of rfl rfl rfl
    replace F := F Wκ4
    have h7 := (ztm Wκ1 Mκ4 h6)
    have h8 := (ztm Wκ1 Mκ4 (ztm W Mκ1 Ta1))
    exact y_k (t_Nu_copy_31  Wκ4 h7 h8 F) ⟨rfl, rfl, trivial⟩

theorem Nu_copy_run {C : zC} {n0 : Nat} {Q : zS → Prop} {a0 : Nat} {a1 : Nat} {κ : zS} (W : zW C n0 κ) (Ta0 : zT κ a0 = 8) (Ta1 : zT κ a1 = 8) (F : w_Nu_copy_0 C (zn κ) Q a0 a1 κ) : zRun C 1 mNu_copy [.ref a0, .ref a1] κ (oV Q noX) := z_run (m_ent _ 0) (t_Nu_copy_0 (W.lo (Nat.le_trans W.1.2.1 W.1.2.2) (Nat.le_refl _)) Ta0 Ta1 F)

theorem dX5_over_0 : decode cX5_over 0 = .ok (.lconst 0, 1) := by decide +kernel
theorem dX5_over_1 : decode cX5_over 1 = .ok (.lstore_n 2, 1) := by decide +kernel
theorem dX5_over_2 : decode cX5_over 2 = .ok (.aload_n 0, 1) := by decide +kernel
theorem dX5_over_3 : decode cX5_over 3 = .ok (.getfield 25, 3) := by decide +kernel
theorem dX5_over_6 : decode cX5_over 6 = .ok (.iconst 1, 1) := by decide +kernel
theorem dX5_over_7 : decode cX5_over 7 = .ok (.isub, 1) := by decide +kernel
theorem dX5_over_8 : decode cX5_over 8 = .ok (.istore 4, 2) := by decide +kernel
theorem dX5_over_10 : decode cX5_over 10 = .ok (.iload 4, 2) := by decide +kernel
theorem dX5_over_12 : decode cX5_over 12 = .ok (.ifCond .lt 47, 3) := by decide +kernel
theorem dX5_over_15 : decode cX5_over 15 = .ok (.iload_n 1, 1) := by decide +kernel
theorem dX5_over_16 : decode cX5_over 16 = .ok (.ifCond .le 43, 3) := by decide +kernel
theorem dX5_over_19 : decode cX5_over 19 = .ok (.lload_n 2, 1) := by decide +kernel
theorem dX5_over_20 : decode cX5_over 20 = .ok (.bipush 31, 2) := by decide +kernel
theorem dX5_over_22 : decode cX5_over 22 = .ok (.lshl, 1) := by decide +kernel
theorem dX5_over_23 : decode cX5_over 23 = .ok (.aload_n 0, 1) := by decide +kernel
theorem dX5_over_24 : decode cX5_over 24 = .ok (.getfield 13, 3) := by decide +kernel
theorem dX5_over_27 : decode cX5_over 27 = .ok (.iload 4, 2) := by decide +kernel
theorem dX5_over_29 : decode cX5_over 29 = .ok (.iaload, 1) := by decide +kernel
theorem dX5_over_30 : decode cX5_over 30 = .ok (.i2l, 1) := by decide +kernel
theorem dX5_over_31 : decode cX5_over 31 = .ok (.lor, 1) := by decide +kernel
theorem dX5_over_32 : decode cX5_over 32 = .ok (.lstore 5, 2) := by decide +kernel
theorem dX5_over_34 : decode cX5_over 34 = .ok (.aload_n 0, 1) := by decide +kernel
theorem dX5_over_35 : decode cX5_over 35 = .ok (.getfield 13, 3) := by decide +kernel
theorem dX5_over_38 : decode cX5_over 38 = .ok (.iload 4, 2) := by decide +kernel
theorem dX5_over_40 : decode cX5_over 40 = .ok (.lload 5, 2) := by decide +kernel
theorem dX5_over_42 : decode cX5_over 42 = .ok (.iload_n 1, 1) := by decide +kernel
theorem dX5_over_43 : decode cX5_over 43 = .ok (.i2l, 1) := by decide +kernel
theorem dX5_over_44 : decode cX5_over 44 = .ok (.ldiv, 1) := by decide +kernel
theorem dX5_over_45 : decode cX5_over 45 = .ok (.l2i, 1) := by decide +kernel
theorem dX5_over_46 : decode cX5_over 46 = .ok (.iastore, 1) := by decide +kernel
theorem dX5_over_47 : decode cX5_over 47 = .ok (.lload 5, 2) := by decide +kernel
theorem dX5_over_49 : decode cX5_over 49 = .ok (.iload_n 1, 1) := by decide +kernel
theorem dX5_over_50 : decode cX5_over 50 = .ok (.i2l, 1) := by decide +kernel
theorem dX5_over_51 : decode cX5_over 51 = .ok (.lrem, 1) := by decide +kernel
theorem dX5_over_52 : decode cX5_over 52 = .ok (.lstore_n 2, 1) := by decide +kernel
theorem dX5_over_53 : decode cX5_over 53 = .ok (.iinc 4 (-1), 3) := by decide +kernel
theorem dX5_over_56 : decode cX5_over 56 = .ok (.goto (-46), 3) := by decide +kernel
theorem dX5_over_59 : decode cX5_over 59 = .ok (.aload_n 0, 1) := by decide +kernel
theorem dX5_over_60 : decode cX5_over 60 = .ok (.getfield 25, 3) := by decide +kernel
theorem dX5_over_63 : decode cX5_over 63 = .ok (.ifCond .le 30, 3) := by decide +kernel
theorem dX5_over_66 : decode cX5_over 66 = .ok (.aload_n 0, 1) := by decide +kernel
theorem dX5_over_67 : decode cX5_over 67 = .ok (.getfield 13, 3) := by decide +kernel
theorem dX5_over_70 : decode cX5_over 70 = .ok (.aload_n 0, 1) := by decide +kernel
theorem dX5_over_71 : decode cX5_over 71 = .ok (.getfield 25, 3) := by decide +kernel
theorem dX5_over_74 : decode cX5_over 74 = .ok (.iconst 1, 1) := by decide +kernel
theorem dX5_over_75 : decode cX5_over 75 = .ok (.isub, 1) := by decide +kernel
theorem dX5_over_76 : decode cX5_over 76 = .ok (.iaload, 1) := by decide +kernel
theorem dX5_over_77 : decode cX5_over 77 = .ok (.ifCond .ne 16, 3) := by decide +kernel
theorem dX5_over_80 : decode cX5_over 80 = .ok (.aload_n 0, 1) := by decide +kernel
theorem dX5_over_81 : decode cX5_over 81 = .ok (.dup, 1) := by decide +kernel
theorem dX5_over_82 : decode cX5_over 82 = .ok (.getfield 25, 3) := by decide +kernel
theorem dX5_over_85 : decode cX5_over 85 = .ok (.iconst 1, 1) := by decide +kernel
theorem dX5_over_86 : decode cX5_over 86 = .ok (.isub, 1) := by decide +kernel
theorem dX5_over_87 : decode cX5_over 87 = .ok (.putfield 25, 3) := by decide +kernel
theorem dX5_over_90 : decode cX5_over 90 = .ok (.goto (-31), 3) := by decide +kernel
theorem dX5_over_93 : decode cX5_over 93 = .ok (.lload_n 2, 1) := by decide +kernel
theorem dX5_over_94 : decode cX5_over 94 = .ok (.l2i, 1) := by decide +kernel
theorem dX5_over_95 : decode cX5_over 95 = .ok (.ireturn, 1) := by decide +kernel
def w_Nu_over_59 (C : zC) (n0 : Nat) (Q : Int32 → zS → Prop)  (a0 : Nat) (a2 : Int64) (κ : zS) : Prop :=
  ∃ I : Nat → Nat → Int64 → zS → Prop, (∃ n, I n a0 a2 κ) ∧ ∀ n a0 a2 κ, zW C n0 κ → zT κ a0 = 8 → I n a0 a2 κ →
    ((zI κ nuLength a0) ≤ (0 : Int32) →
      Q (Int64.toInt32 a2) κ) ∧
    (¬ (zI κ nuLength a0) ≤ (0 : Int32) →
      inb ((zI κ nuLength a0) - (1 : Int32)) (zN κ (zR κ nuLimbs a0)) ∧
      (¬ (zA κ (zR κ nuLimbs a0) (((zI κ nuLength a0) - (1 : Int32))).toNatClampNeg) = (0 : Int32) →
        Q (Int64.toInt32 a2) κ) ∧
      ((zA κ (zR κ nuLimbs a0) (((zI κ nuLength a0) - (1 : Int32))).toNatClampNeg) = (0 : Int32) →
        ∀ κ1, κ1 = ui κ nuLength a0 ((zI κ nuLength a0) - (1 : Int32)) →
        ∀ _ : zW C n0 κ1,
        ∃ k < n, I k a0 a2 κ1))
theorem t_Nu_over_59 {C : zC} {n0 : Nat} {Q : Int32 → zS → Prop}   {a0 : Nat} {a2 : Int64} {κ : zS} (W : zW C n0 κ) (Ta0 : zT κ a0 = 8) (F : w_Nu_over_59 C n0 Q  a0 a2 κ) : zG C n0 0 mNu_over 59 [some (.ref a0), none, some (.long a2), none, none, none, none] [] κ (oI Q noX) := by
  obtain ⟨I, ⟨m0, hI0⟩, F0⟩ := F
  have key : ∀ n a0 a2 κ, zW C n0 κ → zT κ a0 = 8 → I n a0 a2 κ → zG C n0 0 mNu_over 59 [some (.ref a0), none, some (.long a2), none, none, none, none] [] κ (oI Q noX) := by
    intro n
    induction n using Nat.strongRecOn with
    | _ n ih =>
      intro a0 a2 κ W Ta0 hI
      have F := F0 n a0 a2 κ W Ta0 hI
      clear hI hI0
      refine y_aln dX5_over_59 rfl ?_
      refine gf_X5_25 dX5_over_60 rfl (Or.inl Ta0) ?_
      refine y_i ((zI κ nuLength a0) ≤ (0 : Int32)) dX5_over_63 (t := 93) rfl rfl (fun c9 => ?_) (fun c9 => ?_)
      · replace F := F.1 c9
        refine y_lln dX5_over_93 rfl ?_
        refine y_l2i dX5_over_94 ?_
        exact y_ri W dX5_over_95 rfl in_nar F
      · replace F := F.2 c9
        refine y_aln dX5_over_66 rfl ?_
        refine gf_X5_13 W dX5_over_67 rfl Ta0 ?_
        refine y_aln dX5_over_70 rfl ?_
        refine gf_X5_25 dX5_over_71 rfl (Or.inl Ta0) ?_
        refine y_ic dX5_over_74 zi_1 ?_
        refine y_isub dX5_over_75 ?_
        refine y_ald dX5_over_76 (ty_nuLimbs W Ta0) F.1 ?_
        replace F := F.2
        refine y_in ((zA κ (zR κ nuLimbs a0) (((zI κ nuLength a0) - (1 : Int32))).toNatClampNeg) = (0 : Int32)) dX5_over_77 (t := 93) rfl rfl (fun c9 => ?_) (fun c9 => ?_)
        · replace F := F.1 c9
          refine y_lln dX5_over_93 rfl ?_
          refine y_l2i dX5_over_94 ?_
          exact y_ri W dX5_over_95 rfl in_nar F
        · replace F := F.2 c9
          refine y_aln dX5_over_80 rfl ?_
          refine y_dup dX5_over_81 rfl ?_
          refine gf_X5_25 dX5_over_82 rfl (Or.inl Ta0) ?_
          refine y_ic dX5_over_85 zi_1 ?_
          refine y_isub dX5_over_86 ?_
          refine pf_X5_25 W dX5_over_87 rfl (Or.inl Ta0) (fun κ1 eκ1 => ?_)
          replace F := F κ1 eκ1
          have Wκ1 : zW C n0 κ1 := zW_ui W eκ1 (fun h => absurd h (by decide))
          have Mκ1 : zM (zn κ) κ κ1 := by rw [eκ1]; exact zM.of rfl rfl rfl
          replace F := F Wκ1
          refine y_goto dX5_over_90 (t := 59) rfl ?_
          have h2 := (ztm W Mκ1 Ta0)
          obtain ⟨k, hk, hI⟩ := F
          exact y_k (ih k hk _ _ _ Wκ1 h2 hI) ⟨rfl, rfl, trivial⟩
  exact key m0 a0 a2 κ W Ta0 hI0

def w_Nu_over_10 (C : zC) (n0 : Nat) (Q : Int32 → zS → Prop)  (a0 : Nat) (a1 : Int32) (a2 : Int64) (a4 : Int32) (κ : zS) : Prop :=
  ∃ I : Nat → Nat → Int32 → Int64 → Int32 → zS → Prop, (∃ n, I n a0 a1 a2 a4 κ) ∧ ∀ n a0 a1 a2 a4 κ, zW C n0 κ → zT κ a0 = 8 → I n a0 a1 a2 a4 κ →
    (a4 < (0 : Int32) →
      w_Nu_over_59 C n0 Q  a0 a2 κ) ∧
    (¬ a4 < (0 : Int32) →
      (a1 ≤ (0 : Int32) →
        w_Nu_over_59 C n0 Q  a0 a2 κ) ∧
      (¬ a1 ≤ (0 : Int32) →
        inb a4 (zN κ (zR κ nuLimbs a0)) ∧
        ∀ v5_1 : Int64, v5_1 = ((a2 <<< (Int32.toInt64 (31 : Int32) &&& 63)) ||| (Int32.toInt64 (zA κ (zR κ nuLimbs a0) (a4).toNatClampNeg))) →
        ¬ (Int32.toInt64 a1) = 0 ∧
        inb a4 (zN κ (zR κ nuLimbs a0)) ∧
        ∀ κ2, κ2 = ua κ (zR κ nuLimbs a0) (a4).toNatClampNeg (Int64.toInt32 (v5_1 / (Int32.toInt64 a1))) →
        ∀ _ : zW C n0 κ2,
        ¬ (Int32.toInt64 a1) = 0 ∧
        ∀ v2_3 : Int64, v2_3 = (v5_1 - v5_1 / (Int32.toInt64 a1) * (Int32.toInt64 a1)) →
        ∀ v4_4 : Int32, v4_4 = a4 + (-1 : Int32) →
        ∃ k < n, I k a0 a1 v2_3 v4_4 κ2))
theorem t_Nu_over_10 {C : zC} {n0 : Nat} {Q : Int32 → zS → Prop}   {a0 : Nat} {a1 : Int32} {a2 : Int64} {a4 : Int32} {κ : zS} (W : zW C n0 κ) (Ta0 : zT κ a0 = 8) (F : w_Nu_over_10 C n0 Q  a0 a1 a2 a4 κ) : zG C n0 0 mNu_over 10 [some (.ref a0), some (.int a1), some (.long a2), none, some (.int a4), none, none] [] κ (oI Q noX) := by
  obtain ⟨I, ⟨m0, hI0⟩, F0⟩ := F
  have key : ∀ n a0 a1 a2 a4 κ, zW C n0 κ → zT κ a0 = 8 → I n a0 a1 a2 a4 κ → zG C n0 0 mNu_over 10 [some (.ref a0), some (.int a1), some (.long a2), none, some (.int a4), none, none] [] κ (oI Q noX) := by
    intro n
    induction n using Nat.strongRecOn with
    | _ n ih =>
      intro a0 a1 a2 a4 κ W Ta0 hI
      have F := F0 n a0 a1 a2 a4 κ W Ta0 hI
      clear hI hI0
      refine y_il dX5_over_10 rfl ?_
      refine y_i (a4 < (0 : Int32)) dX5_over_12 (t := 59) rfl rfl (fun c9 => ?_) (fun c9 => ?_)
      · replace F := F.1 c9
        exact y_k (t_Nu_over_59  W Ta0 F) ⟨rfl, rfl, trivial⟩
      · replace F := F.2 c9
        refine y_iln dX5_over_15 rfl ?_
        refine y_i (a1 ≤ (0 : Int32)) dX5_over_16 (t := 59) rfl rfl (fun c9 => ?_) (fun c9 => ?_)
        · replace F := F.1 c9
          exact y_k (t_Nu_over_59  W Ta0 F) ⟨rfl, rfl, trivial⟩
        · replace F := F.2 c9
          refine y_lln dX5_over_19 rfl ?_
          refine y_bi1 dX5_over_20 zb_31 ?_
          refine y_lshl dX5_over_22 ?_
          refine y_aln dX5_over_23 rfl ?_
          refine gf_X5_13 W dX5_over_24 rfl Ta0 ?_
          refine y_il dX5_over_27 rfl ?_
          refine y_ald dX5_over_29 (ty_nuLimbs W Ta0) F.1 ?_
          replace F := F.2
          refine y_i2l dX5_over_30 ?_
          refine y_lor dX5_over_31 ?_
          refine y_lsb dX5_over_32 (Nat.le_of_ble_eq_true rfl) (fun v5_1 ev5_1 => ?_)
          replace F := F v5_1 ev5_1
          refine y_aln dX5_over_34 rfl ?_
          refine gf_X5_13 W dX5_over_35 rfl Ta0 ?_
          refine y_il dX5_over_38 rfl ?_
          refine y_ll dX5_over_40 rfl ?_
          refine y_iln dX5_over_42 rfl ?_
          refine y_i2l dX5_over_43 ?_
          refine y_ldiv dX5_over_44 F.1 ?_
          replace F := F.2
          refine y_l2i dX5_over_45 ?_
          refine y_ast W dX5_over_46 (ty_nuLimbs W Ta0) F.1 (fun κ2 eκ2 => ?_)
          replace F := F.2 κ2 eκ2
          have Wκ2 : zW C n0 κ2 := zW_ua W eκ2 (fun h => absurd (h.symm.trans (ty_nuLimbs W Ta0)) (by decide)) (fun h => absurd (h.symm.trans (ty_nuLimbs W Ta0)) (by decide))
          have Mκ2 : zM (zn κ) κ κ2 := by rw [eκ2]; exact zM.of rfl rfl rfl
          replace F := F Wκ2
          refine y_ll dX5_over_47 rfl ?_
          refine y_iln dX5_over_49 rfl ?_
          refine y_i2l dX5_over_50 ?_
          refine y_lrem dX5_over_51 F.1 ?_
          replace F := F.2
          refine y_lsnb dX5_over_52 (Nat.le_of_ble_eq_true rfl) (fun v2_3 ev2_3 => ?_)
          replace F := F v2_3 ev2_3
          refine y_incb dX5_over_53 zi_m1 rfl (Nat.le_of_ble_eq_true rfl) (fun v4_4 ev4_4 => ?_)
          replace F := F v4_4 ev4_4
          refine y_goto dX5_over_56 (t := 10) rfl ?_
          have h5 := (ztm W Mκ2 Ta0)
          obtain ⟨k, hk, hI⟩ := F
          exact y_k (ih k hk _ _ _ _ _ Wκ2 h5 hI) ⟨rfl, rfl, rfl, rfl, trivial⟩
  exact key m0 a0 a1 a2 a4 κ W Ta0 hI0

def w_Nu_over_0 (C : zC) (n0 : Nat) (Q : Int32 → zS → Prop)  (a0 : Nat) (a1 : Int32) (κ : zS) : Prop :=
  ∀ v4_1 : Int32, v4_1 = ((zI κ nuLength a0) - (1 : Int32)) →
  w_Nu_over_10 C n0 Q  a0 a1 (0 : Int64) v4_1 κ
theorem t_Nu_over_0 {C : zC} {n0 : Nat} {Q : Int32 → zS → Prop}   {a0 : Nat} {a1 : Int32} {κ : zS} (W : zW C n0 κ) (Ta0 : zT κ a0 = 8) (F : w_Nu_over_0 C n0 Q  a0 a1 κ) : zG C n0 0 mNu_over 0 [some (.ref a0), some (.int a1), none, none, none, none, none] [] κ (oI Q noX) := by
  unfold w_Nu_over_0 at F
  refine y_lc dX5_over_0 zl_0 ?_
  refine y_lsn dX5_over_1 (Nat.le_of_ble_eq_true rfl) rfl ?_
  refine y_aln dX5_over_2 rfl ?_
  refine gf_X5_25 dX5_over_3 rfl (Or.inl Ta0) ?_
  refine y_ic dX5_over_6 zi_1 ?_
  refine y_isub dX5_over_7 ?_
  refine y_isb dX5_over_8 (Nat.le_of_ble_eq_true rfl) (fun v4_1 ev4_1 => ?_)
  replace F := F v4_1 ev4_1
  exact y_k (t_Nu_over_10  W Ta0 F) ⟨rfl, rfl, rfl, rfl, trivial⟩

theorem Nu_over_run {C : zC} {n0 : Nat} {Q : Int32 → zS → Prop} {a0 : Nat} {a1 : Int32} {κ : zS} (W : zW C n0 κ) (Ta0 : zT κ a0 = 8) (F : w_Nu_over_0 C (zn κ) Q a0 a1 κ) : zRun C 0 mNu_over [.ref a0, .int a1] κ (oI Q noX) := z_run (m_ent _ 5) (t_Nu_over_0 (W.lo (Nat.le_trans W.1.2.1 W.1.2.2) (Nat.le_refl _)) Ta0 F)

theorem dX5_put_0 : decode cX5_put 0 = .ok (.aload_n 0, 1) := by decide +kernel
theorem dX5_put_1 : decode cX5_put 1 = .ok (.getfield 13, 3) := by decide +kernel
theorem dX5_put_4 : decode cX5_put 4 = .ok (.iconst 0, 1) := by decide +kernel
theorem dX5_put_5 : decode cX5_put 5 = .ok (.lload_n 1, 1) := by decide +kernel
theorem dX5_put_6 : decode cX5_put 6 = .ok (.ldc2_w 29, 3) := by decide +kernel
theorem dX5_put_9 : decode cX5_put 9 = .ok (.land, 1) := by decide +kernel
theorem dX5_put_10 : decode cX5_put 10 = .ok (.l2i, 1) := by decide +kernel
theorem dX5_put_11 : decode cX5_put 11 = .ok (.iastore, 1) := by decide +kernel
theorem dX5_put_12 : decode cX5_put 12 = .ok (.aload_n 0, 1) := by decide +kernel
theorem dX5_put_13 : decode cX5_put 13 = .ok (.getfield 13, 3) := by decide +kernel
theorem dX5_put_16 : decode cX5_put 16 = .ok (.iconst 1, 1) := by decide +kernel
theorem dX5_put_17 : decode cX5_put 17 = .ok (.lload_n 1, 1) := by decide +kernel
theorem dX5_put_18 : decode cX5_put 18 = .ok (.bipush 31, 2) := by decide +kernel
theorem dX5_put_20 : decode cX5_put 20 = .ok (.lushr, 1) := by decide +kernel
theorem dX5_put_21 : decode cX5_put 21 = .ok (.l2i, 1) := by decide +kernel
theorem dX5_put_22 : decode cX5_put 22 = .ok (.iastore, 1) := by decide +kernel
theorem dX5_put_23 : decode cX5_put 23 = .ok (.aload_n 0, 1) := by decide +kernel
theorem dX5_put_24 : decode cX5_put 24 = .ok (.aload_n 0, 1) := by decide +kernel
theorem dX5_put_25 : decode cX5_put 25 = .ok (.getfield 13, 3) := by decide +kernel
theorem dX5_put_28 : decode cX5_put 28 = .ok (.iconst 1, 1) := by decide +kernel
theorem dX5_put_29 : decode cX5_put 29 = .ok (.iaload, 1) := by decide +kernel
theorem dX5_put_30 : decode cX5_put 30 = .ok (.ifCond .eq 7, 3) := by decide +kernel
theorem dX5_put_33 : decode cX5_put 33 = .ok (.iconst 2, 1) := by decide +kernel
theorem dX5_put_34 : decode cX5_put 34 = .ok (.goto 17, 3) := by decide +kernel
theorem dX5_put_37 : decode cX5_put 37 = .ok (.aload_n 0, 1) := by decide +kernel
theorem dX5_put_38 : decode cX5_put 38 = .ok (.getfield 13, 3) := by decide +kernel
theorem dX5_put_41 : decode cX5_put 41 = .ok (.iconst 0, 1) := by decide +kernel
theorem dX5_put_42 : decode cX5_put 42 = .ok (.iaload, 1) := by decide +kernel
theorem dX5_put_43 : decode cX5_put 43 = .ok (.ifCond .eq 7, 3) := by decide +kernel
theorem dX5_put_46 : decode cX5_put 46 = .ok (.iconst 1, 1) := by decide +kernel
theorem dX5_put_47 : decode cX5_put 47 = .ok (.goto 4, 3) := by decide +kernel
theorem dX5_put_50 : decode cX5_put 50 = .ok (.iconst 0, 1) := by decide +kernel
theorem dX5_put_51 : decode cX5_put 51 = .ok (.putfield 25, 3) := by decide +kernel
theorem dX5_put_54 : decode cX5_put 54 = .ok (.return_, 1) := by decide +kernel
def w_Nu_put_0 (C : zC) (n0 : Nat) (Q : zS → Prop)  (a0 : Nat) (a1 : Int64) (κ : zS) : Prop :=
  inb (0 : Int32) (zN κ (zR κ nuLimbs a0)) ∧
  ∀ κ1, κ1 = ua κ (zR κ nuLimbs a0) ((0 : Int32)).toNatClampNeg (Int64.toInt32 (a1 &&& (2147483647 : Int64))) →
  ∀ _ : zW C n0 κ1,
  inb (1 : Int32) (zN κ1 (zR κ1 nuLimbs a0)) ∧
  ∀ κ3, κ3 = ua κ1 (zR κ1 nuLimbs a0) ((1 : Int32)).toNatClampNeg (Int64.toInt32 (Int64.toUInt64 a1 >>> (Int64.toUInt64 (Int32.toInt64 (31 : Int32)) &&& Int64.toUInt64 63)).toInt64) →
  ∀ _ : zW C n0 κ3,
  inb (1 : Int32) (zN κ3 (zR κ3 nuLimbs a0)) ∧
  ((zA κ3 (zR κ3 nuLimbs a0) ((1 : Int32)).toNatClampNeg) = (0 : Int32) →
    inb (0 : Int32) (zN κ3 (zR κ3 nuLimbs a0)) ∧
    ((zA κ3 (zR κ3 nuLimbs a0) ((0 : Int32)).toNatClampNeg) = (0 : Int32) →
      ∀ κ5, κ5 = ui κ3 nuLength a0 (0 : Int32) →
      ∀ _ : zW C n0 κ5,
      Q κ5) ∧
    (¬ (zA κ3 (zR κ3 nuLimbs a0) ((0 : Int32)).toNatClampNeg) = (0 : Int32) →
      ∀ κ6, κ6 = ui κ3 nuLength a0 (1 : Int32) →
      ∀ _ : zW C n0 κ6,
      Q κ6)) ∧
  (¬ (zA κ3 (zR κ3 nuLimbs a0) ((1 : Int32)).toNatClampNeg) = (0 : Int32) →
    ∀ κ7, κ7 = ui κ3 nuLength a0 (2 : Int32) →
    ∀ _ : zW C n0 κ7,
    Q κ7)
theorem t_Nu_put_0 {C : zC} {n0 : Nat} {Q : zS → Prop}   {a0 : Nat} {a1 : Int64} {κ : zS} (W : zW C n0 κ) (Ta0 : zT κ a0 = 8) (F : w_Nu_put_0 C n0 Q  a0 a1 κ) : zG C n0 0 mNu_put 0 [some (.ref a0), some (.long a1), none] [] κ (oV Q noX) := by
  unfold w_Nu_put_0 at F
  refine y_aln dX5_put_0 rfl ?_
  refine gf_X5_13 W dX5_put_1 rfl Ta0 ?_
  refine y_ic dX5_put_4 zi_0 ?_
  refine y_lln dX5_put_5 rfl ?_
  refine y_ldcl dX5_put_6 rfl zcl_X5_29 ?_
  refine y_land dX5_put_9 ?_
  refine y_l2i dX5_put_10 ?_
  refine y_ast W dX5_put_11 (ty_nuLimbs W Ta0) F.1 (fun κ1 eκ1 => ?_)
  replace F := F.2 κ1 eκ1
  have Wκ1 : zW C n0 κ1 := zW_ua W eκ1 (fun h => absurd (h.symm.trans (ty_nuLimbs W Ta0)) (by decide)) (fun h => absurd (h.symm.trans (ty_nuLimbs W Ta0)) (by decide))
  have Mκ1 : zM (zn κ) κ κ1 := by rw [eκ1]; exact zM.of rfl rfl rfl
  replace F := F Wκ1
  refine y_aln dX5_put_12 rfl ?_
  have h2 := (ztm W Mκ1 Ta0)
  refine gf_X5_13 Wκ1 dX5_put_13 rfl h2 ?_
  refine y_ic dX5_put_16 zi_1 ?_
  refine y_lln dX5_put_17 rfl ?_
  refine y_bi1 dX5_put_18 zb_31 ?_
  refine y_lushr dX5_put_20 ?_
  refine y_l2i dX5_put_21 ?_
  refine y_ast Wκ1 dX5_put_22 (ty_nuLimbs Wκ1 h2) F.1 (fun κ3 eκ3 => ?_)
  replace F := F.2 κ3 eκ3
  have Wκ3 : zW C n0 κ3 := zW_ua Wκ1 eκ3 (fun h => absurd (h.symm.trans (ty_nuLimbs Wκ1 h2)) (by decide)) (fun h => absurd (h.symm.trans (ty_nuLimbs Wκ1 h2)) (by decide))
  have Mκ3 : zM (zn κ1) κ1 κ3 := by rw [eκ3]; exact zM.of rfl rfl rfl
  replace F := F Wκ3
  refine y_aln dX5_put_23 rfl ?_
  refine y_aln dX5_put_24 rfl ?_
  have h4 := (ztm Wκ1 Mκ3 h2)
  refine gf_X5_13 Wκ3 dX5_put_25 rfl h4 ?_
  refine y_ic dX5_put_28 zi_1 ?_
  refine y_ald dX5_put_29 (ty_nuLimbs Wκ3 h4) F.1 ?_
  replace F := F.2
  refine y_i ((zA κ3 (zR κ3 nuLimbs a0) ((1 : Int32)).toNatClampNeg) = (0 : Int32)) dX5_put_30 (t := 37) rfl rfl (fun c9 => ?_) (fun c9 => ?_)
  · replace F := F.1 c9
    refine y_aln dX5_put_37 rfl ?_
    refine gf_X5_13 Wκ3 dX5_put_38 rfl h4 ?_
    refine y_ic dX5_put_41 zi_0 ?_
    refine y_ald dX5_put_42 (ty_nuLimbs Wκ3 h4) F.1 ?_
    replace F := F.2
    refine y_i ((zA κ3 (zR κ3 nuLimbs a0) ((0 : Int32)).toNatClampNeg) = (0 : Int32)) dX5_put_43 (t := 50) rfl rfl (fun c9 => ?_) (fun c9 => ?_)
    · replace F := F.1 c9
      refine y_ic dX5_put_50 zi_0 ?_
      refine pf_X5_25 Wκ3 dX5_put_51 rfl (Or.inl h4) (fun κ5 eκ5 => ?_)
      replace F := F κ5 eκ5
      have Wκ5 : zW C n0 κ5 := zW_ui Wκ3 eκ5 (fun h => absurd h (by decide))
      have Mκ5 : zM (zn κ3) κ3 κ5 := by rw [eκ5]; exact zM.of rfl rfl rfl
      replace F := F Wκ5
      exact y_rv Wκ5 dX5_put_54 rfl F
    · replace F := F.2 c9
      refine y_ic dX5_put_46 zi_1 ?_
      refine y_goto dX5_put_47 (t := 51) rfl ?_
      refine pf_X5_25 Wκ3 dX5_put_51 rfl (Or.inl h4) (fun κ6 eκ6 => ?_)
      replace F := F κ6 eκ6
      have Wκ6 : zW C n0 κ6 := zW_ui Wκ3 eκ6 (fun h => absurd h (by decide))
      have Mκ6 : zM (zn κ3) κ3 κ6 := by rw [eκ6]; exact zM.of rfl rfl rfl
      replace F := F Wκ6
      exact y_rv Wκ6 dX5_put_54 rfl F
  · replace F := F.2 c9
    refine y_ic dX5_put_33 zi_2 ?_
    refine y_goto dX5_put_34 (t := 51) rfl ?_
    refine pf_X5_25 Wκ3 dX5_put_51 rfl (Or.inl h4) (fun κ7 eκ7 => ?_)
    replace F := F κ7 eκ7
    have Wκ7 : zW C n0 κ7 := zW_ui Wκ3 eκ7 (fun h => absurd h (by decide))
    have Mκ7 : zM (zn κ3) κ3 κ7 := by rw [eκ7]; exact zM.of rfl rfl rfl
    replace F := F Wκ7
    exact y_rv Wκ7 dX5_put_54 rfl F

theorem Nu_put_run {C : zC} {n0 : Nat} {Q : zS → Prop} {a0 : Nat} {a1 : Int64} {κ : zS} (W : zW C n0 κ) (Ta0 : zT κ a0 = 8) (F : w_Nu_put_0 C (zn κ) Q a0 a1 κ) : zRun C 0 mNu_put [.ref a0, .long a1] κ (oV Q noX) := z_run (m_ent _ 0) (t_Nu_put_0 (W.lo (Nat.le_trans W.1.2.1 W.1.2.2) (Nat.le_refl _)) Ta0 F)

theorem dX5_shiftBack_0 : decode cX5_shiftBack 0 = .ok (.aload_n 0, 1) := by decide +kernel
theorem dX5_shiftBack_1 : decode cX5_shiftBack 1 = .ok (.iload_n 1, 1) := by decide +kernel
theorem dX5_shiftBack_2 : decode cX5_shiftBack 2 = .ok (.aload_n 0, 1) := by decide +kernel
theorem dX5_shiftBack_3 : decode cX5_shiftBack 3 = .ok (.getfield 13, 3) := by decide +kernel
theorem dX5_shiftBack_6 : decode cX5_shiftBack 6 = .ok (.arraylength, 1) := by decide +kernel
theorem dX5_shiftBack_7 : decode cX5_shiftBack 7 = .ok (.invokestatic 53, 3) := by decide +kernel
theorem dX5_shiftBack_10 : decode cX5_shiftBack 10 = .ok (.putfield 25, 3) := by decide +kernel
theorem dX5_shiftBack_13 : decode cX5_shiftBack 13 = .ok (.iconst 0, 1) := by decide +kernel
theorem dX5_shiftBack_14 : decode cX5_shiftBack 14 = .ok (.istore_n 3, 1) := by decide +kernel
theorem dX5_shiftBack_15 : decode cX5_shiftBack 15 = .ok (.iload_n 3, 1) := by decide +kernel
theorem dX5_shiftBack_16 : decode cX5_shiftBack 16 = .ok (.aload_n 0, 1) := by decide +kernel
theorem dX5_shiftBack_17 : decode cX5_shiftBack 17 = .ok (.getfield 25, 3) := by decide +kernel
theorem dX5_shiftBack_20 : decode cX5_shiftBack 20 = .ok (.if_icmp .ge 60, 3) := by decide +kernel
theorem dX5_shiftBack_23 : decode cX5_shiftBack 23 = .ok (.iload_n 3, 1) := by decide +kernel
theorem dX5_shiftBack_24 : decode cX5_shiftBack 24 = .ok (.iconst 1, 1) := by decide +kernel
theorem dX5_shiftBack_25 : decode cX5_shiftBack 25 = .ok (.iadd, 1) := by decide +kernel
theorem dX5_shiftBack_26 : decode cX5_shiftBack 26 = .ok (.aload_n 0, 1) := by decide +kernel
theorem dX5_shiftBack_27 : decode cX5_shiftBack 27 = .ok (.getfield 25, 3) := by decide +kernel
theorem dX5_shiftBack_30 : decode cX5_shiftBack 30 = .ok (.if_icmp .ge 15, 3) := by decide +kernel
theorem dX5_shiftBack_33 : decode cX5_shiftBack 33 = .ok (.aload_n 0, 1) := by decide +kernel
theorem dX5_shiftBack_34 : decode cX5_shiftBack 34 = .ok (.getfield 13, 3) := by decide +kernel
theorem dX5_shiftBack_37 : decode cX5_shiftBack 37 = .ok (.iload_n 3, 1) := by decide +kernel
theorem dX5_shiftBack_38 : decode cX5_shiftBack 38 = .ok (.iconst 1, 1) := by decide +kernel
theorem dX5_shiftBack_39 : decode cX5_shiftBack 39 = .ok (.iadd, 1) := by decide +kernel
theorem dX5_shiftBack_40 : decode cX5_shiftBack 40 = .ok (.iaload, 1) := by decide +kernel
theorem dX5_shiftBack_41 : decode cX5_shiftBack 41 = .ok (.i2l, 1) := by decide +kernel
theorem dX5_shiftBack_42 : decode cX5_shiftBack 42 = .ok (.goto 4, 3) := by decide +kernel
theorem dX5_shiftBack_45 : decode cX5_shiftBack 45 = .ok (.lconst 0, 1) := by decide +kernel
theorem dX5_shiftBack_46 : decode cX5_shiftBack 46 = .ok (.lstore 4, 2) := by decide +kernel
theorem dX5_shiftBack_48 : decode cX5_shiftBack 48 = .ok (.aload_n 0, 1) := by decide +kernel
theorem dX5_shiftBack_49 : decode cX5_shiftBack 49 = .ok (.getfield 13, 3) := by decide +kernel
theorem dX5_shiftBack_52 : decode cX5_shiftBack 52 = .ok (.iload_n 3, 1) := by decide +kernel
theorem dX5_shiftBack_53 : decode cX5_shiftBack 53 = .ok (.lload 4, 2) := by decide +kernel
theorem dX5_shiftBack_55 : decode cX5_shiftBack 55 = .ok (.bipush 31, 2) := by decide +kernel
theorem dX5_shiftBack_57 : decode cX5_shiftBack 57 = .ok (.lshl, 1) := by decide +kernel
theorem dX5_shiftBack_58 : decode cX5_shiftBack 58 = .ok (.aload_n 0, 1) := by decide +kernel
theorem dX5_shiftBack_59 : decode cX5_shiftBack 59 = .ok (.getfield 13, 3) := by decide +kernel
theorem dX5_shiftBack_62 : decode cX5_shiftBack 62 = .ok (.iload_n 3, 1) := by decide +kernel
theorem dX5_shiftBack_63 : decode cX5_shiftBack 63 = .ok (.iaload, 1) := by decide +kernel
theorem dX5_shiftBack_64 : decode cX5_shiftBack 64 = .ok (.i2l, 1) := by decide +kernel
theorem dX5_shiftBack_65 : decode cX5_shiftBack 65 = .ok (.lor, 1) := by decide +kernel
theorem dX5_shiftBack_66 : decode cX5_shiftBack 66 = .ok (.iload_n 2, 1) := by decide +kernel
theorem dX5_shiftBack_67 : decode cX5_shiftBack 67 = .ok (.lushr, 1) := by decide +kernel
theorem dX5_shiftBack_68 : decode cX5_shiftBack 68 = .ok (.ldc2_w 29, 3) := by decide +kernel
theorem dX5_shiftBack_71 : decode cX5_shiftBack 71 = .ok (.land, 1) := by decide +kernel
theorem dX5_shiftBack_72 : decode cX5_shiftBack 72 = .ok (.l2i, 1) := by decide +kernel
theorem dX5_shiftBack_73 : decode cX5_shiftBack 73 = .ok (.iastore, 1) := by decide +kernel
theorem dX5_shiftBack_74 : decode cX5_shiftBack 74 = .ok (.iinc 3 1, 3) := by decide +kernel
theorem dX5_shiftBack_77 : decode cX5_shiftBack 77 = .ok (.goto (-62), 3) := by decide +kernel
theorem dX5_shiftBack_80 : decode cX5_shiftBack 80 = .ok (.aload_n 0, 1) := by decide +kernel
theorem dX5_shiftBack_81 : decode cX5_shiftBack 81 = .ok (.getfield 25, 3) := by decide +kernel
theorem dX5_shiftBack_84 : decode cX5_shiftBack 84 = .ok (.ifCond .le 30, 3) := by decide +kernel
theorem dX5_shiftBack_87 : decode cX5_shiftBack 87 = .ok (.aload_n 0, 1) := by decide +kernel
theorem dX5_shiftBack_88 : decode cX5_shiftBack 88 = .ok (.getfield 13, 3) := by decide +kernel
theorem dX5_shiftBack_91 : decode cX5_shiftBack 91 = .ok (.aload_n 0, 1) := by decide +kernel
theorem dX5_shiftBack_92 : decode cX5_shiftBack 92 = .ok (.getfield 25, 3) := by decide +kernel
theorem dX5_shiftBack_95 : decode cX5_shiftBack 95 = .ok (.iconst 1, 1) := by decide +kernel
theorem dX5_shiftBack_96 : decode cX5_shiftBack 96 = .ok (.isub, 1) := by decide +kernel
theorem dX5_shiftBack_97 : decode cX5_shiftBack 97 = .ok (.iaload, 1) := by decide +kernel
theorem dX5_shiftBack_98 : decode cX5_shiftBack 98 = .ok (.ifCond .ne 16, 3) := by decide +kernel
theorem dX5_shiftBack_101 : decode cX5_shiftBack 101 = .ok (.aload_n 0, 1) := by decide +kernel
theorem dX5_shiftBack_102 : decode cX5_shiftBack 102 = .ok (.dup, 1) := by decide +kernel
theorem dX5_shiftBack_103 : decode cX5_shiftBack 103 = .ok (.getfield 25, 3) := by decide +kernel
theorem dX5_shiftBack_106 : decode cX5_shiftBack 106 = .ok (.iconst 1, 1) := by decide +kernel
theorem dX5_shiftBack_107 : decode cX5_shiftBack 107 = .ok (.isub, 1) := by decide +kernel
theorem dX5_shiftBack_108 : decode cX5_shiftBack 108 = .ok (.putfield 25, 3) := by decide +kernel
theorem dX5_shiftBack_111 : decode cX5_shiftBack 111 = .ok (.goto (-31), 3) := by decide +kernel
theorem dX5_shiftBack_114 : decode cX5_shiftBack 114 = .ok (.return_, 1) := by decide +kernel
def w_Nu_shiftBack_46 (C : zC) (n0 : Nat) (Q : zS → Prop) (B15 : Nat → Int32 → Int32 → zS → Prop) (a0 : Nat) (a2 : Int32) (a3 : Int32) (s0 : Int64) (κ : zS) : Prop :=
  inb a3 (zN κ (zR κ nuLimbs a0)) ∧
  inb a3 (zN κ (zR κ nuLimbs a0)) ∧
  ∀ κ1, κ1 = ua κ (zR κ nuLimbs a0) (a3).toNatClampNeg (Int64.toInt32 ((Int64.toUInt64 ((s0 <<< (Int32.toInt64 (31 : Int32) &&& 63)) ||| (Int32.toInt64 (zA κ (zR κ nuLimbs a0) (a3).toNatClampNeg))) >>> (Int64.toUInt64 (Int32.toInt64 a2) &&& Int64.toUInt64 63)).toInt64 &&& (2147483647 : Int64))) →
  ∀ _ : zW C n0 κ1,
  ∀ v3_2 : Int32, v3_2 = a3 + (1 : Int32) →
  B15 a0 a2 v3_2 κ1
theorem t_Nu_shiftBack_46 {C : zC} {n0 : Nat} {Q : zS → Prop} {B15 : Nat → Int32 → Int32 → zS → Prop} (hB15 : ∀ a0' a2' a3' τ, zW C n0 τ → zT τ a0' = 8 → B15 a0' a2' a3' τ → zG C n0 1 mNu_shiftBack 15 [some (.ref a0'), none, some (.int a2'), some (.int a3'), none, none] [] τ (oV Q noX)) {a0 : Nat} {a2 : Int32} {a3 : Int32} {s0 : Int64} {κ : zS} (W : zW C n0 κ) (Ta0 : zT κ a0 = 8) (F : w_Nu_shiftBack_46 C n0 Q B15 a0 a2 a3 s0 κ) : zG C n0 1 mNu_shiftBack 46 [some (.ref a0), none, some (.int a2), some (.int a3), none, none] [.long s0] κ (oV Q noX) := by
  unfold w_Nu_shiftBack_46 at F
  refine y_ls dX5_shiftBack_46 (Nat.le_of_ble_eq_true rfl) rfl ?_
  refine y_aln dX5_shiftBack_48 rfl ?_
  refine gf_X5_13 W dX5_shiftBack_49 rfl Ta0 ?_
  refine y_iln dX5_shiftBack_52 rfl ?_
  refine y_ll dX5_shiftBack_53 rfl ?_
  refine y_bi1 dX5_shiftBack_55 zb_31 ?_
  refine y_lshl dX5_shiftBack_57 ?_
  refine y_aln dX5_shiftBack_58 rfl ?_
  refine gf_X5_13 W dX5_shiftBack_59 rfl Ta0 ?_
  refine y_iln dX5_shiftBack_62 rfl ?_
  refine y_ald dX5_shiftBack_63 (ty_nuLimbs W Ta0) F.1 ?_
  replace F := F.2
  refine y_i2l dX5_shiftBack_64 ?_
  refine y_lor dX5_shiftBack_65 ?_
  refine y_iln dX5_shiftBack_66 rfl ?_
  refine y_lushr dX5_shiftBack_67 ?_
  refine y_ldcl dX5_shiftBack_68 rfl zcl_X5_29 ?_
  refine y_land dX5_shiftBack_71 ?_
  refine y_l2i dX5_shiftBack_72 ?_
  refine y_ast W dX5_shiftBack_73 (ty_nuLimbs W Ta0) F.1 (fun κ1 eκ1 => ?_)
  replace F := F.2 κ1 eκ1
  have Wκ1 : zW C n0 κ1 := zW_ua W eκ1 (fun h => absurd (h.symm.trans (ty_nuLimbs W Ta0)) (by decide)) (fun h => absurd (h.symm.trans (ty_nuLimbs W Ta0)) (by decide))
  have Mκ1 : zM (zn κ) κ κ1 := by rw [eκ1]; exact zM.of rfl rfl rfl
  replace F := F Wκ1
  refine y_incb dX5_shiftBack_74 zi_1 rfl (Nat.le_of_ble_eq_true rfl) (fun v3_2 ev3_2 => ?_)
  replace F := F v3_2 ev3_2
  refine y_goto dX5_shiftBack_77 (t := 15) rfl ?_
  have h3 := (ztm W Mκ1 Ta0)
  exact y_k (hB15 _ _ _ _ Wκ1 h3 F) ⟨rfl, rfl, rfl, trivial⟩

def w_Nu_shiftBack_80 (C : zC) (n0 : Nat) (Q : zS → Prop)  (a0 : Nat) (κ : zS) : Prop :=
  ∃ I : Nat → Nat → zS → Prop, (∃ n, I n a0 κ) ∧ ∀ n a0 κ, zW C n0 κ → zT κ a0 = 8 → I n a0 κ →
    ((zI κ nuLength a0) ≤ (0 : Int32) →
      Q κ) ∧
    (¬ (zI κ nuLength a0) ≤ (0 : Int32) →
      inb ((zI κ nuLength a0) - (1 : Int32)) (zN κ (zR κ nuLimbs a0)) ∧
      (¬ (zA κ (zR κ nuLimbs a0) (((zI κ nuLength a0) - (1 : Int32))).toNatClampNeg) = (0 : Int32) →
        Q κ) ∧
      ((zA κ (zR κ nuLimbs a0) (((zI κ nuLength a0) - (1 : Int32))).toNatClampNeg) = (0 : Int32) →
        ∀ κ1, κ1 = ui κ nuLength a0 ((zI κ nuLength a0) - (1 : Int32)) →
        ∀ _ : zW C n0 κ1,
        ∃ k < n, I k a0 κ1))
theorem t_Nu_shiftBack_80 {C : zC} {n0 : Nat} {Q : zS → Prop}   {a0 : Nat} {κ : zS} (W : zW C n0 κ) (Ta0 : zT κ a0 = 8) (F : w_Nu_shiftBack_80 C n0 Q  a0 κ) : zG C n0 1 mNu_shiftBack 80 [some (.ref a0), none, none, none, none, none] [] κ (oV Q noX) := by
  obtain ⟨I, ⟨m0, hI0⟩, F0⟩ := F
  have key : ∀ n a0 κ, zW C n0 κ → zT κ a0 = 8 → I n a0 κ → zG C n0 1 mNu_shiftBack 80 [some (.ref a0), none, none, none, none, none] [] κ (oV Q noX) := by
    intro n
    induction n using Nat.strongRecOn with
    | _ n ih =>
      intro a0 κ W Ta0 hI
      have F := F0 n a0 κ W Ta0 hI
      clear hI hI0
      refine y_aln dX5_shiftBack_80 rfl ?_
      refine gf_X5_25 dX5_shiftBack_81 rfl (Or.inl Ta0) ?_
      refine y_i ((zI κ nuLength a0) ≤ (0 : Int32)) dX5_shiftBack_84 (t := 114) rfl rfl (fun c9 => ?_) (fun c9 => ?_)
      · replace F := F.1 c9
        exact y_rv W dX5_shiftBack_114 rfl F
      · replace F := F.2 c9
        refine y_aln dX5_shiftBack_87 rfl ?_
        refine gf_X5_13 W dX5_shiftBack_88 rfl Ta0 ?_
        refine y_aln dX5_shiftBack_91 rfl ?_
        refine gf_X5_25 dX5_shiftBack_92 rfl (Or.inl Ta0) ?_
        refine y_ic dX5_shiftBack_95 zi_1 ?_
        refine y_isub dX5_shiftBack_96 ?_
        refine y_ald dX5_shiftBack_97 (ty_nuLimbs W Ta0) F.1 ?_
        replace F := F.2
        refine y_in ((zA κ (zR κ nuLimbs a0) (((zI κ nuLength a0) - (1 : Int32))).toNatClampNeg) = (0 : Int32)) dX5_shiftBack_98 (t := 114) rfl rfl (fun c9 => ?_) (fun c9 => ?_)
        · replace F := F.1 c9
          exact y_rv W dX5_shiftBack_114 rfl F
        · replace F := F.2 c9
          refine y_aln dX5_shiftBack_101 rfl ?_
          refine y_dup dX5_shiftBack_102 rfl ?_
          refine gf_X5_25 dX5_shiftBack_103 rfl (Or.inl Ta0) ?_
          refine y_ic dX5_shiftBack_106 zi_1 ?_
          refine y_isub dX5_shiftBack_107 ?_
          refine pf_X5_25 W dX5_shiftBack_108 rfl (Or.inl Ta0) (fun κ1 eκ1 => ?_)
          replace F := F κ1 eκ1
          have Wκ1 : zW C n0 κ1 := zW_ui W eκ1 (fun h => absurd h (by decide))
          have Mκ1 : zM (zn κ) κ κ1 := by rw [eκ1]; exact zM.of rfl rfl rfl
          replace F := F Wκ1
          refine y_goto dX5_shiftBack_111 (t := 80) rfl ?_
          have h2 := (ztm W Mκ1 Ta0)
          obtain ⟨k, hk, hI⟩ := F
          exact y_k (ih k hk _ _ Wκ1 h2 hI) ⟨rfl, trivial⟩
  exact key m0 a0 κ W Ta0 hI0

def w_Nu_shiftBack_15 (C : zC) (n0 : Nat) (Q : zS → Prop)  (a0 : Nat) (a2 : Int32) (a3 : Int32) (κ : zS) : Prop :=
  ∃ I : Nat → Nat → Int32 → Int32 → zS → Prop, (∃ n, I n a0 a2 a3 κ) ∧ ∀ n a0 a2 a3 κ, zW C n0 κ → zT κ a0 = 8 → I n a0 a2 a3 κ →
    ((zI κ nuLength a0) ≤ a3 →
      w_Nu_shiftBack_80 C n0 Q  a0 κ) ∧
    (¬ (zI κ nuLength a0) ≤ a3 →
      ((zI κ nuLength a0) ≤ (a3 + (1 : Int32)) →
        w_Nu_shiftBack_46 C n0 Q (fun a0' a2' a3' τ => ∃ k < n, I k a0' a2' a3' τ) a0 a2 a3 (0 : Int64) κ) ∧
      (¬ (zI κ nuLength a0) ≤ (a3 + (1 : Int32)) →
        inb (a3 + (1 : Int32)) (zN κ (zR κ nuLimbs a0)) ∧
        w_Nu_shiftBack_46 C n0 Q (fun a0' a2' a3' τ => ∃ k < n, I k a0' a2' a3' τ) a0 a2 a3 (Int32.toInt64 (zA κ (zR κ nuLimbs a0) ((a3 + (1 : Int32))).toNatClampNeg)) κ))
theorem t_Nu_shiftBack_15 {C : zC} {n0 : Nat} {Q : zS → Prop}   {a0 : Nat} {a2 : Int32} {a3 : Int32} {κ : zS} (W : zW C n0 κ) (Ta0 : zT κ a0 = 8) (F : w_Nu_shiftBack_15 C n0 Q  a0 a2 a3 κ) : zG C n0 1 mNu_shiftBack 15 [some (.ref a0), none, some (.int a2), some (.int a3), none, none] [] κ (oV Q noX) := by
  obtain ⟨I, ⟨m0, hI0⟩, F0⟩ := F
  have key : ∀ n a0 a2 a3 κ, zW C n0 κ → zT κ a0 = 8 → I n a0 a2 a3 κ → zG C n0 1 mNu_shiftBack 15 [some (.ref a0), none, some (.int a2), some (.int a3), none, none] [] κ (oV Q noX) := by
    intro n
    induction n using Nat.strongRecOn with
    | _ n ih =>
      intro a0 a2 a3 κ W Ta0 hI
      have F := F0 n a0 a2 a3 κ W Ta0 hI
      clear hI hI0
      refine y_iln dX5_shiftBack_15 rfl ?_
      refine y_aln dX5_shiftBack_16 rfl ?_
      refine gf_X5_25 dX5_shiftBack_17 rfl (Or.inl Ta0) ?_
      refine y_ii ((zI κ nuLength a0) ≤ a3) dX5_shiftBack_20 (t := 80) rfl rfl (fun c9 => ?_) (fun c9 => ?_)
      · replace F := F.1 c9
        exact y_k (t_Nu_shiftBack_80  W Ta0 F) ⟨rfl, trivial⟩
      · replace F := F.2 c9
        refine y_iln dX5_shiftBack_23 rfl ?_
        refine y_ic dX5_shiftBack_24 zi_1 ?_
        refine y_iadd dX5_shiftBack_25 ?_
        refine y_aln dX5_shiftBack_26 rfl ?_
        refine gf_X5_25 dX5_shiftBack_27 rfl (Or.inl Ta0) ?_
        refine y_ii ((zI κ nuLength a0) ≤ (a3 + (1 : Int32))) dX5_shiftBack_30 (t := 45) rfl rfl (fun c9 => ?_) (fun c9 => ?_)
        · replace F := F.1 c9
          refine y_lc dX5_shiftBack_45 zl_0 ?_
          exact y_k (t_Nu_shiftBack_46 (fun a0' a2' a3' τ w9 f09 hb => by obtain ⟨k, hk, hI⟩ := hb; exact ih k hk a0' a2' a3' τ w9 f09 hI) W Ta0 F) ⟨rfl, rfl, rfl, trivial⟩
        · replace F := F.2 c9
          refine y_aln dX5_shiftBack_33 rfl ?_
          refine gf_X5_13 W dX5_shiftBack_34 rfl Ta0 ?_
          refine y_iln dX5_shiftBack_37 rfl ?_
          refine y_ic dX5_shiftBack_38 zi_1 ?_
          refine y_iadd dX5_shiftBack_39 ?_
          refine y_ald dX5_shiftBack_40 (ty_nuLimbs W Ta0) F.1 ?_
          replace F := F.2
          refine y_i2l dX5_shiftBack_41 ?_
          refine y_goto dX5_shiftBack_42 (t := 46) rfl ?_
          exact y_k (t_Nu_shiftBack_46 (fun a0' a2' a3' τ w9 f09 hb => by obtain ⟨k, hk, hI⟩ := hb; exact ih k hk a0' a2' a3' τ w9 f09 hI) W Ta0 F) ⟨rfl, rfl, rfl, trivial⟩
  exact key m0 a0 a2 a3 κ W Ta0 hI0

def w_Nu_shiftBack_0 (C : zC) (n0 : Nat) (Q : zS → Prop)  (a0 : Nat) (a1 : Int32) (a2 : Int32) (κ : zS) : Prop :=
  ∀ κ1, κ1 = ui κ nuLength a0 (if (Int32.ofNat (zN κ (zR κ nuLimbs a0))) < a1 then (Int32.ofNat (zN κ (zR κ nuLimbs a0))) else a1) →
  ∀ _ : zW C n0 κ1,
  w_Nu_shiftBack_15 C n0 Q  a0 a2 (0 : Int32) κ1
theorem t_Nu_shiftBack_0 {C : zC} {n0 : Nat} {Q : zS → Prop}   {a0 : Nat} {a1 : Int32} {a2 : Int32} {κ : zS} (W : zW C n0 κ) (Ta0 : zT κ a0 = 8) (F : w_Nu_shiftBack_0 C n0 Q  a0 a1 a2 κ) : zG C n0 1 mNu_shiftBack 0 [some (.ref a0), some (.int a1), some (.int a2), none, none, none] [] κ (oV Q noX) := by
  unfold w_Nu_shiftBack_0 at F
  refine y_aln dX5_shiftBack_0 rfl ?_
  refine y_iln dX5_shiftBack_1 rfl ?_
  refine y_aln dX5_shiftBack_2 rfl ?_
  refine gf_X5_13 W dX5_shiftBack_3 rfl Ta0 ?_
  refine y_alen (t := 0) dX5_shiftBack_6 (ty_nuLimbs W Ta0) (by decide) ?_
  refine y_min dX5_shiftBack_7 rfl zbi_X5_53 (Nat.le_of_ble_eq_true rfl) (Nat.le_of_ble_eq_true rfl) ?_
  refine pf_X5_25 W dX5_shiftBack_10 rfl (Or.inl Ta0) (fun κ1 eκ1 => ?_)
  replace F := F κ1 eκ1
  have Wκ1 : zW C n0 κ1 := zW_ui W eκ1 (fun h => absurd h (by decide))
  have Mκ1 : zM (zn κ) κ κ1 := by rw [eκ1]; exact zM.of rfl rfl rfl
  replace F := F Wκ1
  refine y_ic dX5_shiftBack_13 zi_0 ?_
  refine y_isn dX5_shiftBack_14 (Nat.le_of_ble_eq_true rfl) rfl ?_
  have h2 := (ztm W Mκ1 Ta0)
  exact y_k (t_Nu_shiftBack_15  Wκ1 h2 F) ⟨rfl, rfl, rfl, trivial⟩

theorem Nu_shiftBack_run {C : zC} {n0 : Nat} {Q : zS → Prop} {a0 : Nat} {a1 : Int32} {a2 : Int32} {κ : zS} (W : zW C n0 κ) (Ta0 : zT κ a0 = 8) (F : w_Nu_shiftBack_0 C (zn κ) Q a0 a1 a2 κ) : zRun C 1 mNu_shiftBack [.ref a0, .int a1, .int a2] κ (oV Q noX) := z_run (m_ent _ 3) (t_Nu_shiftBack_0 (W.lo (Nat.le_trans W.1.2.1 W.1.2.2) (Nat.le_refl _)) Ta0 F)

theorem dX5_shiftFrom_0 : decode cX5_shiftFrom 0 = .ok (.aload_n 1, 1) := by decide +kernel
theorem dX5_shiftFrom_1 : decode cX5_shiftFrom 1 = .ok (.getfield 25, 3) := by decide +kernel
theorem dX5_shiftFrom_4 : decode cX5_shiftFrom 4 = .ok (.iconst 1, 1) := by decide +kernel
theorem dX5_shiftFrom_5 : decode cX5_shiftFrom 5 = .ok (.iadd, 1) := by decide +kernel
theorem dX5_shiftFrom_6 : decode cX5_shiftFrom 6 = .ok (.aload_n 0, 1) := by decide +kernel
theorem dX5_shiftFrom_7 : decode cX5_shiftFrom 7 = .ok (.getfield 13, 3) := by decide +kernel
theorem dX5_shiftFrom_10 : decode cX5_shiftFrom 10 = .ok (.arraylength, 1) := by decide +kernel
theorem dX5_shiftFrom_11 : decode cX5_shiftFrom 11 = .ok (.if_icmp .le 22, 3) := by decide +kernel
theorem dX5_shiftFrom_14 : decode cX5_shiftFrom 14 = .ok (.aload_n 0, 1) := by decide +kernel
theorem dX5_shiftFrom_15 : decode cX5_shiftFrom 15 = .ok (.aload_n 1, 1) := by decide +kernel
theorem dX5_shiftFrom_16 : decode cX5_shiftFrom 16 = .ok (.getfield 25, 3) := by decide +kernel
theorem dX5_shiftFrom_19 : decode cX5_shiftFrom 19 = .ok (.aload_n 1, 1) := by decide +kernel
theorem dX5_shiftFrom_20 : decode cX5_shiftFrom 20 = .ok (.getfield 25, 3) := by decide +kernel
theorem dX5_shiftFrom_23 : decode cX5_shiftFrom 23 = .ok (.iconst 2, 1) := by decide +kernel
theorem dX5_shiftFrom_24 : decode cX5_shiftFrom 24 = .ok (.idiv, 1) := by decide +kernel
theorem dX5_shiftFrom_25 : decode cX5_shiftFrom 25 = .ok (.iadd, 1) := by decide +kernel
theorem dX5_shiftFrom_26 : decode cX5_shiftFrom 26 = .ok (.iconst 2, 1) := by decide +kernel
theorem dX5_shiftFrom_27 : decode cX5_shiftFrom 27 = .ok (.iadd, 1) := by decide +kernel
theorem dX5_shiftFrom_28 : decode cX5_shiftFrom 28 = .ok (.newarray .int, 2) := by decide +kernel
theorem dX5_shiftFrom_30 : decode cX5_shiftFrom 30 = .ok (.putfield 13, 3) := by decide +kernel
theorem dX5_shiftFrom_33 : decode cX5_shiftFrom 33 = .ok (.iconst 0, 1) := by decide +kernel
theorem dX5_shiftFrom_34 : decode cX5_shiftFrom 34 = .ok (.istore_n 3, 1) := by decide +kernel
theorem dX5_shiftFrom_35 : decode cX5_shiftFrom 35 = .ok (.iconst 0, 1) := by decide +kernel
theorem dX5_shiftFrom_36 : decode cX5_shiftFrom 36 = .ok (.istore 4, 2) := by decide +kernel
theorem dX5_shiftFrom_38 : decode cX5_shiftFrom 38 = .ok (.iload 4, 2) := by decide +kernel
theorem dX5_shiftFrom_40 : decode cX5_shiftFrom 40 = .ok (.aload_n 1, 1) := by decide +kernel
theorem dX5_shiftFrom_41 : decode cX5_shiftFrom 41 = .ok (.getfield 25, 3) := by decide +kernel
theorem dX5_shiftFrom_44 : decode cX5_shiftFrom 44 = .ok (.if_icmp .ge 45, 3) := by decide +kernel
theorem dX5_shiftFrom_47 : decode cX5_shiftFrom 47 = .ok (.aload_n 1, 1) := by decide +kernel
theorem dX5_shiftFrom_48 : decode cX5_shiftFrom 48 = .ok (.getfield 13, 3) := by decide +kernel
theorem dX5_shiftFrom_51 : decode cX5_shiftFrom 51 = .ok (.iload 4, 2) := by decide +kernel
theorem dX5_shiftFrom_53 : decode cX5_shiftFrom 53 = .ok (.iaload, 1) := by decide +kernel
theorem dX5_shiftFrom_54 : decode cX5_shiftFrom 54 = .ok (.i2l, 1) := by decide +kernel
theorem dX5_shiftFrom_55 : decode cX5_shiftFrom 55 = .ok (.iload_n 2, 1) := by decide +kernel
theorem dX5_shiftFrom_56 : decode cX5_shiftFrom 56 = .ok (.lshl, 1) := by decide +kernel
theorem dX5_shiftFrom_57 : decode cX5_shiftFrom 57 = .ok (.iload_n 3, 1) := by decide +kernel
theorem dX5_shiftFrom_58 : decode cX5_shiftFrom 58 = .ok (.i2l, 1) := by decide +kernel
theorem dX5_shiftFrom_59 : decode cX5_shiftFrom 59 = .ok (.lor, 1) := by decide +kernel
theorem dX5_shiftFrom_60 : decode cX5_shiftFrom 60 = .ok (.lstore 5, 2) := by decide +kernel
theorem dX5_shiftFrom_62 : decode cX5_shiftFrom 62 = .ok (.aload_n 0, 1) := by decide +kernel
theorem dX5_shiftFrom_63 : decode cX5_shiftFrom 63 = .ok (.getfield 13, 3) := by decide +kernel
theorem dX5_shiftFrom_66 : decode cX5_shiftFrom 66 = .ok (.iload 4, 2) := by decide +kernel
theorem dX5_shiftFrom_68 : decode cX5_shiftFrom 68 = .ok (.lload 5, 2) := by decide +kernel
theorem dX5_shiftFrom_70 : decode cX5_shiftFrom 70 = .ok (.ldc2_w 29, 3) := by decide +kernel
theorem dX5_shiftFrom_73 : decode cX5_shiftFrom 73 = .ok (.land, 1) := by decide +kernel
theorem dX5_shiftFrom_74 : decode cX5_shiftFrom 74 = .ok (.l2i, 1) := by decide +kernel
theorem dX5_shiftFrom_75 : decode cX5_shiftFrom 75 = .ok (.iastore, 1) := by decide +kernel
theorem dX5_shiftFrom_76 : decode cX5_shiftFrom 76 = .ok (.lload 5, 2) := by decide +kernel
theorem dX5_shiftFrom_78 : decode cX5_shiftFrom 78 = .ok (.bipush 31, 2) := by decide +kernel
theorem dX5_shiftFrom_80 : decode cX5_shiftFrom 80 = .ok (.lushr, 1) := by decide +kernel
theorem dX5_shiftFrom_81 : decode cX5_shiftFrom 81 = .ok (.l2i, 1) := by decide +kernel
theorem dX5_shiftFrom_82 : decode cX5_shiftFrom 82 = .ok (.istore_n 3, 1) := by decide +kernel
theorem dX5_shiftFrom_83 : decode cX5_shiftFrom 83 = .ok (.iinc 4 1, 3) := by decide +kernel
theorem dX5_shiftFrom_86 : decode cX5_shiftFrom 86 = .ok (.goto (-48), 3) := by decide +kernel
theorem dX5_shiftFrom_89 : decode cX5_shiftFrom 89 = .ok (.aload_n 0, 1) := by decide +kernel
theorem dX5_shiftFrom_90 : decode cX5_shiftFrom 90 = .ok (.getfield 13, 3) := by decide +kernel
theorem dX5_shiftFrom_93 : decode cX5_shiftFrom 93 = .ok (.aload_n 1, 1) := by decide +kernel
theorem dX5_shiftFrom_94 : decode cX5_shiftFrom 94 = .ok (.getfield 25, 3) := by decide +kernel
theorem dX5_shiftFrom_97 : decode cX5_shiftFrom 97 = .ok (.iload_n 3, 1) := by decide +kernel
theorem dX5_shiftFrom_98 : decode cX5_shiftFrom 98 = .ok (.iastore, 1) := by decide +kernel
theorem dX5_shiftFrom_99 : decode cX5_shiftFrom 99 = .ok (.aload_n 0, 1) := by decide +kernel
theorem dX5_shiftFrom_100 : decode cX5_shiftFrom 100 = .ok (.aload_n 1, 1) := by decide +kernel
theorem dX5_shiftFrom_101 : decode cX5_shiftFrom 101 = .ok (.getfield 25, 3) := by decide +kernel
theorem dX5_shiftFrom_104 : decode cX5_shiftFrom 104 = .ok (.iconst 1, 1) := by decide +kernel
theorem dX5_shiftFrom_105 : decode cX5_shiftFrom 105 = .ok (.iadd, 1) := by decide +kernel
theorem dX5_shiftFrom_106 : decode cX5_shiftFrom 106 = .ok (.putfield 25, 3) := by decide +kernel
theorem dX5_shiftFrom_109 : decode cX5_shiftFrom 109 = .ok (.return_, 1) := by decide +kernel
def w_Nu_shiftFrom_38 (C : zC) (n0 : Nat) (Q : zS → Prop)  (a0 : Nat) (a1 : Nat) (a2 : Int32) (a3 : Int32) (a4 : Int32) (κ : zS) : Prop :=
  ∃ I : Nat → Nat → Nat → Int32 → Int32 → Int32 → zS → Prop, (∃ n, I n a0 a1 a2 a3 a4 κ) ∧ ∀ n a0 a1 a2 a3 a4 κ, zW C n0 κ → zT κ a0 = 8 → zT κ a1 = 8 → I n a0 a1 a2 a3 a4 κ →
    ((zI κ nuLength a1) ≤ a4 →
      inb (zI κ nuLength a1) (zN κ (zR κ nuLimbs a0)) ∧
      ∀ κ1, κ1 = ua κ (zR κ nuLimbs a0) ((zI κ nuLength a1)).toNatClampNeg a3 →
      ∀ _ : zW C n0 κ1,
      ∀ κ3, κ3 = ui κ1 nuLength a0 ((zI κ1 nuLength a1) + (1 : Int32)) →
      ∀ _ : zW C n0 κ3,
      Q κ3) ∧
    (¬ (zI κ nuLength a1) ≤ a4 →
      inb a4 (zN κ (zR κ nuLimbs a1)) ∧
      ∀ v5_5 : Int64, v5_5 = (((Int32.toInt64 (zA κ (zR κ nuLimbs a1) (a4).toNatClampNeg)) <<< (Int32.toInt64 a2 &&& 63)) ||| (Int32.toInt64 a3)) →
      inb a4 (zN κ (zR κ nuLimbs a0)) ∧
      ∀ κ6, κ6 = ua κ (zR κ nuLimbs a0) (a4).toNatClampNeg (Int64.toInt32 (v5_5 &&& (2147483647 : Int64))) →
      ∀ _ : zW C n0 κ6,
      ∀ v3_7 : Int32, v3_7 = (Int64.toInt32 (Int64.toUInt64 v5_5 >>> (Int64.toUInt64 (Int32.toInt64 (31 : Int32)) &&& Int64.toUInt64 63)).toInt64) →
      ∀ v4_8 : Int32, v4_8 = a4 + (1 : Int32) →
      ∃ k < n, I k a0 a1 a2 v3_7 v4_8 κ6)
theorem t_Nu_shiftFrom_38 {C : zC} {n0 : Nat} {Q : zS → Prop}   {a0 : Nat} {a1 : Nat} {a2 : Int32} {a3 : Int32} {a4 : Int32} {κ : zS} (W : zW C n0 κ) (Ta0 : zT κ a0 = 8) (Ta1 : zT κ a1 = 8) (F : w_Nu_shiftFrom_38 C n0 Q  a0 a1 a2 a3 a4 κ) : zG C n0 0 mNu_shiftFrom 38 [some (.ref a0), some (.ref a1), some (.int a2), some (.int a3), some (.int a4), none, none] [] κ (oV Q noX) := by
  obtain ⟨I, ⟨m0, hI0⟩, F0⟩ := F
  have key : ∀ n a0 a1 a2 a3 a4 κ, zW C n0 κ → zT κ a0 = 8 → zT κ a1 = 8 → I n a0 a1 a2 a3 a4 κ → zG C n0 0 mNu_shiftFrom 38 [some (.ref a0), some (.ref a1), some (.int a2), some (.int a3), some (.int a4), none, none] [] κ (oV Q noX) := by
    intro n
    induction n using Nat.strongRecOn with
    | _ n ih =>
      intro a0 a1 a2 a3 a4 κ W Ta0 Ta1 hI
      have F := F0 n a0 a1 a2 a3 a4 κ W Ta0 Ta1 hI
      clear hI hI0
      refine y_il dX5_shiftFrom_38 rfl ?_
      refine y_aln dX5_shiftFrom_40 rfl ?_
      refine gf_X5_25 dX5_shiftFrom_41 rfl (Or.inl Ta1) ?_
      refine y_ii ((zI κ nuLength a1) ≤ a4) dX5_shiftFrom_44 (t := 89) rfl rfl (fun c9 => ?_) (fun c9 => ?_)
      · replace F := F.1 c9
        refine y_aln dX5_shiftFrom_89 rfl ?_
        refine gf_X5_13 W dX5_shiftFrom_90 rfl Ta0 ?_
        refine y_aln dX5_shiftFrom_93 rfl ?_
        refine gf_X5_25 dX5_shiftFrom_94 rfl (Or.inl Ta1) ?_
        refine y_iln dX5_shiftFrom_97 rfl ?_
        refine y_ast W dX5_shiftFrom_98 (ty_nuLimbs W Ta0) F.1 (fun κ1 eκ1 => ?_)
        replace F := F.2 κ1 eκ1
        have Wκ1 : zW C n0 κ1 := zW_ua W eκ1 (fun h => absurd (h.symm.trans (ty_nuLimbs W Ta0)) (by decide)) (fun h => absurd (h.symm.trans (ty_nuLimbs W Ta0)) (by decide))
        have Mκ1 : zM (zn κ) κ κ1 := by rw [eκ1]; exact zM.of rfl rfl rfl
        replace F := F Wκ1
        refine y_aln dX5_shiftFrom_99 rfl ?_
        refine y_aln dX5_shiftFrom_100 rfl ?_
        have h2 := (ztm W Mκ1 Ta1)
        refine gf_X5_25 dX5_shiftFrom_101 rfl (Or.inl h2) ?_
        refine y_ic dX5_shiftFrom_104 zi_1 ?_
        refine y_iadd dX5_shiftFrom_105 ?_
        have h4 := (ztm W Mκ1 Ta0)
        refine pf_X5_25 Wκ1 dX5_shiftFrom_106 rfl (Or.inl h4) (fun κ3 eκ3 => ?_)
        replace F := F κ3 eκ3
        have Wκ3 : zW C n0 κ3 := zW_ui Wκ1 eκ3 (fun h => absurd h (by decide))
        have Mκ3 : zM (zn κ1) κ1 κ3 := by rw [eκ3]; exact zM.of rfl rfl rfl
        replace F := F Wκ3
        exact y_rv Wκ3 dX5_shiftFrom_109 rfl F
      · replace F := F.2 c9
        refine y_aln dX5_shiftFrom_47 rfl ?_
        refine gf_X5_13 W dX5_shiftFrom_48 rfl Ta1 ?_
        refine y_il dX5_shiftFrom_51 rfl ?_
        refine y_ald dX5_shiftFrom_53 (ty_nuLimbs W Ta1) F.1 ?_
        replace F := F.2
        refine y_i2l dX5_shiftFrom_54 ?_
        refine y_iln dX5_shiftFrom_55 rfl ?_
        refine y_lshl dX5_shiftFrom_56 ?_
        refine y_iln dX5_shiftFrom_57 rfl ?_
        refine y_i2l dX5_shiftFrom_58 ?_
        refine y_lor dX5_shiftFrom_59 ?_
        refine y_lsb dX5_shiftFrom_60 (Nat.le_of_ble_eq_true rfl) (fun v5_5 ev5_5 => ?_)
        replace F := F v5_5 ev5_5
        refine y_aln dX5_shiftFrom_62 rfl ?_
        refine gf_X5_13 W dX5_shiftFrom_63 rfl Ta0 ?_
        refine y_il dX5_shiftFrom_66 rfl ?_
        refine y_ll dX5_shiftFrom_68 rfl ?_
        refine y_ldcl dX5_shiftFrom_70 rfl zcl_X5_29 ?_
        refine y_land dX5_shiftFrom_73 ?_
        refine y_l2i dX5_shiftFrom_74 ?_
        refine y_ast W dX5_shiftFrom_75 (ty_nuLimbs W Ta0) F.1 (fun κ6 eκ6 => ?_)
        replace F := F.2 κ6 eκ6
        have Wκ6 : zW C n0 κ6 := zW_ua W eκ6 (fun h => absurd (h.symm.trans (ty_nuLimbs W Ta0)) (by decide)) (fun h => absurd (h.symm.trans (ty_nuLimbs W Ta0)) (by decide))
        have Mκ6 : zM (zn κ) κ κ6 := by rw [eκ6]; exact zM.of rfl rfl rfl
        replace F := F Wκ6
        refine y_ll dX5_shiftFrom_76 rfl ?_
        refine y_bi1 dX5_shiftFrom_78 zb_31 ?_
        refine y_lushr dX5_shiftFrom_80 ?_
        refine y_l2i dX5_shiftFrom_81 ?_
        refine y_isnb dX5_shiftFrom_82 (Nat.le_of_ble_eq_true rfl) (fun v3_7 ev3_7 => ?_)
        replace F := F v3_7 ev3_7
        refine y_incb dX5_shiftFrom_83 zi_1 rfl (Nat.le_of_ble_eq_true rfl) (fun v4_8 ev4_8 => ?_)
        replace F := F v4_8 ev4_8
        refine y_goto dX5_shiftFrom_86 (t := 38) rfl ?_
        have h9 := (ztm W Mκ6 Ta0)
        have h10 := (ztm W Mκ6 Ta1)
        obtain ⟨k, hk, hI⟩ := F
        exact y_k (ih k hk _ _ _ _ _ _ Wκ6 h9 h10 hI) ⟨rfl, rfl, rfl, rfl, rfl, trivial⟩
  exact key m0 a0 a1 a2 a3 a4 κ W Ta0 Ta1 hI0

def w_Nu_shiftFrom_33 (C : zC) (n0 : Nat) (Q : zS → Prop)  (a0 : Nat) (a1 : Nat) (a2 : Int32) (κ : zS) : Prop :=
  w_Nu_shiftFrom_38 C n0 Q  a0 a1 a2 (0 : Int32) (0 : Int32) κ
theorem t_Nu_shiftFrom_33 {C : zC} {n0 : Nat} {Q : zS → Prop}   {a0 : Nat} {a1 : Nat} {a2 : Int32} {κ : zS} (W : zW C n0 κ) (Ta0 : zT κ a0 = 8) (Ta1 : zT κ a1 = 8) (F : w_Nu_shiftFrom_33 C n0 Q  a0 a1 a2 κ) : zG C n0 0 mNu_shiftFrom 33 [some (.ref a0), some (.ref a1), some (.int a2), none, none, none, none] [] κ (oV Q noX) := by
  unfold w_Nu_shiftFrom_33 at F
  refine y_ic dX5_shiftFrom_33 zi_0 ?_
  refine y_isn dX5_shiftFrom_34 (Nat.le_of_ble_eq_true rfl) rfl ?_
  refine y_ic dX5_shiftFrom_35 zi_0 ?_
  refine y_is dX5_shiftFrom_36 (Nat.le_of_ble_eq_true rfl) rfl ?_
  exact y_k (t_Nu_shiftFrom_38  W Ta0 Ta1 F) ⟨rfl, rfl, rfl, rfl, rfl, trivial⟩

def w_Nu_shiftFrom_0 (C : zC) (n0 : Nat) (Q : zS → Prop)  (a0 : Nat) (a1 : Nat) (a2 : Int32) (κ : zS) : Prop :=
  (((zI κ nuLength a1) + (1 : Int32)) ≤ (Int32.ofNat (zN κ (zR κ nuLimbs a0))) →
    w_Nu_shiftFrom_33 C n0 Q  a0 a1 a2 κ) ∧
  (¬ ((zI κ nuLength a1) + (1 : Int32)) ≤ (Int32.ofNat (zN κ (zR κ nuLimbs a0))) →
    ¬ (2 : Int32) = 0 ∧
    nsz (((zI κ nuLength a1) + ((zI κ nuLength a1) / (2 : Int32))) + (2 : Int32)) ∧
    ∀ κ1, κ1 = na κ 20 ((((zI κ nuLength a1) + ((zI κ nuLength a1) / (2 : Int32))) + (2 : Int32))).toNatClampNeg →
    ∀ _ : zW C n0 κ1,
    zO κ1 (zn κ) = (0, 0) ∧
    ∀ κ4, κ4 = uo κ1 nuLimbs a0 (zn κ) →
    ∀ _ : zW C n0 κ4,
    w_Nu_shiftFrom_33 C n0 Q  a0 a1 a2 κ4)
theorem t_Nu_shiftFrom_0 {C : zC} {n0 : Nat} {Q : zS → Prop}   {a0 : Nat} {a1 : Nat} {a2 : Int32} {κ : zS} (W : zW C n0 κ) (Ta0 : zT κ a0 = 8) (Ta1 : zT κ a1 = 8) (F : w_Nu_shiftFrom_0 C n0 Q  a0 a1 a2 κ) : zG C n0 0 mNu_shiftFrom 0 [some (.ref a0), some (.ref a1), some (.int a2), none, none, none, none] [] κ (oV Q noX) := by
  unfold w_Nu_shiftFrom_0 at F
  refine y_aln dX5_shiftFrom_0 rfl ?_
  refine gf_X5_25 dX5_shiftFrom_1 rfl (Or.inl Ta1) ?_
  refine y_ic dX5_shiftFrom_4 zi_1 ?_
  refine y_iadd dX5_shiftFrom_5 ?_
  refine y_aln dX5_shiftFrom_6 rfl ?_
  refine gf_X5_13 W dX5_shiftFrom_7 rfl Ta0 ?_
  refine y_alen (t := 0) dX5_shiftFrom_10 (ty_nuLimbs W Ta0) (by decide) ?_
  refine y_ii (((zI κ nuLength a1) + (1 : Int32)) ≤ (Int32.ofNat (zN κ (zR κ nuLimbs a0)))) dX5_shiftFrom_11 (t := 33) rfl rfl (fun c9 => ?_) (fun c9 => ?_)
  · replace F := F.1 c9
    exact y_k (t_Nu_shiftFrom_33  W Ta0 Ta1 F) ⟨rfl, rfl, rfl, trivial⟩
  · replace F := F.2 c9
    refine y_aln dX5_shiftFrom_14 rfl ?_
    refine y_aln dX5_shiftFrom_15 rfl ?_
    refine gf_X5_25 dX5_shiftFrom_16 rfl (Or.inl Ta1) ?_
    refine y_aln dX5_shiftFrom_19 rfl ?_
    refine gf_X5_25 dX5_shiftFrom_20 rfl (Or.inl Ta1) ?_
    refine y_ic dX5_shiftFrom_23 zi_2 ?_
    refine y_div dX5_shiftFrom_24 F.1 ?_
    replace F := F.2
    refine y_iadd dX5_shiftFrom_25 ?_
    refine y_ic dX5_shiftFrom_26 zi_2 ?_
    refine y_iadd dX5_shiftFrom_27 ?_
    have b2 := F.1
    refine y_newa (t := 0) W dX5_shiftFrom_28 (by decide) b2 (fun κ1 eκ1 => ?_)
    replace F := F.2 κ1 eκ1
    have Wκ1 : zW C n0 κ1 := zW_na W eκ1 (by decide) (by decide) b2.2
    have Mκ1 : zM (zn κ) κ κ1 := zM_na (W.lo (Nat.le_trans W.1.2.1 W.1.2.2) (Nat.le_refl _)) eκ1
    replace F := F Wκ1
    have g3 : zT κ1 (zn κ) = 20 := by rw [eκ1]; exact if_pos rfl
    have b5 := F.1
    replace F := F.2
    have h6 := (ztm W Mκ1 Ta0)
    refine pf_X5_13 Wκ1 dX5_shiftFrom_30 rfl (Or.inl h6) g3 (fun κ4 eκ4 => ?_)
    replace F := F κ4 eκ4
    have Wκ4 : zW C n0 κ4 := zW_uo Wκ1 eκ4 (fun t ht => by cases ht; exact g3) b5
    have Mκ4 : zM (zn κ1) κ1 κ4 := by rw [eκ4]; exact zM.of rfl rfl rfl
    replace F := F Wκ4
    have h7 := (ztm Wκ1 Mκ4 h6)
    have h8 := (ztm Wκ1 Mκ4 (ztm W Mκ1 Ta1))
    exact y_k (t_Nu_shiftFrom_33  Wκ4 h7 h8 F) ⟨rfl, rfl, rfl, trivial⟩

theorem Nu_shiftFrom_run {C : zC} {n0 : Nat} {Q : zS → Prop} {a0 : Nat} {a1 : Nat} {a2 : Int32} {κ : zS} (W : zW C n0 κ) (Ta0 : zT κ a0 = 8) (Ta1 : zT κ a1 = 8) (F : w_Nu_shiftFrom_0 C (zn κ) Q a0 a1 a2 κ) : zRun C 0 mNu_shiftFrom [.ref a0, .ref a1, .int a2] κ (oV Q noX) := z_run (m_ent _ 4) (t_Nu_shiftFrom_0 (W.lo (Nat.le_trans W.1.2.1 W.1.2.2) (Nat.le_refl _)) Ta0 Ta1 F)

