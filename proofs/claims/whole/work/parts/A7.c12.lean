/-! methods of the class: Pa_newName, Pa_pass, Ta_byteAt, Ta_numberAt, Pa_varItem, Pa_openSign, Pa_closeSign, Pa_arrayItem, Pa_addOwn, Pa_pushBlock, Pa_functionHead, Pa_item, Pa_closeBlock -/
theorem dX7_newName_0 : decode cX7_newName 0 = .ok (.aload_n 0, 1) := by decide +kernel
theorem dX7_newName_1 : decode cX7_newName 1 = .ok (.sipush 140, 3) := by decide +kernel
theorem dX7_newName_4 : decode cX7_newName 4 = .ok (.invokevirtual 127, 3) := by decide +kernel
theorem dX7_newName_7 : decode cX7_newName 7 = .ok (.aload_n 0, 1) := by decide +kernel
theorem dX7_newName_8 : decode cX7_newName 8 = .ok (.getfield 9, 3) := by decide +kernel
theorem dX7_newName_11 : decode cX7_newName 11 = .ok (.aload_n 0, 1) := by decide +kernel
theorem dX7_newName_12 : decode cX7_newName 12 = .ok (.getfield 19, 3) := by decide +kernel
theorem dX7_newName_15 : decode cX7_newName 15 = .ok (.aload_n 0, 1) := by decide +kernel
theorem dX7_newName_16 : decode cX7_newName 16 = .ok (.getfield 15, 3) := by decide +kernel
theorem dX7_newName_19 : decode cX7_newName 19 = .ok (.getfield 130, 3) := by decide +kernel
theorem dX7_newName_22 : decode cX7_newName 22 = .ok (.aload_n 0, 1) := by decide +kernel
theorem dX7_newName_23 : decode cX7_newName 23 = .ok (.getfield 55, 3) := by decide +kernel
theorem dX7_newName_26 : decode cX7_newName 26 = .ok (.invokevirtual 133, 3) := by decide +kernel
theorem dX7_newName_29 : decode cX7_newName 29 = .ok (.iconst (-1), 1) := by decide +kernel
theorem dX7_newName_30 : decode cX7_newName 30 = .ok (.if_icmp .ne 78, 3) := by decide +kernel
theorem dX7_newName_33 : decode cX7_newName 33 = .ok (.aload_n 0, 1) := by decide +kernel
theorem dX7_newName_34 : decode cX7_newName 34 = .ok (.getfield 9, 3) := by decide +kernel
theorem dX7_newName_37 : decode cX7_newName 37 = .ok (.aload_n 0, 1) := by decide +kernel
theorem dX7_newName_38 : decode cX7_newName 38 = .ok (.getfield 23, 3) := by decide +kernel
theorem dX7_newName_41 : decode cX7_newName 41 = .ok (.aload_n 0, 1) := by decide +kernel
theorem dX7_newName_42 : decode cX7_newName 42 = .ok (.getfield 15, 3) := by decide +kernel
theorem dX7_newName_45 : decode cX7_newName 45 = .ok (.getfield 137, 3) := by decide +kernel
theorem dX7_newName_48 : decode cX7_newName 48 = .ok (.aload_n 0, 1) := by decide +kernel
theorem dX7_newName_49 : decode cX7_newName 49 = .ok (.getfield 55, 3) := by decide +kernel
theorem dX7_newName_52 : decode cX7_newName 52 = .ok (.invokevirtual 133, 3) := by decide +kernel
theorem dX7_newName_55 : decode cX7_newName 55 = .ok (.iconst (-1), 1) := by decide +kernel
theorem dX7_newName_56 : decode cX7_newName 56 = .ok (.if_icmp .ne 52, 3) := by decide +kernel
theorem dX7_newName_59 : decode cX7_newName 59 = .ok (.aload_n 0, 1) := by decide +kernel
theorem dX7_newName_60 : decode cX7_newName 60 = .ok (.getfield 9, 3) := by decide +kernel
theorem dX7_newName_63 : decode cX7_newName 63 = .ok (.aload_n 0, 1) := by decide +kernel
theorem dX7_newName_64 : decode cX7_newName 64 = .ok (.getfield 26, 3) := by decide +kernel
theorem dX7_newName_67 : decode cX7_newName 67 = .ok (.aload_n 0, 1) := by decide +kernel
theorem dX7_newName_68 : decode cX7_newName 68 = .ok (.getfield 15, 3) := by decide +kernel
theorem dX7_newName_71 : decode cX7_newName 71 = .ok (.getfield 140, 3) := by decide +kernel
theorem dX7_newName_74 : decode cX7_newName 74 = .ok (.aload_n 0, 1) := by decide +kernel
theorem dX7_newName_75 : decode cX7_newName 75 = .ok (.getfield 55, 3) := by decide +kernel
theorem dX7_newName_78 : decode cX7_newName 78 = .ok (.invokevirtual 133, 3) := by decide +kernel
theorem dX7_newName_81 : decode cX7_newName 81 = .ok (.iconst (-1), 1) := by decide +kernel
theorem dX7_newName_82 : decode cX7_newName 82 = .ok (.if_icmp .ne 26, 3) := by decide +kernel
theorem dX7_newName_85 : decode cX7_newName 85 = .ok (.aload_n 0, 1) := by decide +kernel
theorem dX7_newName_86 : decode cX7_newName 86 = .ok (.getfield 9, 3) := by decide +kernel
theorem dX7_newName_89 : decode cX7_newName 89 = .ok (.aload_n 0, 1) := by decide +kernel
theorem dX7_newName_90 : decode cX7_newName 90 = .ok (.getfield 29, 3) := by decide +kernel
theorem dX7_newName_93 : decode cX7_newName 93 = .ok (.aload_n 0, 1) := by decide +kernel
theorem dX7_newName_94 : decode cX7_newName 94 = .ok (.getfield 66, 3) := by decide +kernel
theorem dX7_newName_97 : decode cX7_newName 97 = .ok (.aload_n 0, 1) := by decide +kernel
theorem dX7_newName_98 : decode cX7_newName 98 = .ok (.getfield 55, 3) := by decide +kernel
theorem dX7_newName_101 : decode cX7_newName 101 = .ok (.invokevirtual 133, 3) := by decide +kernel
theorem dX7_newName_104 : decode cX7_newName 104 = .ok (.iconst (-1), 1) := by decide +kernel
theorem dX7_newName_105 : decode cX7_newName 105 = .ok (.if_icmp .eq 7, 3) := by decide +kernel
theorem dX7_newName_108 : decode cX7_newName 108 = .ok (.iconst 1, 1) := by decide +kernel
theorem dX7_newName_109 : decode cX7_newName 109 = .ok (.goto 4, 3) := by decide +kernel
theorem dX7_newName_112 : decode cX7_newName 112 = .ok (.iconst 0, 1) := by decide +kernel
theorem dX7_newName_113 : decode cX7_newName 113 = .ok (.istore_n 3, 1) := by decide +kernel
theorem dX7_newName_114 : decode cX7_newName 114 = .ok (.iload_n 3, 1) := by decide +kernel
theorem dX7_newName_115 : decode cX7_newName 115 = .ok (.ifCond .eq 13, 3) := by decide +kernel
theorem dX7_newName_118 : decode cX7_newName 118 = .ok (.aload_n 0, 1) := by decide +kernel
theorem dX7_newName_119 : decode cX7_newName 119 = .ok (.bipush 10, 2) := by decide +kernel
theorem dX7_newName_121 : decode cX7_newName 121 = .ok (.aload_n 0, 1) := by decide +kernel
theorem dX7_newName_122 : decode cX7_newName 122 = .ok (.getfield 55, 3) := by decide +kernel
theorem dX7_newName_125 : decode cX7_newName 125 = .ok (.invokevirtual 123, 3) := by decide +kernel
theorem dX7_newName_128 : decode cX7_newName 128 = .ok (.iload_n 1, 1) := by decide +kernel
theorem dX7_newName_129 : decode cX7_newName 129 = .ok (.iload_n 2, 1) := by decide +kernel
theorem dX7_newName_130 : decode cX7_newName 130 = .ok (.if_icmp .lt 13, 3) := by decide +kernel
theorem dX7_newName_133 : decode cX7_newName 133 = .ok (.aload_n 0, 1) := by decide +kernel
theorem dX7_newName_134 : decode cX7_newName 134 = .ok (.bipush 15, 2) := by decide +kernel
theorem dX7_newName_136 : decode cX7_newName 136 = .ok (.aload_n 0, 1) := by decide +kernel
theorem dX7_newName_137 : decode cX7_newName 137 = .ok (.getfield 55, 3) := by decide +kernel
theorem dX7_newName_140 : decode cX7_newName 140 = .ok (.invokevirtual 123, 3) := by decide +kernel
theorem dX7_newName_143 : decode cX7_newName 143 = .ok (.aload_n 0, 1) := by decide +kernel
theorem dX7_newName_144 : decode cX7_newName 144 = .ok (.invokevirtual 72, 3) := by decide +kernel
theorem dX7_newName_147 : decode cX7_newName 147 = .ok (.aload_n 0, 1) := by decide +kernel
theorem dX7_newName_148 : decode cX7_newName 148 = .ok (.getfield 55, 3) := by decide +kernel
theorem dX7_newName_151 : decode cX7_newName 151 = .ok (.iconst 1, 1) := by decide +kernel
theorem dX7_newName_152 : decode cX7_newName 152 = .ok (.isub, 1) := by decide +kernel
theorem dX7_newName_153 : decode cX7_newName 153 = .ok (.ireturn, 1) := by decide +kernel
def w_Pa_newName_143 (C : zC) (n0 : Nat) (Q : Int32 → zS → Prop) (X : zXp)  (a0 : Nat) (κ : zS) : Prop :=
  ∀ _ : zT κ a0 = 10,
  zRun C 0 mPa_take [.ref a0] κ (oV (fun κ1 =>
    ∀ _ : zW C n0 κ1,
    ∀ _ : zM (zn κ) κ κ1,
    Q ((zI κ1 paAt a0) - (1 : Int32)) κ1) noX)
theorem t_Pa_newName_143 {C : zC} {n0 : Nat} {Q : Int32 → zS → Prop} {X : zXp}   {a0 : Nat} {κ : zS} (W : zW C n0 κ) (Ta0 : zT κ a0 = 10) (F : w_Pa_newName_143 C n0 Q X  a0 κ) : zG C n0 10 mPa_newName 143 [some (.ref a0), none, none, none] [] κ (oI Q X) := by
  unfold w_Pa_newName_143 at F
  refine y_aln dX7_newName_143 rfl ?_
  replace F := F Ta0
  refine k_X7_72 W dX7_newName_144 rfl (Nat.le_of_ble_eq_true rfl) (Nat.le_of_ble_eq_true rfl) (Or.inl Ta0) F (fun  κ1 Wκ1 Mκ1 F => ?_) (fun _ _ h9 => False.elim h9)
  replace F := F Wκ1 Mκ1
  refine y_aln dX7_newName_147 rfl ?_
  have h4 := (ztm W Mκ1 Ta0)
  refine gf_X7_55 dX7_newName_148 rfl (Or.inl h4) ?_
  refine y_ic dX7_newName_151 zi_1 ?_
  refine y_isub dX7_newName_152 ?_
  exact y_ri Wκ1 dX7_newName_153 rfl in_nar F

def w_Pa_newName_128 (C : zC) (n0 : Nat) (Q : Int32 → zS → Prop) (X : zXp)  (a0 : Nat) (a1 : Int32) (a2 : Int32) (κ : zS) : Prop :=
  (a1 < a2 →
    w_Pa_newName_143 C n0 Q X  a0 κ) ∧
  (¬ a1 < a2 →
    ∀ _ : zT κ a0 = 10,
    zRun C 8 mPa_refuse [.ref a0, .int (15 : Int32), .int (zI κ paAt a0)] κ (oV (fun κ1 =>
      ∀ _ : zW C n0 κ1,
      ∀ _ : zM (zn κ) κ κ1,
      w_Pa_newName_143 C n0 Q X  a0 κ1) X))
theorem t_Pa_newName_128 {C : zC} {n0 : Nat} {Q : Int32 → zS → Prop} {X : zXp}   {a0 : Nat} {a1 : Int32} {a2 : Int32} {κ : zS} (W : zW C n0 κ) (Ta0 : zT κ a0 = 10) (F : w_Pa_newName_128 C n0 Q X  a0 a1 a2 κ) : zG C n0 10 mPa_newName 128 [some (.ref a0), some (.int a1), some (.int a2), none] [] κ (oI Q X) := by
  unfold w_Pa_newName_128 at F
  refine y_iln dX7_newName_128 rfl ?_
  refine y_iln dX7_newName_129 rfl ?_
  refine y_ii (a1 < a2) dX7_newName_130 (t := 143) rfl rfl (fun c9 => ?_) (fun c9 => ?_)
  · replace F := F.1 c9
    exact y_k (t_Pa_newName_143  W Ta0 F) ⟨rfl, trivial⟩
  · replace F := F.2 c9
    refine y_aln dX7_newName_133 rfl ?_
    refine y_bi1 dX7_newName_134 zb_15 ?_
    refine y_aln dX7_newName_136 rfl ?_
    refine gf_X7_55 dX7_newName_137 rfl (Or.inl Ta0) ?_
    replace F := F Ta0
    refine k_X7_123 W dX7_newName_140 rfl (Nat.le_of_ble_eq_true rfl) (Nat.le_of_ble_eq_true rfl) (Or.inl Ta0) F (fun  κ1 Wκ1 Mκ1 F => ?_) (fun cls9 κ9 h9 => Or.inr ⟨_, rfl, h9⟩)
    replace F := F Wκ1 Mκ1
    have h4 := (ztm W Mκ1 Ta0)
    exact y_k (t_Pa_newName_143  Wκ1 h4 F) ⟨rfl, trivial⟩

def w_Pa_newName_113 (C : zC) (n0 : Nat) (Q : Int32 → zS → Prop) (X : zXp)  (a0 : Nat) (a1 : Int32) (a2 : Int32) (s0 : Int32) (κ : zS) : Prop :=
  (s0 = (0 : Int32) →
    w_Pa_newName_128 C n0 Q X  a0 a1 a2 κ) ∧
  (¬ s0 = (0 : Int32) →
    ∀ _ : zT κ a0 = 10,
    zRun C 8 mPa_refuse [.ref a0, .int (10 : Int32), .int (zI κ paAt a0)] κ (oV (fun κ1 =>
      ∀ _ : zW C n0 κ1,
      ∀ _ : zM (zn κ) κ κ1,
      w_Pa_newName_128 C n0 Q X  a0 a1 a2 κ1) X))
theorem t_Pa_newName_113 {C : zC} {n0 : Nat} {Q : Int32 → zS → Prop} {X : zXp}   {a0 : Nat} {a1 : Int32} {a2 : Int32} {s0 : Int32} {κ : zS} (W : zW C n0 κ) (Ta0 : zT κ a0 = 10) (F : w_Pa_newName_113 C n0 Q X  a0 a1 a2 s0 κ) : zG C n0 10 mPa_newName 113 [some (.ref a0), some (.int a1), some (.int a2), none] [.int s0] κ (oI Q X) := by
  unfold w_Pa_newName_113 at F
  refine y_isn dX7_newName_113 (Nat.le_of_ble_eq_true rfl) rfl ?_
  show zG _ _ _ _ _ [some (.ref a0), some (.int a1), some (.int a2), some (.int s0)] _ _ _
  refine y_iln dX7_newName_114 rfl ?_
  refine y_i (s0 = (0 : Int32)) dX7_newName_115 (t := 128) rfl rfl (fun c9 => ?_) (fun c9 => ?_)
  · replace F := F.1 c9
    exact y_k (t_Pa_newName_128  W Ta0 F) ⟨rfl, rfl, rfl, trivial⟩
  · replace F := F.2 c9
    refine y_aln dX7_newName_118 rfl ?_
    refine y_bi1 dX7_newName_119 zb_10 ?_
    refine y_aln dX7_newName_121 rfl ?_
    refine gf_X7_55 dX7_newName_122 rfl (Or.inl Ta0) ?_
    replace F := F Ta0
    refine k_X7_123 W dX7_newName_125 rfl (Nat.le_of_ble_eq_true rfl) (Nat.le_of_ble_eq_true rfl) (Or.inl Ta0) F (fun  κ1 Wκ1 Mκ1 F => ?_) (fun cls9 κ9 h9 => Or.inr ⟨_, rfl, h9⟩)
    replace F := F Wκ1 Mκ1
    have h4 := (ztm W Mκ1 Ta0)
    exact y_k (t_Pa_newName_128  Wκ1 h4 F) ⟨rfl, rfl, rfl, trivial⟩

def w_Pa_newName_0 (C : zC) (n0 : Nat) (Q : Int32 → zS → Prop) (X : zXp)  (a0 : Nat) (a1 : Int32) (a2 : Int32) (κ : zS) : Prop :=
  ∀ _ : zT κ a0 = 10,
  zRun C 9 mPa_expect [.ref a0, .int (140 : Int32)] κ (oV (fun κ1 =>
    ∀ _ : zW C n0 κ1,
    ∀ _ : zM (zn κ) κ κ1,
    ∀ _ : zT κ1 (zR κ1 paTape a0) = 13,
    ∀ _ : zT κ1 (zR κ1 paVarNames a0) = 20,
    zRun C 0 mTa_findName [.ref (zR κ1 paTape a0), .ref (zR κ1 paVarNames a0), .int (zI κ1 coVars (zR κ1 paCode a0)), .int (zI κ1 paAt a0)] κ1 (oI (fun r6 κ5 =>
      ∀ _ : zW C n0 κ5,
      ∀ _ : zM (zn κ1) κ1 κ5,
      (¬ r6 = (-1 : Int32) →
        w_Pa_newName_113 C n0 Q X  a0 a1 a2 (1 : Int32) κ5) ∧
      (r6 = (-1 : Int32) →
        ∀ _ : zT κ5 (zR κ5 paTape a0) = 13,
        ∀ _ : zT κ5 (zR κ5 paArrayNames a0) = 20,
        zRun C 0 mTa_findName [.ref (zR κ5 paTape a0), .ref (zR κ5 paArrayNames a0), .int (zI κ5 coArrays (zR κ5 paCode a0)), .int (zI κ5 paAt a0)] κ5 (oI (fun r11 κ10 =>
          ∀ _ : zW C n0 κ10,
          ∀ _ : zM (zn κ5) κ5 κ10,
          (¬ r11 = (-1 : Int32) →
            w_Pa_newName_113 C n0 Q X  a0 a1 a2 (1 : Int32) κ10) ∧
          (r11 = (-1 : Int32) →
            ∀ _ : zT κ10 (zR κ10 paTape a0) = 13,
            ∀ _ : zT κ10 (zR κ10 paFunctionNames a0) = 20,
            zRun C 0 mTa_findName [.ref (zR κ10 paTape a0), .ref (zR κ10 paFunctionNames a0), .int (zI κ10 coFunctions (zR κ10 paCode a0)), .int (zI κ10 paAt a0)] κ10 (oI (fun r16 κ15 =>
              ∀ _ : zW C n0 κ15,
              ∀ _ : zM (zn κ10) κ10 κ15,
              (¬ r16 = (-1 : Int32) →
                w_Pa_newName_113 C n0 Q X  a0 a1 a2 (1 : Int32) κ15) ∧
              (r16 = (-1 : Int32) →
                ∀ _ : zT κ15 (zR κ15 paTape a0) = 13,
                ∀ _ : zT κ15 (zR κ15 paOwnNames a0) = 20,
                zRun C 0 mTa_findName [.ref (zR κ15 paTape a0), .ref (zR κ15 paOwnNames a0), .int (zI κ15 paOwns a0), .int (zI κ15 paAt a0)] κ15 (oI (fun r21 κ20 =>
                  ∀ _ : zW C n0 κ20,
                  ∀ _ : zM (zn κ15) κ15 κ20,
                  (r21 = (-1 : Int32) →
                    w_Pa_newName_113 C n0 Q X  a0 a1 a2 (0 : Int32) κ20) ∧
                  (¬ r21 = (-1 : Int32) →
                    w_Pa_newName_113 C n0 Q X  a0 a1 a2 (1 : Int32) κ20)) noX))) noX))) noX))) noX)) X)
theorem t_Pa_newName_0 {C : zC} {n0 : Nat} {Q : Int32 → zS → Prop} {X : zXp}   {a0 : Nat} {a1 : Int32} {a2 : Int32} {κ : zS} (W : zW C n0 κ) (Ta0 : zT κ a0 = 10) (F : w_Pa_newName_0 C n0 Q X  a0 a1 a2 κ) : zG C n0 10 mPa_newName 0 [some (.ref a0), some (.int a1), some (.int a2), none] [] κ (oI Q X) := by
  unfold w_Pa_newName_0 at F
  refine y_aln dX7_newName_0 rfl ?_
  refine y_si dX7_newName_1 zs_140 ?_
  replace F := F Ta0
  refine k_X7_127 W dX7_newName_4 rfl (Nat.le_of_ble_eq_true rfl) (Nat.le_of_ble_eq_true rfl) (Or.inl Ta0) F (fun  κ1 Wκ1 Mκ1 F => ?_) (fun cls9 κ9 h9 => Or.inr ⟨_, rfl, h9⟩)
  replace F := F Wκ1 Mκ1
  refine y_aln dX7_newName_7 rfl ?_
  have h4 := (ztm W Mκ1 Ta0)
  refine gf_X7_9 Wκ1 dX7_newName_8 rfl h4 ?_
  refine y_aln dX7_newName_11 rfl ?_
  refine gf_X7_19 Wκ1 dX7_newName_12 rfl h4 ?_
  refine y_aln dX7_newName_15 rfl ?_
  refine gf_X7_15 Wκ1 dX7_newName_16 rfl h4 ?_
  refine gf_X7_130 dX7_newName_19 rfl (Or.inl (ty_paCode Wκ1 h4)) ?_
  refine y_aln dX7_newName_22 rfl ?_
  refine gf_X7_55 dX7_newName_23 rfl (Or.inl h4) ?_
  replace F := F (ty_paTape Wκ1 h4)
  replace F := F (ty_paVarNames Wκ1 h4)
  refine k_X7_133 Wκ1 dX7_newName_26 rfl (Nat.le_of_ble_eq_true rfl) (Nat.le_of_ble_eq_true rfl) (Or.inl (ty_paTape Wκ1 h4)) F (fun r6 κ5 Wκ5 Mκ5 F => ?_) (fun _ _ h9 => False.elim h9)
  replace F := F Wκ5 Mκ5
  refine y_ic dX7_newName_29 zi_m1 ?_
  refine y_iin (r6 = (-1 : Int32)) dX7_newName_30 (t := 108) rfl rfl (fun c9 => ?_) (fun c9 => ?_)
  · replace F := F.1 c9
    refine y_ic dX7_newName_108 zi_1 ?_
    refine y_goto dX7_newName_109 (t := 113) rfl ?_
    have h8 := (ztm Wκ1 Mκ5 h4)
    exact y_k (t_Pa_newName_113  Wκ5 h8 F) ⟨rfl, rfl, rfl, trivial⟩
  · replace F := F.2 c9
    refine y_aln dX7_newName_33 rfl ?_
    have h9 := (ztm Wκ1 Mκ5 h4)
    refine gf_X7_9 Wκ5 dX7_newName_34 rfl h9 ?_
    refine y_aln dX7_newName_37 rfl ?_
    refine gf_X7_23 Wκ5 dX7_newName_38 rfl h9 ?_
    refine y_aln dX7_newName_41 rfl ?_
    refine gf_X7_15 Wκ5 dX7_newName_42 rfl h9 ?_
    refine gf_X7_137 dX7_newName_45 rfl (Or.inl (ty_paCode Wκ5 h9)) ?_
    refine y_aln dX7_newName_48 rfl ?_
    refine gf_X7_55 dX7_newName_49 rfl (Or.inl h9) ?_
    replace F := F (ty_paTape Wκ5 h9)
    replace F := F (ty_paArrayNames Wκ5 h9)
    refine k_X7_133 Wκ5 dX7_newName_52 rfl (Nat.le_of_ble_eq_true rfl) (Nat.le_of_ble_eq_true rfl) (Or.inl (ty_paTape Wκ5 h9)) F (fun r11 κ10 Wκ10 Mκ10 F => ?_) (fun _ _ h9 => False.elim h9)
    replace F := F Wκ10 Mκ10
    refine y_ic dX7_newName_55 zi_m1 ?_
    refine y_iin (r11 = (-1 : Int32)) dX7_newName_56 (t := 108) rfl rfl (fun c9 => ?_) (fun c9 => ?_)
    · replace F := F.1 c9
      refine y_ic dX7_newName_108 zi_1 ?_
      refine y_goto dX7_newName_109 (t := 113) rfl ?_
      have h13 := (ztm Wκ5 Mκ10 h9)
      exact y_k (t_Pa_newName_113  Wκ10 h13 F) ⟨rfl, rfl, rfl, trivial⟩
    · replace F := F.2 c9
      refine y_aln dX7_newName_59 rfl ?_
      have h14 := (ztm Wκ5 Mκ10 h9)
      refine gf_X7_9 Wκ10 dX7_newName_60 rfl h14 ?_
      refine y_aln dX7_newName_63 rfl ?_
      refine gf_X7_26 Wκ10 dX7_newName_64 rfl h14 ?_
      refine y_aln dX7_newName_67 rfl ?_
      refine gf_X7_15 Wκ10 dX7_newName_68 rfl h14 ?_
      refine gf_X7_140 dX7_newName_71 rfl (Or.inl (ty_paCode Wκ10 h14)) ?_
      refine y_aln dX7_newName_74 rfl ?_
      refine gf_X7_55 dX7_newName_75 rfl (Or.inl h14) ?_
      replace F := F (ty_paTape Wκ10 h14)
      replace F := F (ty_paFunctionNames Wκ10 h14)
      refine k_X7_133 Wκ10 dX7_newName_78 rfl (Nat.le_of_ble_eq_true rfl) (Nat.le_of_ble_eq_true rfl) (Or.inl (ty_paTape Wκ10 h14)) F (fun r16 κ15 Wκ15 Mκ15 F => ?_) (fun _ _ h9 => False.elim h9)
      replace F := F Wκ15 Mκ15
      refine y_ic dX7_newName_81 zi_m1 ?_
      refine y_iin (r16 = (-1 : Int32)) dX7_newName_82 (t := 108) rfl rfl (fun c9 => ?_) (fun c9 => ?_)
      · replace F := F.1 c9
        refine y_ic dX7_newName_108 zi_1 ?_
        refine y_goto dX7_newName_109 (t := 113) rfl ?_
        have h18 := (ztm Wκ10 Mκ15 h14)
        exact y_k (t_Pa_newName_113  Wκ15 h18 F) ⟨rfl, rfl, rfl, trivial⟩
      · replace F := F.2 c9
        refine y_aln dX7_newName_85 rfl ?_
        have h19 := (ztm Wκ10 Mκ15 h14)
        refine gf_X7_9 Wκ15 dX7_newName_86 rfl h19 ?_
        refine y_aln dX7_newName_89 rfl ?_
        refine gf_X7_29 Wκ15 dX7_newName_90 rfl h19 ?_
        refine y_aln dX7_newName_93 rfl ?_
        refine gf_X7_66 dX7_newName_94 rfl (Or.inl h19) ?_
        refine y_aln dX7_newName_97 rfl ?_
        refine gf_X7_55 dX7_newName_98 rfl (Or.inl h19) ?_
        replace F := F (ty_paTape Wκ15 h19)
        replace F := F (ty_paOwnNames Wκ15 h19)
        refine k_X7_133 Wκ15 dX7_newName_101 rfl (Nat.le_of_ble_eq_true rfl) (Nat.le_of_ble_eq_true rfl) (Or.inl (ty_paTape Wκ15 h19)) F (fun r21 κ20 Wκ20 Mκ20 F => ?_) (fun _ _ h9 => False.elim h9)
        replace F := F Wκ20 Mκ20
        refine y_ic dX7_newName_104 zi_m1 ?_
        refine y_ii (r21 = (-1 : Int32)) dX7_newName_105 (t := 112) rfl rfl (fun c9 => ?_) (fun c9 => ?_)
        · replace F := F.1 c9
          refine y_ic dX7_newName_112 zi_0 ?_
          have h23 := (ztm Wκ15 Mκ20 h19)
          exact y_k (t_Pa_newName_113  Wκ20 h23 F) ⟨rfl, rfl, rfl, trivial⟩
        · replace F := F.2 c9
          refine y_ic dX7_newName_108 zi_1 ?_
          refine y_goto dX7_newName_109 (t := 113) rfl ?_
          have h24 := (ztm Wκ15 Mκ20 h19)
          exact y_k (t_Pa_newName_113  Wκ20 h24 F) ⟨rfl, rfl, rfl, trivial⟩

theorem Pa_newName_run {C : zC} {n0 : Nat} {Q : Int32 → zS → Prop} {X : zXp} {a0 : Nat} {a1 : Int32} {a2 : Int32} {κ : zS} (W : zW C n0 κ) (Ta0 : zT κ a0 = 10) (F : w_Pa_newName_0 C (zn κ) Q X a0 a1 a2 κ) : zRun C 10 mPa_newName [.ref a0, .int a1, .int a2] κ (oI Q X) := z_run (m_ent _ 1) (t_Pa_newName_0 (W.lo (Nat.le_trans W.1.2.1 W.1.2.2) (Nat.le_refl _)) Ta0 F)

theorem dX7_pass_0 : decode cX7_pass 0 = .ok (.aload_n 0, 1) := by decide +kernel
theorem dX7_pass_1 : decode cX7_pass 1 = .ok (.getfield 78, 3) := by decide +kernel
theorem dX7_pass_4 : decode cX7_pass 4 = .ok (.iload_n 1, 1) := by decide +kernel
theorem dX7_pass_5 : decode cX7_pass 5 = .ok (.if_icmp .eq 12, 3) := by decide +kernel
theorem dX7_pass_8 : decode cX7_pass 8 = .ok (.aload_n 0, 1) := by decide +kernel
theorem dX7_pass_9 : decode cX7_pass 9 = .ok (.iconst 2, 1) := by decide +kernel
theorem dX7_pass_10 : decode cX7_pass 10 = .ok (.aload_n 0, 1) := by decide +kernel
theorem dX7_pass_11 : decode cX7_pass 11 = .ok (.getfield 55, 3) := by decide +kernel
theorem dX7_pass_14 : decode cX7_pass 14 = .ok (.invokevirtual 123, 3) := by decide +kernel
theorem dX7_pass_17 : decode cX7_pass 17 = .ok (.aload_n 0, 1) := by decide +kernel
theorem dX7_pass_18 : decode cX7_pass 18 = .ok (.invokevirtual 72, 3) := by decide +kernel
theorem dX7_pass_21 : decode cX7_pass 21 = .ok (.return_, 1) := by decide +kernel
def w_Pa_pass_0 (C : zC) (n0 : Nat) (Q : zS → Prop) (X : zXp)  (a0 : Nat) (a1 : Int32) (κ : zS) : Prop :=
  ((zI κ paKind a0) = a1 →
    ∀ _ : zT κ a0 = 10,
    zRun C 0 mPa_take [.ref a0] κ (oV (fun κ1 =>
      ∀ _ : zW C n0 κ1,
      ∀ _ : zM (zn κ) κ κ1,
      Q κ1) noX)) ∧
  (¬ (zI κ paKind a0) = a1 →
    ∀ _ : zT κ a0 = 10,
    zRun C 8 mPa_refuse [.ref a0, .int (2 : Int32), .int (zI κ paAt a0)] κ (oV (fun κ4 =>
      ∀ _ : zW C n0 κ4,
      ∀ _ : zM (zn κ) κ κ4,
      ∀ _ : zT κ4 a0 = 10,
      zRun C 0 mPa_take [.ref a0] κ4 (oV (fun κ7 =>
        ∀ _ : zW C n0 κ7,
        ∀ _ : zM (zn κ4) κ4 κ7,
        Q κ7) noX)) X))
theorem t_Pa_pass_0 {C : zC} {n0 : Nat} {Q : zS → Prop} {X : zXp}   {a0 : Nat} {a1 : Int32} {κ : zS} (W : zW C n0 κ) (Ta0 : zT κ a0 = 10) (F : w_Pa_pass_0 C n0 Q X  a0 a1 κ) : zG C n0 9 mPa_pass 0 [some (.ref a0), some (.int a1)] [] κ (oV Q X) := by
  unfold w_Pa_pass_0 at F
  refine y_aln dX7_pass_0 rfl ?_
  refine gf_X7_78 dX7_pass_1 rfl (Or.inl Ta0) ?_
  refine y_iln dX7_pass_4 rfl ?_
  refine y_ii ((zI κ paKind a0) = a1) dX7_pass_5 (t := 17) rfl rfl (fun c9 => ?_) (fun c9 => ?_)
  · replace F := F.1 c9
    refine y_aln dX7_pass_17 rfl ?_
    replace F := F Ta0
    refine k_X7_72 W dX7_pass_18 rfl (Nat.le_of_ble_eq_true rfl) (Nat.le_of_ble_eq_true rfl) (Or.inl Ta0) F (fun  κ1 Wκ1 Mκ1 F => ?_) (fun _ _ h9 => False.elim h9)
    replace F := F Wκ1 Mκ1
    exact y_rv Wκ1 dX7_pass_21 rfl F
  · replace F := F.2 c9
    refine y_aln dX7_pass_8 rfl ?_
    refine y_ic dX7_pass_9 zi_2 ?_
    refine y_aln dX7_pass_10 rfl ?_
    refine gf_X7_55 dX7_pass_11 rfl (Or.inl Ta0) ?_
    replace F := F Ta0
    refine k_X7_123 W dX7_pass_14 rfl (Nat.le_of_ble_eq_true rfl) (Nat.le_of_ble_eq_true rfl) (Or.inl Ta0) F (fun  κ4 Wκ4 Mκ4 F => ?_) (fun cls9 κ9 h9 => Or.inr ⟨_, rfl, h9⟩)
    replace F := F Wκ4 Mκ4
    refine y_aln dX7_pass_17 rfl ?_
    have h9 := (ztm W Mκ4 Ta0)
    replace F := F h9
    refine k_X7_72 Wκ4 dX7_pass_18 rfl (Nat.le_of_ble_eq_true rfl) (Nat.le_of_ble_eq_true rfl) (Or.inl h9) F (fun  κ7 Wκ7 Mκ7 F => ?_) (fun _ _ h9 => False.elim h9)
    replace F := F Wκ7 Mκ7
    exact y_rv Wκ7 dX7_pass_21 rfl F

theorem Pa_pass_run {C : zC} {n0 : Nat} {Q : zS → Prop} {X : zXp} {a0 : Nat} {a1 : Int32} {κ : zS} (W : zW C n0 κ) (Ta0 : zT κ a0 = 10) (F : w_Pa_pass_0 C (zn κ) Q X a0 a1 κ) : zRun C 9 mPa_pass [.ref a0, .int a1] κ (oV Q X) := z_run (m_ent _ 0) (t_Pa_pass_0 (W.lo (Nat.le_trans W.1.2.1 W.1.2.2) (Nat.le_refl _)) Ta0 F)

theorem dX10_byteAt_0 : decode cX10_byteAt 0 = .ok (.iload_n 1, 1) := by decide +kernel
theorem dX10_byteAt_1 : decode cX10_byteAt 1 = .ok (.ifCond .lt 33, 3) := by decide +kernel
theorem dX10_byteAt_4 : decode cX10_byteAt 4 = .ok (.iload_n 1, 1) := by decide +kernel
theorem dX10_byteAt_5 : decode cX10_byteAt 5 = .ok (.aload_n 0, 1) := by decide +kernel
theorem dX10_byteAt_6 : decode cX10_byteAt 6 = .ok (.getfield 31, 3) := by decide +kernel
theorem dX10_byteAt_9 : decode cX10_byteAt 9 = .ok (.if_icmp .ge 25, 3) := by decide +kernel
theorem dX10_byteAt_12 : decode cX10_byteAt 12 = .ok (.iload_n 1, 1) := by decide +kernel
theorem dX10_byteAt_13 : decode cX10_byteAt 13 = .ok (.aload_n 0, 1) := by decide +kernel
theorem dX10_byteAt_14 : decode cX10_byteAt 14 = .ok (.getfield 9, 3) := by decide +kernel
theorem dX10_byteAt_17 : decode cX10_byteAt 17 = .ok (.arraylength, 1) := by decide +kernel
theorem dX10_byteAt_18 : decode cX10_byteAt 18 = .ok (.if_icmp .ge 16, 3) := by decide +kernel
theorem dX10_byteAt_21 : decode cX10_byteAt 21 = .ok (.aload_n 0, 1) := by decide +kernel
theorem dX10_byteAt_22 : decode cX10_byteAt 22 = .ok (.getfield 9, 3) := by decide +kernel
theorem dX10_byteAt_25 : decode cX10_byteAt 25 = .ok (.iload_n 1, 1) := by decide +kernel
theorem dX10_byteAt_26 : decode cX10_byteAt 26 = .ok (.baload, 1) := by decide +kernel
theorem dX10_byteAt_27 : decode cX10_byteAt 27 = .ok (.sipush 255, 3) := by decide +kernel
theorem dX10_byteAt_30 : decode cX10_byteAt 30 = .ok (.iand, 1) := by decide +kernel
theorem dX10_byteAt_31 : decode cX10_byteAt 31 = .ok (.goto 4, 3) := by decide +kernel
theorem dX10_byteAt_34 : decode cX10_byteAt 34 = .ok (.iconst (-1), 1) := by decide +kernel
theorem dX10_byteAt_35 : decode cX10_byteAt 35 = .ok (.ireturn, 1) := by decide +kernel
def w_Ta_byteAt_0 (C : zC) (n0 : Nat) (Q : Int32 → zS → Prop)  (a0 : Nat) (a1 : Int32) (κ : zS) : Prop :=
  (a1 < (0 : Int32) →
    Q (-1 : Int32) κ) ∧
  (¬ a1 < (0 : Int32) →
    ((zI κ taLength a0) ≤ a1 →
      Q (-1 : Int32) κ) ∧
    (¬ (zI κ taLength a0) ≤ a1 →
      ((Int32.ofNat (zN κ (zR κ taBytes a0))) ≤ a1 →
        Q (-1 : Int32) κ) ∧
      (¬ (Int32.ofNat (zN κ (zR κ taBytes a0))) ≤ a1 →
        inb a1 (zN κ (zR κ taBytes a0)) ∧
        Q ((zA κ (zR κ taBytes a0) (a1).toNatClampNeg) &&& (255 : Int32)) κ)))
theorem t_Ta_byteAt_0 {C : zC} {n0 : Nat} {Q : Int32 → zS → Prop}   {a0 : Nat} {a1 : Int32} {κ : zS} (W : zW C n0 κ) (Ta0 : zT κ a0 = 13) (F : w_Ta_byteAt_0 C n0 Q  a0 a1 κ) : zG C n0 0 mTa_byteAt 0 [some (.ref a0), some (.int a1)] [] κ (oI Q noX) := by
  unfold w_Ta_byteAt_0 at F
  refine y_iln dX10_byteAt_0 rfl ?_
  refine y_i (a1 < (0 : Int32)) dX10_byteAt_1 (t := 34) rfl rfl (fun c9 => ?_) (fun c9 => ?_)
  · replace F := F.1 c9
    refine y_ic dX10_byteAt_34 zi_m1 ?_
    exact y_ri W dX10_byteAt_35 rfl in_nar F
  · replace F := F.2 c9
    refine y_iln dX10_byteAt_4 rfl ?_
    refine y_aln dX10_byteAt_5 rfl ?_
    refine gf_X10_31 dX10_byteAt_6 rfl (Or.inl Ta0) ?_
    refine y_ii ((zI κ taLength a0) ≤ a1) dX10_byteAt_9 (t := 34) rfl rfl (fun c9 => ?_) (fun c9 => ?_)
    · replace F := F.1 c9
      refine y_ic dX10_byteAt_34 zi_m1 ?_
      exact y_ri W dX10_byteAt_35 rfl in_nar F
    · replace F := F.2 c9
      refine y_iln dX10_byteAt_12 rfl ?_
      refine y_aln dX10_byteAt_13 rfl ?_
      refine gf_X10_9 W dX10_byteAt_14 rfl Ta0 ?_
      refine y_alen (t := 1) dX10_byteAt_17 (ty_taBytes W Ta0) (by decide) ?_
      refine y_ii ((Int32.ofNat (zN κ (zR κ taBytes a0))) ≤ a1) dX10_byteAt_18 (t := 34) rfl rfl (fun c9 => ?_) (fun c9 => ?_)
      · replace F := F.1 c9
        refine y_ic dX10_byteAt_34 zi_m1 ?_
        exact y_ri W dX10_byteAt_35 rfl in_nar F
      · replace F := F.2 c9
        refine y_aln dX10_byteAt_21 rfl ?_
        refine gf_X10_9 W dX10_byteAt_22 rfl Ta0 ?_
        refine y_iln dX10_byteAt_25 rfl ?_
        refine y_bld dX10_byteAt_26 (ty_taBytes W Ta0) F.1 ?_
        replace F := F.2
        refine y_si dX10_byteAt_27 zs_255 ?_
        refine y_iand dX10_byteAt_30 ?_
        refine y_goto dX10_byteAt_31 (t := 35) rfl ?_
        exact y_ri W dX10_byteAt_35 rfl in_nar F

theorem Ta_byteAt_run {C : zC} {n0 : Nat} {Q : Int32 → zS → Prop} {a0 : Nat} {a1 : Int32} {κ : zS} (W : zW C n0 κ) (Ta0 : zT κ a0 = 13) (F : w_Ta_byteAt_0 C (zn κ) Q a0 a1 κ) : zRun C 0 mTa_byteAt [.ref a0, .int a1] κ (oI Q noX) := z_run (m_ent _ 0) (t_Ta_byteAt_0 (W.lo (Nat.le_trans W.1.2.1 W.1.2.2) (Nat.le_refl _)) Ta0 F)

theorem dX10_numberAt_0 : decode cX10_numberAt 0 = .ok (.iconst 0, 1) := by decide +kernel
theorem dX10_numberAt_1 : decode cX10_numberAt 1 = .ok (.istore_n 2, 1) := by decide +kernel
theorem dX10_numberAt_2 : decode cX10_numberAt 2 = .ok (.iconst 0, 1) := by decide +kernel
theorem dX10_numberAt_3 : decode cX10_numberAt 3 = .ok (.istore_n 3, 1) := by decide +kernel
theorem dX10_numberAt_4 : decode cX10_numberAt 4 = .ok (.iload_n 1, 1) := by decide +kernel
theorem dX10_numberAt_5 : decode cX10_numberAt 5 = .ok (.ifCond .lt 48, 3) := by decide +kernel
theorem dX10_numberAt_8 : decode cX10_numberAt 8 = .ok (.iload_n 1, 1) := by decide +kernel
theorem dX10_numberAt_9 : decode cX10_numberAt 9 = .ok (.aload_n 0, 1) := by decide +kernel
theorem dX10_numberAt_10 : decode cX10_numberAt 10 = .ok (.getfield 35, 3) := by decide +kernel
theorem dX10_numberAt_13 : decode cX10_numberAt 13 = .ok (.if_icmp .ge 40, 3) := by decide +kernel
theorem dX10_numberAt_16 : decode cX10_numberAt 16 = .ok (.iload_n 3, 1) := by decide +kernel
theorem dX10_numberAt_17 : decode cX10_numberAt 17 = .ok (.aload_n 0, 1) := by decide +kernel
theorem dX10_numberAt_18 : decode cX10_numberAt 18 = .ok (.getfield 22, 3) := by decide +kernel
theorem dX10_numberAt_21 : decode cX10_numberAt 21 = .ok (.iload_n 1, 1) := by decide +kernel
theorem dX10_numberAt_22 : decode cX10_numberAt 22 = .ok (.iaload, 1) := by decide +kernel
theorem dX10_numberAt_23 : decode cX10_numberAt 23 = .ok (.if_icmp .ge 30, 3) := by decide +kernel
theorem dX10_numberAt_26 : decode cX10_numberAt 26 = .ok (.iload_n 2, 1) := by decide +kernel
theorem dX10_numberAt_27 : decode cX10_numberAt 27 = .ok (.bipush 10, 2) := by decide +kernel
theorem dX10_numberAt_29 : decode cX10_numberAt 29 = .ok (.imul, 1) := by decide +kernel
theorem dX10_numberAt_30 : decode cX10_numberAt 30 = .ok (.aload_n 0, 1) := by decide +kernel
theorem dX10_numberAt_31 : decode cX10_numberAt 31 = .ok (.aload_n 0, 1) := by decide +kernel
theorem dX10_numberAt_32 : decode cX10_numberAt 32 = .ok (.getfield 19, 3) := by decide +kernel
theorem dX10_numberAt_35 : decode cX10_numberAt 35 = .ok (.iload_n 1, 1) := by decide +kernel
theorem dX10_numberAt_36 : decode cX10_numberAt 36 = .ok (.iaload, 1) := by decide +kernel
theorem dX10_numberAt_37 : decode cX10_numberAt 37 = .ok (.iload_n 3, 1) := by decide +kernel
theorem dX10_numberAt_38 : decode cX10_numberAt 38 = .ok (.iadd, 1) := by decide +kernel
theorem dX10_numberAt_39 : decode cX10_numberAt 39 = .ok (.invokevirtual 56, 3) := by decide +kernel
theorem dX10_numberAt_42 : decode cX10_numberAt 42 = .ok (.iadd, 1) := by decide +kernel
theorem dX10_numberAt_43 : decode cX10_numberAt 43 = .ok (.bipush 48, 2) := by decide +kernel
theorem dX10_numberAt_45 : decode cX10_numberAt 45 = .ok (.isub, 1) := by decide +kernel
theorem dX10_numberAt_46 : decode cX10_numberAt 46 = .ok (.istore_n 2, 1) := by decide +kernel
theorem dX10_numberAt_47 : decode cX10_numberAt 47 = .ok (.iinc 3 1, 3) := by decide +kernel
theorem dX10_numberAt_50 : decode cX10_numberAt 50 = .ok (.goto (-46), 3) := by decide +kernel
theorem dX10_numberAt_53 : decode cX10_numberAt 53 = .ok (.iload_n 2, 1) := by decide +kernel
theorem dX10_numberAt_54 : decode cX10_numberAt 54 = .ok (.ireturn, 1) := by decide +kernel
def w_Ta_numberAt_4 (C : zC) (n0 : Nat) (Q : Int32 → zS → Prop)  (a0 : Nat) (a1 : Int32) (a2 : Int32) (a3 : Int32) (κ : zS) : Prop :=
  ∃ I : Nat → Nat → Int32 → Int32 → Int32 → zS → Prop, (∃ n, I n a0 a1 a2 a3 κ) ∧ ∀ n a0 a1 a2 a3 κ, zW C n0 κ → zT κ a0 = 13 → I n a0 a1 a2 a3 κ →
    (a1 < (0 : Int32) →
      Q a2 κ) ∧
    (¬ a1 < (0 : Int32) →
      ((zI κ taTotal a0) ≤ a1 →
        Q a2 κ) ∧
      (¬ (zI κ taTotal a0) ≤ a1 →
        inb a1 (zN κ (zR κ taLengths a0)) ∧
        ((zA κ (zR κ taLengths a0) (a1).toNatClampNeg) ≤ a3 →
          Q a2 κ) ∧
        (¬ (zA κ (zR κ taLengths a0) (a1).toNatClampNeg) ≤ a3 →
          inb a1 (zN κ (zR κ taPlaces a0)) ∧
          ∀ _ : zT κ a0 = 13,
          zRun C 0 mTa_byteAt [.ref a0, .int ((zA κ (zR κ taPlaces a0) (a1).toNatClampNeg) + a3)] κ (oI (fun r2 κ1 =>
            ∀ _ : zW C n0 κ1,
            ∀ _ : zM (zn κ) κ κ1,
            ∀ v2_4 : Int32, v2_4 = (((a2 * (10 : Int32)) + r2) - (48 : Int32)) →
            ∀ v3_5 : Int32, v3_5 = a3 + (1 : Int32) →
            ∃ k < n, I k a0 a1 v2_4 v3_5 κ1) noX))))
theorem t_Ta_numberAt_4 {C : zC} {n0 : Nat} {Q : Int32 → zS → Prop}   {a0 : Nat} {a1 : Int32} {a2 : Int32} {a3 : Int32} {κ : zS} (W : zW C n0 κ) (Ta0 : zT κ a0 = 13) (F : w_Ta_numberAt_4 C n0 Q  a0 a1 a2 a3 κ) : zG C n0 1 mTa_numberAt 4 [some (.ref a0), some (.int a1), some (.int a2), some (.int a3)] [] κ (oI Q noX) := by
  obtain ⟨I, ⟨m0, hI0⟩, F0⟩ := F
  have key : ∀ n a0 a1 a2 a3 κ, zW C n0 κ → zT κ a0 = 13 → I n a0 a1 a2 a3 κ → zG C n0 1 mTa_numberAt 4 [some (.ref a0), some (.int a1), some (.int a2), some (.int a3)] [] κ (oI Q noX) := by
    intro n
    induction n using Nat.strongRecOn with
    | _ n ih =>
      intro a0 a1 a2 a3 κ W Ta0 hI
      have F := F0 n a0 a1 a2 a3 κ W Ta0 hI
      clear hI hI0
      refine y_iln dX10_numberAt_4 rfl ?_
      refine y_i (a1 < (0 : Int32)) dX10_numberAt_5 (t := 53) rfl rfl (fun c9 => ?_) (fun c9 => ?_)
      · replace F := F.1 c9
        refine y_iln dX10_numberAt_53 rfl ?_
        exact y_ri W dX10_numberAt_54 rfl in_nar F
      · replace F := F.2 c9
        refine y_iln dX10_numberAt_8 rfl ?_
        refine y_aln dX10_numberAt_9 rfl ?_
        refine gf_X10_35 dX10_numberAt_10 rfl (Or.inl Ta0) ?_
        refine y_ii ((zI κ taTotal a0) ≤ a1) dX10_numberAt_13 (t := 53) rfl rfl (fun c9 => ?_) (fun c9 => ?_)
        · replace F := F.1 c9
          refine y_iln dX10_numberAt_53 rfl ?_
          exact y_ri W dX10_numberAt_54 rfl in_nar F
        · replace F := F.2 c9
          refine y_iln dX10_numberAt_16 rfl ?_
          refine y_aln dX10_numberAt_17 rfl ?_
          refine gf_X10_22 W dX10_numberAt_18 rfl Ta0 ?_
          refine y_iln dX10_numberAt_21 rfl ?_
          refine y_ald dX10_numberAt_22 (ty_taLengths W Ta0) F.1 ?_
          replace F := F.2
          refine y_ii ((zA κ (zR κ taLengths a0) (a1).toNatClampNeg) ≤ a3) dX10_numberAt_23 (t := 53) rfl rfl (fun c9 => ?_) (fun c9 => ?_)
          · replace F := F.1 c9
            refine y_iln dX10_numberAt_53 rfl ?_
            exact y_ri W dX10_numberAt_54 rfl in_nar F
          · replace F := F.2 c9
            refine y_iln dX10_numberAt_26 rfl ?_
            refine y_bi1 dX10_numberAt_27 zb_10 ?_
            refine y_imul dX10_numberAt_29 ?_
            refine y_aln dX10_numberAt_30 rfl ?_
            refine y_aln dX10_numberAt_31 rfl ?_
            refine gf_X10_19 W dX10_numberAt_32 rfl Ta0 ?_
            refine y_iln dX10_numberAt_35 rfl ?_
            refine y_ald dX10_numberAt_36 (ty_taPlaces W Ta0) F.1 ?_
            replace F := F.2
            refine y_iln dX10_numberAt_37 rfl ?_
            refine y_iadd dX10_numberAt_38 ?_
            replace F := F Ta0
            refine k_X10_56 W dX10_numberAt_39 rfl (Nat.le_of_ble_eq_true rfl) (Nat.le_of_ble_eq_true rfl) (Or.inl Ta0) F (fun r2 κ1 Wκ1 Mκ1 F => ?_) (fun _ _ h9 => False.elim h9)
            replace F := F Wκ1 Mκ1
            refine y_iadd dX10_numberAt_42 ?_
            refine y_bi1 dX10_numberAt_43 zb_48 ?_
            refine y_isub dX10_numberAt_45 ?_
            refine y_isnb dX10_numberAt_46 (Nat.le_of_ble_eq_true rfl) (fun v2_4 ev2_4 => ?_)
            replace F := F v2_4 ev2_4
            show zG _ _ _ _ _ [some (.ref a0), some (.int a1), some (.int v2_4), some (.int a3)] _ _ _
            refine y_incb dX10_numberAt_47 zi_1 rfl (Nat.le_of_ble_eq_true rfl) (fun v3_5 ev3_5 => ?_)
            replace F := F v3_5 ev3_5
            show zG _ _ _ _ _ [some (.ref a0), some (.int a1), some (.int v2_4), some (.int v3_5)] _ _ _
            refine y_goto dX10_numberAt_50 (t := 4) rfl ?_
            have h6 := (ztm W Mκ1 Ta0)
            obtain ⟨k, hk, hI⟩ := F
            exact y_k (ih k hk _ _ _ _ _ Wκ1 h6 hI) ⟨rfl, rfl, rfl, rfl, trivial⟩
  exact key m0 a0 a1 a2 a3 κ W Ta0 hI0

def w_Ta_numberAt_0 (C : zC) (n0 : Nat) (Q : Int32 → zS → Prop)  (a0 : Nat) (a1 : Int32) (κ : zS) : Prop :=
  w_Ta_numberAt_4 C n0 Q  a0 a1 (0 : Int32) (0 : Int32) κ
theorem t_Ta_numberAt_0 {C : zC} {n0 : Nat} {Q : Int32 → zS → Prop}   {a0 : Nat} {a1 : Int32} {κ : zS} (W : zW C n0 κ) (Ta0 : zT κ a0 = 13) (F : w_Ta_numberAt_0 C n0 Q  a0 a1 κ) : zG C n0 1 mTa_numberAt 0 [some (.ref a0), some (.int a1), none, none] [] κ (oI Q noX) := by
  unfold w_Ta_numberAt_0 at F
  refine y_ic dX10_numberAt_0 zi_0 ?_
  refine y_isn dX10_numberAt_1 (Nat.le_of_ble_eq_true rfl) rfl ?_
  show zG _ _ _ _ _ [some (.ref a0), some (.int a1), some (.int (0 : Int32)), none] _ _ _
  refine y_ic dX10_numberAt_2 zi_0 ?_
  refine y_isn dX10_numberAt_3 (Nat.le_of_ble_eq_true rfl) rfl ?_
  show zG _ _ _ _ _ [some (.ref a0), some (.int a1), some (.int (0 : Int32)), some (.int (0 : Int32))] _ _ _
  exact y_k (t_Ta_numberAt_4  W Ta0 F) ⟨rfl, rfl, rfl, rfl, trivial⟩

theorem Ta_numberAt_run {C : zC} {n0 : Nat} {Q : Int32 → zS → Prop} {a0 : Nat} {a1 : Int32} {κ : zS} (W : zW C n0 κ) (Ta0 : zT κ a0 = 13) (F : w_Ta_numberAt_0 C (zn κ) Q a0 a1 κ) : zRun C 1 mTa_numberAt [.ref a0, .int a1] κ (oI Q noX) := z_run (m_ent _ 2) (t_Ta_numberAt_0 (W.lo (Nat.le_trans W.1.2.1 W.1.2.2) (Nat.le_refl _)) Ta0 F)

theorem dX7_varItem_0 : decode cX7_varItem 0 = .ok (.aload_n 0, 1) := by decide +kernel
theorem dX7_varItem_1 : decode cX7_varItem 1 = .ok (.aload_n 0, 1) := by decide +kernel
theorem dX7_varItem_2 : decode cX7_varItem 2 = .ok (.getfield 15, 3) := by decide +kernel
theorem dX7_varItem_5 : decode cX7_varItem 5 = .ok (.getfield 130, 3) := by decide +kernel
theorem dX7_varItem_8 : decode cX7_varItem 8 = .ok (.bipush 10, 2) := by decide +kernel
theorem dX7_varItem_10 : decode cX7_varItem 10 = .ok (.invokevirtual 152, 3) := by decide +kernel
theorem dX7_varItem_13 : decode cX7_varItem 13 = .ok (.istore_n 1, 1) := by decide +kernel
theorem dX7_varItem_14 : decode cX7_varItem 14 = .ok (.iconst 0, 1) := by decide +kernel
theorem dX7_varItem_15 : decode cX7_varItem 15 = .ok (.istore_n 2, 1) := by decide +kernel
theorem dX7_varItem_16 : decode cX7_varItem 16 = .ok (.aload_n 0, 1) := by decide +kernel
theorem dX7_varItem_17 : decode cX7_varItem 17 = .ok (.getfield 78, 3) := by decide +kernel
theorem dX7_varItem_20 : decode cX7_varItem 20 = .ok (.bipush 61, 2) := by decide +kernel
theorem dX7_varItem_22 : decode cX7_varItem 22 = .ok (.if_icmp .ne 72, 3) := by decide +kernel
theorem dX7_varItem_25 : decode cX7_varItem 25 = .ok (.aload_n 0, 1) := by decide +kernel
theorem dX7_varItem_26 : decode cX7_varItem 26 = .ok (.invokevirtual 72, 3) := by decide +kernel
theorem dX7_varItem_29 : decode cX7_varItem 29 = .ok (.aload_n 0, 1) := by decide +kernel
theorem dX7_varItem_30 : decode cX7_varItem 30 = .ok (.getfield 78, 3) := by decide +kernel
theorem dX7_varItem_33 : decode cX7_varItem 33 = .ok (.bipush 45, 2) := by decide +kernel
theorem dX7_varItem_35 : decode cX7_varItem 35 = .ok (.if_icmp .ne 7, 3) := by decide +kernel
theorem dX7_varItem_38 : decode cX7_varItem 38 = .ok (.iconst 1, 1) := by decide +kernel
theorem dX7_varItem_39 : decode cX7_varItem 39 = .ok (.goto 4, 3) := by decide +kernel
theorem dX7_varItem_42 : decode cX7_varItem 42 = .ok (.iconst 0, 1) := by decide +kernel
theorem dX7_varItem_43 : decode cX7_varItem 43 = .ok (.istore_n 3, 1) := by decide +kernel
theorem dX7_varItem_44 : decode cX7_varItem 44 = .ok (.iload_n 3, 1) := by decide +kernel
theorem dX7_varItem_45 : decode cX7_varItem 45 = .ok (.ifCond .eq 7, 3) := by decide +kernel
theorem dX7_varItem_48 : decode cX7_varItem 48 = .ok (.aload_n 0, 1) := by decide +kernel
theorem dX7_varItem_49 : decode cX7_varItem 49 = .ok (.invokevirtual 72, 3) := by decide +kernel
theorem dX7_varItem_52 : decode cX7_varItem 52 = .ok (.aload_n 0, 1) := by decide +kernel
theorem dX7_varItem_53 : decode cX7_varItem 53 = .ok (.sipush 141, 3) := by decide +kernel
theorem dX7_varItem_56 : decode cX7_varItem 56 = .ok (.invokevirtual 127, 3) := by decide +kernel
theorem dX7_varItem_59 : decode cX7_varItem 59 = .ok (.iload_n 3, 1) := by decide +kernel
theorem dX7_varItem_60 : decode cX7_varItem 60 = .ok (.ifCond .eq 18, 3) := by decide +kernel
theorem dX7_varItem_63 : decode cX7_varItem 63 = .ok (.aload_n 0, 1) := by decide +kernel
theorem dX7_varItem_64 : decode cX7_varItem 64 = .ok (.getfield 9, 3) := by decide +kernel
theorem dX7_varItem_67 : decode cX7_varItem 67 = .ok (.aload_n 0, 1) := by decide +kernel
theorem dX7_varItem_68 : decode cX7_varItem 68 = .ok (.getfield 55, 3) := by decide +kernel
theorem dX7_varItem_71 : decode cX7_varItem 71 = .ok (.invokevirtual 156, 3) := by decide +kernel
theorem dX7_varItem_74 : decode cX7_varItem 74 = .ok (.ineg, 1) := by decide +kernel
theorem dX7_varItem_75 : decode cX7_varItem 75 = .ok (.goto 14, 3) := by decide +kernel
theorem dX7_varItem_78 : decode cX7_varItem 78 = .ok (.aload_n 0, 1) := by decide +kernel
theorem dX7_varItem_79 : decode cX7_varItem 79 = .ok (.getfield 9, 3) := by decide +kernel
theorem dX7_varItem_82 : decode cX7_varItem 82 = .ok (.aload_n 0, 1) := by decide +kernel
theorem dX7_varItem_83 : decode cX7_varItem 83 = .ok (.getfield 55, 3) := by decide +kernel
theorem dX7_varItem_86 : decode cX7_varItem 86 = .ok (.invokevirtual 156, 3) := by decide +kernel
theorem dX7_varItem_89 : decode cX7_varItem 89 = .ok (.istore_n 2, 1) := by decide +kernel
theorem dX7_varItem_90 : decode cX7_varItem 90 = .ok (.aload_n 0, 1) := by decide +kernel
theorem dX7_varItem_91 : decode cX7_varItem 91 = .ok (.invokevirtual 72, 3) := by decide +kernel
theorem dX7_varItem_94 : decode cX7_varItem 94 = .ok (.aload_n 0, 1) := by decide +kernel
theorem dX7_varItem_95 : decode cX7_varItem 95 = .ok (.bipush 59, 2) := by decide +kernel
theorem dX7_varItem_97 : decode cX7_varItem 97 = .ok (.invokevirtual 160, 3) := by decide +kernel
theorem dX7_varItem_100 : decode cX7_varItem 100 = .ok (.aload_n 0, 1) := by decide +kernel
theorem dX7_varItem_101 : decode cX7_varItem 101 = .ok (.getfield 15, 3) := by decide +kernel
theorem dX7_varItem_104 : decode cX7_varItem 104 = .ok (.getfield 130, 3) := by decide +kernel
theorem dX7_varItem_107 : decode cX7_varItem 107 = .ok (.bipush 10, 2) := by decide +kernel
theorem dX7_varItem_109 : decode cX7_varItem 109 = .ok (.if_icmp .ge 45, 3) := by decide +kernel
theorem dX7_varItem_112 : decode cX7_varItem 112 = .ok (.aload_n 0, 1) := by decide +kernel
theorem dX7_varItem_113 : decode cX7_varItem 113 = .ok (.getfield 19, 3) := by decide +kernel
theorem dX7_varItem_116 : decode cX7_varItem 116 = .ok (.aload_n 0, 1) := by decide +kernel
theorem dX7_varItem_117 : decode cX7_varItem 117 = .ok (.getfield 15, 3) := by decide +kernel
theorem dX7_varItem_120 : decode cX7_varItem 120 = .ok (.getfield 130, 3) := by decide +kernel
theorem dX7_varItem_123 : decode cX7_varItem 123 = .ok (.iload_n 1, 1) := by decide +kernel
theorem dX7_varItem_124 : decode cX7_varItem 124 = .ok (.iastore, 1) := by decide +kernel
theorem dX7_varItem_125 : decode cX7_varItem 125 = .ok (.aload_n 0, 1) := by decide +kernel
theorem dX7_varItem_126 : decode cX7_varItem 126 = .ok (.getfield 15, 3) := by decide +kernel
theorem dX7_varItem_129 : decode cX7_varItem 129 = .ok (.getfield 163, 3) := by decide +kernel
theorem dX7_varItem_132 : decode cX7_varItem 132 = .ok (.aload_n 0, 1) := by decide +kernel
theorem dX7_varItem_133 : decode cX7_varItem 133 = .ok (.getfield 15, 3) := by decide +kernel
theorem dX7_varItem_136 : decode cX7_varItem 136 = .ok (.getfield 130, 3) := by decide +kernel
theorem dX7_varItem_139 : decode cX7_varItem 139 = .ok (.iload_n 2, 1) := by decide +kernel
theorem dX7_varItem_140 : decode cX7_varItem 140 = .ok (.iastore, 1) := by decide +kernel
theorem dX7_varItem_141 : decode cX7_varItem 141 = .ok (.aload_n 0, 1) := by decide +kernel
theorem dX7_varItem_142 : decode cX7_varItem 142 = .ok (.getfield 15, 3) := by decide +kernel
theorem dX7_varItem_145 : decode cX7_varItem 145 = .ok (.dup, 1) := by decide +kernel
theorem dX7_varItem_146 : decode cX7_varItem 146 = .ok (.getfield 130, 3) := by decide +kernel
theorem dX7_varItem_149 : decode cX7_varItem 149 = .ok (.iconst 1, 1) := by decide +kernel
theorem dX7_varItem_150 : decode cX7_varItem 150 = .ok (.iadd, 1) := by decide +kernel
theorem dX7_varItem_151 : decode cX7_varItem 151 = .ok (.putfield 130, 3) := by decide +kernel
theorem dX7_varItem_154 : decode cX7_varItem 154 = .ok (.return_, 1) := by decide +kernel
def w_Pa_varItem_94 (C : zC) (n0 : Nat) (Q : zS → Prop) (X : zXp)  (a0 : Nat) (a1 : Int32) (a2 : Int32) (κ : zS) : Prop :=
  ∀ _ : zT κ a0 = 10,
  zRun C 9 mPa_pass [.ref a0, .int (59 : Int32)] κ (oV (fun κ1 =>
    ∀ _ : zW C n0 κ1,
    ∀ _ : zM (zn κ) κ κ1,
    ((10 : Int32) ≤ (zI κ1 coVars (zR κ1 paCode a0)) →
      Q κ1) ∧
    (¬ (10 : Int32) ≤ (zI κ1 coVars (zR κ1 paCode a0)) →
      inb (zI κ1 coVars (zR κ1 paCode a0)) (zN κ1 (zR κ1 paVarNames a0)) ∧
      ∀ κ5, κ5 = ua κ1 (zR κ1 paVarNames a0) ((zI κ1 coVars (zR κ1 paCode a0))).toNatClampNeg a1 →
      ∀ _ : zW C n0 κ5,
      inb (zI κ5 coVars (zR κ5 paCode a0)) (zN κ5 (zR κ5 coVarStarts (zR κ5 paCode a0))) ∧
      ∀ κ7, κ7 = ua κ5 (zR κ5 coVarStarts (zR κ5 paCode a0)) ((zI κ5 coVars (zR κ5 paCode a0))).toNatClampNeg a2 →
      ∀ _ : zW C n0 κ7,
      ∀ κ9, κ9 = ui κ7 coVars (zR κ7 paCode a0) ((zI κ7 coVars (zR κ7 paCode a0)) + (1 : Int32)) →
      ∀ _ : zW C n0 κ9,
      Q κ9)) X)
theorem t_Pa_varItem_94 {C : zC} {n0 : Nat} {Q : zS → Prop} {X : zXp}   {a0 : Nat} {a1 : Int32} {a2 : Int32} {κ : zS} (W : zW C n0 κ) (Ta0 : zT κ a0 = 10) (F : w_Pa_varItem_94 C n0 Q X  a0 a1 a2 κ) : zG C n0 11 mPa_varItem 94 [some (.ref a0), some (.int a1), some (.int a2), none] [] κ (oV Q X) := by
  unfold w_Pa_varItem_94 at F
  refine y_aln dX7_varItem_94 rfl ?_
  refine y_bi1 dX7_varItem_95 zb_59 ?_
  replace F := F Ta0
  refine k_X7_160 W dX7_varItem_97 rfl (Nat.le_of_ble_eq_true rfl) (Nat.le_of_ble_eq_true rfl) (Or.inl Ta0) F (fun  κ1 Wκ1 Mκ1 F => ?_) (fun cls9 κ9 h9 => Or.inr ⟨_, rfl, h9⟩)
  replace F := F Wκ1 Mκ1
  refine y_aln dX7_varItem_100 rfl ?_
  have h4 := (ztm W Mκ1 Ta0)
  refine gf_X7_15 Wκ1 dX7_varItem_101 rfl h4 ?_
  refine gf_X7_130 dX7_varItem_104 rfl (Or.inl (ty_paCode Wκ1 h4)) ?_
  refine y_bi1 dX7_varItem_107 zb_10 ?_
  refine y_ii ((10 : Int32) ≤ (zI κ1 coVars (zR κ1 paCode a0))) dX7_varItem_109 (t := 154) rfl rfl (fun c9 => ?_) (fun c9 => ?_)
  · replace F := F.1 c9
    exact y_rv Wκ1 dX7_varItem_154 rfl F
  · replace F := F.2 c9
    refine y_aln dX7_varItem_112 rfl ?_
    refine gf_X7_19 Wκ1 dX7_varItem_113 rfl h4 ?_
    refine y_aln dX7_varItem_116 rfl ?_
    refine gf_X7_15 Wκ1 dX7_varItem_117 rfl h4 ?_
    refine gf_X7_130 dX7_varItem_120 rfl (Or.inl (ty_paCode Wκ1 h4)) ?_
    refine y_iln dX7_varItem_123 rfl ?_
    refine y_ast Wκ1 dX7_varItem_124 (ty_paVarNames Wκ1 h4) F.1 (fun κ5 eκ5 => ?_)
    replace F := F.2 κ5 eκ5
    have Wκ5 : zW C n0 κ5 := zW_ua Wκ1 eκ5 (fun h => absurd (h.symm.trans (ty_paVarNames Wκ1 h4)) (by decide)) (fun h => absurd (h.symm.trans (ty_paVarNames Wκ1 h4)) (by decide))
    have Mκ5 : zM (zn κ1) κ1 κ5 := by rw [eκ5]; exact zM.of rfl rfl rfl
    replace F := F Wκ5
    refine y_aln dX7_varItem_125 rfl ?_
    have h6 := (ztm Wκ1 Mκ5 h4)
    refine gf_X7_15 Wκ5 dX7_varItem_126 rfl h6 ?_
    refine gf_X7_163 Wκ5 dX7_varItem_129 rfl (ty_paCode Wκ5 h6) ?_
    refine y_aln dX7_varItem_132 rfl ?_
    refine gf_X7_15 Wκ5 dX7_varItem_133 rfl h6 ?_
    refine gf_X7_130 dX7_varItem_136 rfl (Or.inl (ty_paCode Wκ5 h6)) ?_
    refine y_iln dX7_varItem_139 rfl ?_
    refine y_ast Wκ5 dX7_varItem_140 (ty_coVarStarts Wκ5 (ty_paCode Wκ5 h6)) F.1 (fun κ7 eκ7 => ?_)
    replace F := F.2 κ7 eκ7
    have Wκ7 : zW C n0 κ7 := zW_ua Wκ5 eκ7 (fun h => absurd (h.symm.trans (ty_coVarStarts Wκ5 (ty_paCode Wκ5 h6))) (by decide)) (fun h => absurd (h.symm.trans (ty_coVarStarts Wκ5 (ty_paCode Wκ5 h6))) (by decide))
    have Mκ7 : zM (zn κ5) κ5 κ7 := by rw [eκ7]; exact zM.of rfl rfl rfl
    replace F := F Wκ7
    refine y_aln dX7_varItem_141 rfl ?_
    have h8 := (ztm Wκ5 Mκ7 h6)
    refine gf_X7_15 Wκ7 dX7_varItem_142 rfl h8 ?_
    refine y_dup dX7_varItem_145 rfl ?_
    refine gf_X7_130 dX7_varItem_146 rfl (Or.inl (ty_paCode Wκ7 h8)) ?_
    refine y_ic dX7_varItem_149 zi_1 ?_
    refine y_iadd dX7_varItem_150 ?_
    refine pf_X7_130 Wκ7 dX7_varItem_151 rfl (Or.inl (ty_paCode Wκ7 h8)) (fun κ9 eκ9 => ?_)
    replace F := F κ9 eκ9
    have Wκ9 : zW C n0 κ9 := zW_ui Wκ7 eκ9 (fun h => absurd h (by decide))
    have Mκ9 : zM (zn κ7) κ7 κ9 := by rw [eκ9]; exact zM.of rfl rfl rfl
    replace F := F Wκ9
    exact y_rv Wκ9 dX7_varItem_154 rfl F

def w_Pa_varItem_89 (C : zC) (n0 : Nat) (Q : zS → Prop) (X : zXp)  (a0 : Nat) (a1 : Int32) (s0 : Int32) (κ : zS) : Prop :=
  ∀ _ : zT κ a0 = 10,
  zRun C 0 mPa_take [.ref a0] κ (oV (fun κ1 =>
    ∀ _ : zW C n0 κ1,
    ∀ _ : zM (zn κ) κ κ1,
    w_Pa_varItem_94 C n0 Q X  a0 a1 s0 κ1) noX)
theorem t_Pa_varItem_89 {C : zC} {n0 : Nat} {Q : zS → Prop} {X : zXp}   {a0 : Nat} {a1 : Int32} {s0 : Int32} {κ : zS} (W : zW C n0 κ) (Ta0 : zT κ a0 = 10) (F : w_Pa_varItem_89 C n0 Q X  a0 a1 s0 κ) : zG C n0 11 mPa_varItem 89 [some (.ref a0), some (.int a1), none, none] [.int s0] κ (oV Q X) := by
  unfold w_Pa_varItem_89 at F
  refine y_isn dX7_varItem_89 (Nat.le_of_ble_eq_true rfl) rfl ?_
  show zG _ _ _ _ _ [some (.ref a0), some (.int a1), some (.int s0), none] _ _ _
  refine y_aln dX7_varItem_90 rfl ?_
  replace F := F Ta0
  refine k_X7_72 W dX7_varItem_91 rfl (Nat.le_of_ble_eq_true rfl) (Nat.le_of_ble_eq_true rfl) (Or.inl Ta0) F (fun  κ1 Wκ1 Mκ1 F => ?_) (fun _ _ h9 => False.elim h9)
  replace F := F Wκ1 Mκ1
  have h4 := (ztm W Mκ1 Ta0)
  exact y_k (t_Pa_varItem_94  Wκ1 h4 F) ⟨rfl, rfl, rfl, trivial⟩

def w_Pa_varItem_52 (C : zC) (n0 : Nat) (Q : zS → Prop) (X : zXp)  (a0 : Nat) (a1 : Int32) (a3 : Int32) (κ : zS) : Prop :=
  ∀ _ : zT κ a0 = 10,
  zRun C 9 mPa_expect [.ref a0, .int (141 : Int32)] κ (oV (fun κ1 =>
    ∀ _ : zW C n0 κ1,
    ∀ _ : zM (zn κ) κ κ1,
    (a3 = (0 : Int32) →
      ∀ _ : zT κ1 (zR κ1 paTape a0) = 13,
      zRun C 1 mTa_numberAt [.ref (zR κ1 paTape a0), .int (zI κ1 paAt a0)] κ1 (oI (fun r6 κ5 =>
        ∀ _ : zW C n0 κ5,
        ∀ _ : zM (zn κ1) κ1 κ5,
        w_Pa_varItem_89 C n0 Q X  a0 a1 r6 κ5) noX)) ∧
    (¬ a3 = (0 : Int32) →
      ∀ _ : zT κ1 (zR κ1 paTape a0) = 13,
      zRun C 1 mTa_numberAt [.ref (zR κ1 paTape a0), .int (zI κ1 paAt a0)] κ1 (oI (fun r11 κ10 =>
        ∀ _ : zW C n0 κ10,
        ∀ _ : zM (zn κ1) κ1 κ10,
        w_Pa_varItem_89 C n0 Q X  a0 a1 (-r11) κ10) noX))) X)
theorem t_Pa_varItem_52 {C : zC} {n0 : Nat} {Q : zS → Prop} {X : zXp}   {a0 : Nat} {a1 : Int32} {a3 : Int32} {κ : zS} (W : zW C n0 κ) (Ta0 : zT κ a0 = 10) (F : w_Pa_varItem_52 C n0 Q X  a0 a1 a3 κ) : zG C n0 11 mPa_varItem 52 [some (.ref a0), some (.int a1), none, some (.int a3)] [] κ (oV Q X) := by
  unfold w_Pa_varItem_52 at F
  refine y_aln dX7_varItem_52 rfl ?_
  refine y_si dX7_varItem_53 zs_141 ?_
  replace F := F Ta0
  refine k_X7_127 W dX7_varItem_56 rfl (Nat.le_of_ble_eq_true rfl) (Nat.le_of_ble_eq_true rfl) (Or.inl Ta0) F (fun  κ1 Wκ1 Mκ1 F => ?_) (fun cls9 κ9 h9 => Or.inr ⟨_, rfl, h9⟩)
  replace F := F Wκ1 Mκ1
  refine y_iln dX7_varItem_59 rfl ?_
  refine y_i (a3 = (0 : Int32)) dX7_varItem_60 (t := 78) rfl rfl (fun c9 => ?_) (fun c9 => ?_)
  · replace F := F.1 c9
    refine y_aln dX7_varItem_78 rfl ?_
    have h4 := (ztm W Mκ1 Ta0)
    refine gf_X7_9 Wκ1 dX7_varItem_79 rfl h4 ?_
    refine y_aln dX7_varItem_82 rfl ?_
    refine gf_X7_55 dX7_varItem_83 rfl (Or.inl h4) ?_
    replace F := F (ty_paTape Wκ1 h4)
    refine k_X7_156 Wκ1 dX7_varItem_86 rfl (Nat.le_of_ble_eq_true rfl) (Nat.le_of_ble_eq_true rfl) (Or.inl (ty_paTape Wκ1 h4)) F (fun r6 κ5 Wκ5 Mκ5 F => ?_) (fun _ _ h9 => False.elim h9)
    replace F := F Wκ5 Mκ5
    have h8 := (ztm Wκ1 Mκ5 h4)
    exact y_k (t_Pa_varItem_89  Wκ5 h8 F) ⟨rfl, rfl, trivial⟩
  · replace F := F.2 c9
    refine y_aln dX7_varItem_63 rfl ?_
    have h9 := (ztm W Mκ1 Ta0)
    refine gf_X7_9 Wκ1 dX7_varItem_64 rfl h9 ?_
    refine y_aln dX7_varItem_67 rfl ?_
    refine gf_X7_55 dX7_varItem_68 rfl (Or.inl h9) ?_
    replace F := F (ty_paTape Wκ1 h9)
    refine k_X7_156 Wκ1 dX7_varItem_71 rfl (Nat.le_of_ble_eq_true rfl) (Nat.le_of_ble_eq_true rfl) (Or.inl (ty_paTape Wκ1 h9)) F (fun r11 κ10 Wκ10 Mκ10 F => ?_) (fun _ _ h9 => False.elim h9)
    replace F := F Wκ10 Mκ10
    refine y_ineg dX7_varItem_74 ?_
    refine y_goto dX7_varItem_75 (t := 89) rfl ?_
    have h13 := (ztm Wκ1 Mκ10 h9)
    exact y_k (t_Pa_varItem_89  Wκ10 h13 F) ⟨rfl, rfl, trivial⟩

def w_Pa_varItem_43 (C : zC) (n0 : Nat) (Q : zS → Prop) (X : zXp)  (a0 : Nat) (a1 : Int32) (s0 : Int32) (κ : zS) : Prop :=
  (s0 = (0 : Int32) →
    w_Pa_varItem_52 C n0 Q X  a0 a1 s0 κ) ∧
  (¬ s0 = (0 : Int32) →
    ∀ _ : zT κ a0 = 10,
    zRun C 0 mPa_take [.ref a0] κ (oV (fun κ1 =>
      ∀ _ : zW C n0 κ1,
      ∀ _ : zM (zn κ) κ κ1,
      w_Pa_varItem_52 C n0 Q X  a0 a1 s0 κ1) noX))
theorem t_Pa_varItem_43 {C : zC} {n0 : Nat} {Q : zS → Prop} {X : zXp}   {a0 : Nat} {a1 : Int32} {s0 : Int32} {κ : zS} (W : zW C n0 κ) (Ta0 : zT κ a0 = 10) (F : w_Pa_varItem_43 C n0 Q X  a0 a1 s0 κ) : zG C n0 11 mPa_varItem 43 [some (.ref a0), some (.int a1), none, none] [.int s0] κ (oV Q X) := by
  unfold w_Pa_varItem_43 at F
  refine y_isn dX7_varItem_43 (Nat.le_of_ble_eq_true rfl) rfl ?_
  show zG _ _ _ _ _ [some (.ref a0), some (.int a1), none, some (.int s0)] _ _ _
  refine y_iln dX7_varItem_44 rfl ?_
  refine y_i (s0 = (0 : Int32)) dX7_varItem_45 (t := 52) rfl rfl (fun c9 => ?_) (fun c9 => ?_)
  · replace F := F.1 c9
    exact y_k (t_Pa_varItem_52  W Ta0 F) ⟨rfl, rfl, rfl, trivial⟩
  · replace F := F.2 c9
    refine y_aln dX7_varItem_48 rfl ?_
    replace F := F Ta0
    refine k_X7_72 W dX7_varItem_49 rfl (Nat.le_of_ble_eq_true rfl) (Nat.le_of_ble_eq_true rfl) (Or.inl Ta0) F (fun  κ1 Wκ1 Mκ1 F => ?_) (fun _ _ h9 => False.elim h9)
    replace F := F Wκ1 Mκ1
    have h4 := (ztm W Mκ1 Ta0)
    exact y_k (t_Pa_varItem_52  Wκ1 h4 F) ⟨rfl, rfl, rfl, trivial⟩

def w_Pa_varItem_0 (C : zC) (n0 : Nat) (Q : zS → Prop) (X : zXp)  (a0 : Nat) (κ : zS) : Prop :=
  ∀ _ : zT κ a0 = 10,
  zRun C 10 mPa_newName [.ref a0, .int (zI κ coVars (zR κ paCode a0)), .int (10 : Int32)] κ (oI (fun r2 κ1 =>
    ∀ _ : zW C n0 κ1,
    ∀ _ : zM (zn κ) κ κ1,
    (¬ (zI κ1 paKind a0) = (61 : Int32) →
      w_Pa_varItem_94 C n0 Q X  a0 r2 (0 : Int32) κ1) ∧
    ((zI κ1 paKind a0) = (61 : Int32) →
      ∀ _ : zT κ1 a0 = 10,
      zRun C 0 mPa_take [.ref a0] κ1 (oV (fun κ5 =>
        ∀ _ : zW C n0 κ5,
        ∀ _ : zM (zn κ1) κ1 κ5,
        (¬ (zI κ5 paKind a0) = (45 : Int32) →
          w_Pa_varItem_43 C n0 Q X  a0 r2 (0 : Int32) κ5) ∧
        ((zI κ5 paKind a0) = (45 : Int32) →
          w_Pa_varItem_43 C n0 Q X  a0 r2 (1 : Int32) κ5)) noX))) X)
theorem t_Pa_varItem_0 {C : zC} {n0 : Nat} {Q : zS → Prop} {X : zXp}   {a0 : Nat} {κ : zS} (W : zW C n0 κ) (Ta0 : zT κ a0 = 10) (F : w_Pa_varItem_0 C n0 Q X  a0 κ) : zG C n0 11 mPa_varItem 0 [some (.ref a0), none, none, none] [] κ (oV Q X) := by
  unfold w_Pa_varItem_0 at F
  refine y_aln dX7_varItem_0 rfl ?_
  refine y_aln dX7_varItem_1 rfl ?_
  refine gf_X7_15 W dX7_varItem_2 rfl Ta0 ?_
  refine gf_X7_130 dX7_varItem_5 rfl (Or.inl (ty_paCode W Ta0)) ?_
  refine y_bi1 dX7_varItem_8 zb_10 ?_
  replace F := F Ta0
  refine k_X7_152 W dX7_varItem_10 rfl (Nat.le_of_ble_eq_true rfl) (Nat.le_of_ble_eq_true rfl) (Or.inl Ta0) F (fun r2 κ1 Wκ1 Mκ1 F => ?_) (fun cls9 κ9 h9 => Or.inr ⟨_, rfl, h9⟩)
  replace F := F Wκ1 Mκ1
  refine y_isn dX7_varItem_13 (Nat.le_of_ble_eq_true rfl) rfl ?_
  show zG _ _ _ _ _ [some (.ref a0), some (.int r2), none, none] _ _ _
  refine y_ic dX7_varItem_14 zi_0 ?_
  refine y_isn dX7_varItem_15 (Nat.le_of_ble_eq_true rfl) rfl ?_
  show zG _ _ _ _ _ [some (.ref a0), some (.int r2), some (.int (0 : Int32)), none] _ _ _
  refine y_aln dX7_varItem_16 rfl ?_
  have h4 := (ztm W Mκ1 Ta0)
  refine gf_X7_78 dX7_varItem_17 rfl (Or.inl h4) ?_
  refine y_bi1 dX7_varItem_20 zb_61 ?_
  refine y_iin ((zI κ1 paKind a0) = (61 : Int32)) dX7_varItem_22 (t := 94) rfl rfl (fun c9 => ?_) (fun c9 => ?_)
  · replace F := F.1 c9
    exact y_k (t_Pa_varItem_94  Wκ1 h4 F) ⟨rfl, rfl, rfl, trivial⟩
  · replace F := F.2 c9
    refine y_aln dX7_varItem_25 rfl ?_
    replace F := F h4
    refine k_X7_72 Wκ1 dX7_varItem_26 rfl (Nat.le_of_ble_eq_true rfl) (Nat.le_of_ble_eq_true rfl) (Or.inl h4) F (fun  κ5 Wκ5 Mκ5 F => ?_) (fun _ _ h9 => False.elim h9)
    replace F := F Wκ5 Mκ5
    refine y_aln dX7_varItem_29 rfl ?_
    have h8 := (ztm Wκ1 Mκ5 h4)
    refine gf_X7_78 dX7_varItem_30 rfl (Or.inl h8) ?_
    refine y_bi1 dX7_varItem_33 zb_45 ?_
    refine y_iin ((zI κ5 paKind a0) = (45 : Int32)) dX7_varItem_35 (t := 42) rfl rfl (fun c9 => ?_) (fun c9 => ?_)
    · replace F := F.1 c9
      refine y_ic dX7_varItem_42 zi_0 ?_
      exact y_k (t_Pa_varItem_43  Wκ5 h8 F) ⟨rfl, rfl, trivial⟩
    · replace F := F.2 c9
      refine y_ic dX7_varItem_38 zi_1 ?_
      refine y_goto dX7_varItem_39 (t := 43) rfl ?_
      exact y_k (t_Pa_varItem_43  Wκ5 h8 F) ⟨rfl, rfl, trivial⟩

theorem Pa_varItem_run {C : zC} {n0 : Nat} {Q : zS → Prop} {X : zXp} {a0 : Nat} {κ : zS} (W : zW C n0 κ) (Ta0 : zT κ a0 = 10) (F : w_Pa_varItem_0 C (zn κ) Q X a0 κ) : zRun C 11 mPa_varItem [.ref a0] κ (oV Q X) := z_run (m_ent _ 3) (t_Pa_varItem_0 (W.lo (Nat.le_trans W.1.2.1 W.1.2.2) (Nat.le_refl _)) Ta0 F)

theorem dX7_openSign_0 : decode cX7_openSign 0 = .ok (.aload_n 0, 1) := by decide +kernel
theorem dX7_openSign_1 : decode cX7_openSign 1 = .ok (.getfield 78, 3) := by decide +kernel
theorem dX7_openSign_4 : decode cX7_openSign 4 = .ok (.iload_n 1, 1) := by decide +kernel
theorem dX7_openSign_5 : decode cX7_openSign 5 = .ok (.if_icmp .eq 12, 3) := by decide +kernel
theorem dX7_openSign_8 : decode cX7_openSign 8 = .ok (.aload_n 0, 1) := by decide +kernel
theorem dX7_openSign_9 : decode cX7_openSign 9 = .ok (.iconst 2, 1) := by decide +kernel
theorem dX7_openSign_10 : decode cX7_openSign 10 = .ok (.aload_n 0, 1) := by decide +kernel
theorem dX7_openSign_11 : decode cX7_openSign 11 = .ok (.getfield 55, 3) := by decide +kernel
theorem dX7_openSign_14 : decode cX7_openSign 14 = .ok (.invokevirtual 123, 3) := by decide +kernel
theorem dX7_openSign_17 : decode cX7_openSign 17 = .ok (.aload_n 0, 1) := by decide +kernel
theorem dX7_openSign_18 : decode cX7_openSign 18 = .ok (.getfield 59, 3) := by decide +kernel
theorem dX7_openSign_21 : decode cX7_openSign 21 = .ok (.bipush 40, 2) := by decide +kernel
theorem dX7_openSign_23 : decode cX7_openSign 23 = .ok (.if_icmp .lt 12, 3) := by decide +kernel
theorem dX7_openSign_26 : decode cX7_openSign 26 = .ok (.aload_n 0, 1) := by decide +kernel
theorem dX7_openSign_27 : decode cX7_openSign 27 = .ok (.iconst 3, 1) := by decide +kernel
theorem dX7_openSign_28 : decode cX7_openSign 28 = .ok (.aload_n 0, 1) := by decide +kernel
theorem dX7_openSign_29 : decode cX7_openSign 29 = .ok (.getfield 55, 3) := by decide +kernel
theorem dX7_openSign_32 : decode cX7_openSign 32 = .ok (.invokevirtual 123, 3) := by decide +kernel
theorem dX7_openSign_35 : decode cX7_openSign 35 = .ok (.aload_n 0, 1) := by decide +kernel
theorem dX7_openSign_36 : decode cX7_openSign 36 = .ok (.dup, 1) := by decide +kernel
theorem dX7_openSign_37 : decode cX7_openSign 37 = .ok (.getfield 59, 3) := by decide +kernel
theorem dX7_openSign_40 : decode cX7_openSign 40 = .ok (.iconst 1, 1) := by decide +kernel
theorem dX7_openSign_41 : decode cX7_openSign 41 = .ok (.iadd, 1) := by decide +kernel
theorem dX7_openSign_42 : decode cX7_openSign 42 = .ok (.putfield 59, 3) := by decide +kernel
theorem dX7_openSign_45 : decode cX7_openSign 45 = .ok (.aload_n 0, 1) := by decide +kernel
theorem dX7_openSign_46 : decode cX7_openSign 46 = .ok (.invokevirtual 72, 3) := by decide +kernel
theorem dX7_openSign_49 : decode cX7_openSign 49 = .ok (.return_, 1) := by decide +kernel
def w_Pa_openSign_35 (C : zC) (n0 : Nat) (Q : zS → Prop) (X : zXp)  (a0 : Nat) (κ : zS) : Prop :=
  ∀ κ1, κ1 = ui κ paOpen a0 ((zI κ paOpen a0) + (1 : Int32)) →
  ∀ _ : zW C n0 κ1,
  ∀ _ : zT κ1 a0 = 10,
  zRun C 0 mPa_take [.ref a0] κ1 (oV (fun κ2 =>
    ∀ _ : zW C n0 κ2,
    ∀ _ : zM (zn κ1) κ1 κ2,
    Q κ2) noX)
theorem t_Pa_openSign_35 {C : zC} {n0 : Nat} {Q : zS → Prop} {X : zXp}   {a0 : Nat} {κ : zS} (W : zW C n0 κ) (Ta0 : zT κ a0 = 10) (F : w_Pa_openSign_35 C n0 Q X  a0 κ) : zG C n0 9 mPa_openSign 35 [some (.ref a0), none] [] κ (oV Q X) := by
  unfold w_Pa_openSign_35 at F
  refine y_aln dX7_openSign_35 rfl ?_
  refine y_dup dX7_openSign_36 rfl ?_
  refine gf_X7_59 dX7_openSign_37 rfl (Or.inl Ta0) ?_
  refine y_ic dX7_openSign_40 zi_1 ?_
  refine y_iadd dX7_openSign_41 ?_
  refine pf_X7_59 W dX7_openSign_42 rfl (Or.inl Ta0) (fun κ1 eκ1 => ?_)
  replace F := F κ1 eκ1
  have Wκ1 : zW C n0 κ1 := zW_ui W eκ1 (fun h => absurd h (by decide))
  have Mκ1 : zM (zn κ) κ κ1 := by rw [eκ1]; exact zM.of rfl rfl rfl
  replace F := F Wκ1
  refine y_aln dX7_openSign_45 rfl ?_
  have h4 := (ztm W Mκ1 Ta0)
  replace F := F h4
  refine k_X7_72 Wκ1 dX7_openSign_46 rfl (Nat.le_of_ble_eq_true rfl) (Nat.le_of_ble_eq_true rfl) (Or.inl h4) F (fun  κ2 Wκ2 Mκ2 F => ?_) (fun _ _ h9 => False.elim h9)
  replace F := F Wκ2 Mκ2
  exact y_rv Wκ2 dX7_openSign_49 rfl F

def w_Pa_openSign_17 (C : zC) (n0 : Nat) (Q : zS → Prop) (X : zXp)  (a0 : Nat) (κ : zS) : Prop :=
  ((zI κ paOpen a0) < (40 : Int32) →
    w_Pa_openSign_35 C n0 Q X  a0 κ) ∧
  (¬ (zI κ paOpen a0) < (40 : Int32) →
    ∀ _ : zT κ a0 = 10,
    zRun C 8 mPa_refuse [.ref a0, .int (3 : Int32), .int (zI κ paAt a0)] κ (oV (fun κ1 =>
      ∀ _ : zW C n0 κ1,
      ∀ _ : zM (zn κ) κ κ1,
      w_Pa_openSign_35 C n0 Q X  a0 κ1) X))
theorem t_Pa_openSign_17 {C : zC} {n0 : Nat} {Q : zS → Prop} {X : zXp}   {a0 : Nat} {κ : zS} (W : zW C n0 κ) (Ta0 : zT κ a0 = 10) (F : w_Pa_openSign_17 C n0 Q X  a0 κ) : zG C n0 9 mPa_openSign 17 [some (.ref a0), none] [] κ (oV Q X) := by
  unfold w_Pa_openSign_17 at F
  refine y_aln dX7_openSign_17 rfl ?_
  refine gf_X7_59 dX7_openSign_18 rfl (Or.inl Ta0) ?_
  refine y_bi1 dX7_openSign_21 zb_40 ?_
  refine y_ii ((zI κ paOpen a0) < (40 : Int32)) dX7_openSign_23 (t := 35) rfl rfl (fun c9 => ?_) (fun c9 => ?_)
  · replace F := F.1 c9
    exact y_k (t_Pa_openSign_35  W Ta0 F) ⟨rfl, trivial⟩
  · replace F := F.2 c9
    refine y_aln dX7_openSign_26 rfl ?_
    refine y_ic dX7_openSign_27 zi_3 ?_
    refine y_aln dX7_openSign_28 rfl ?_
    refine gf_X7_55 dX7_openSign_29 rfl (Or.inl Ta0) ?_
    replace F := F Ta0
    refine k_X7_123 W dX7_openSign_32 rfl (Nat.le_of_ble_eq_true rfl) (Nat.le_of_ble_eq_true rfl) (Or.inl Ta0) F (fun  κ1 Wκ1 Mκ1 F => ?_) (fun cls9 κ9 h9 => Or.inr ⟨_, rfl, h9⟩)
    replace F := F Wκ1 Mκ1
    have h4 := (ztm W Mκ1 Ta0)
    exact y_k (t_Pa_openSign_35  Wκ1 h4 F) ⟨rfl, trivial⟩

def w_Pa_openSign_0 (C : zC) (n0 : Nat) (Q : zS → Prop) (X : zXp)  (a0 : Nat) (a1 : Int32) (κ : zS) : Prop :=
  ((zI κ paKind a0) = a1 →
    w_Pa_openSign_17 C n0 Q X  a0 κ) ∧
  (¬ (zI κ paKind a0) = a1 →
    ∀ _ : zT κ a0 = 10,
    zRun C 8 mPa_refuse [.ref a0, .int (2 : Int32), .int (zI κ paAt a0)] κ (oV (fun κ1 =>
      ∀ _ : zW C n0 κ1,
      ∀ _ : zM (zn κ) κ κ1,
      w_Pa_openSign_17 C n0 Q X  a0 κ1) X))
theorem t_Pa_openSign_0 {C : zC} {n0 : Nat} {Q : zS → Prop} {X : zXp}   {a0 : Nat} {a1 : Int32} {κ : zS} (W : zW C n0 κ) (Ta0 : zT κ a0 = 10) (F : w_Pa_openSign_0 C n0 Q X  a0 a1 κ) : zG C n0 9 mPa_openSign 0 [some (.ref a0), some (.int a1)] [] κ (oV Q X) := by
  unfold w_Pa_openSign_0 at F
  refine y_aln dX7_openSign_0 rfl ?_
  refine gf_X7_78 dX7_openSign_1 rfl (Or.inl Ta0) ?_
  refine y_iln dX7_openSign_4 rfl ?_
  refine y_ii ((zI κ paKind a0) = a1) dX7_openSign_5 (t := 17) rfl rfl (fun c9 => ?_) (fun c9 => ?_)
  · replace F := F.1 c9
    exact y_k (t_Pa_openSign_17  W Ta0 F) ⟨rfl, trivial⟩
  · replace F := F.2 c9
    refine y_aln dX7_openSign_8 rfl ?_
    refine y_ic dX7_openSign_9 zi_2 ?_
    refine y_aln dX7_openSign_10 rfl ?_
    refine gf_X7_55 dX7_openSign_11 rfl (Or.inl Ta0) ?_
    replace F := F Ta0
    refine k_X7_123 W dX7_openSign_14 rfl (Nat.le_of_ble_eq_true rfl) (Nat.le_of_ble_eq_true rfl) (Or.inl Ta0) F (fun  κ1 Wκ1 Mκ1 F => ?_) (fun cls9 κ9 h9 => Or.inr ⟨_, rfl, h9⟩)
    replace F := F Wκ1 Mκ1
    have h4 := (ztm W Mκ1 Ta0)
    exact y_k (t_Pa_openSign_17  Wκ1 h4 F) ⟨rfl, trivial⟩

theorem Pa_openSign_run {C : zC} {n0 : Nat} {Q : zS → Prop} {X : zXp} {a0 : Nat} {a1 : Int32} {κ : zS} (W : zW C n0 κ) (Ta0 : zT κ a0 = 10) (F : w_Pa_openSign_0 C (zn κ) Q X a0 a1 κ) : zRun C 9 mPa_openSign [.ref a0, .int a1] κ (oV Q X) := z_run (m_ent _ 0) (t_Pa_openSign_0 (W.lo (Nat.le_trans W.1.2.1 W.1.2.2) (Nat.le_refl _)) Ta0 F)

theorem dX7_closeSign_0 : decode cX7_closeSign 0 = .ok (.aload_n 0, 1) := by decide +kernel
theorem dX7_closeSign_1 : decode cX7_closeSign 1 = .ok (.getfield 78, 3) := by decide +kernel
theorem dX7_closeSign_4 : decode cX7_closeSign 4 = .ok (.iload_n 1, 1) := by decide +kernel
theorem dX7_closeSign_5 : decode cX7_closeSign 5 = .ok (.if_icmp .eq 12, 3) := by decide +kernel
theorem dX7_closeSign_8 : decode cX7_closeSign 8 = .ok (.aload_n 0, 1) := by decide +kernel
theorem dX7_closeSign_9 : decode cX7_closeSign 9 = .ok (.iconst 2, 1) := by decide +kernel
theorem dX7_closeSign_10 : decode cX7_closeSign 10 = .ok (.aload_n 0, 1) := by decide +kernel
theorem dX7_closeSign_11 : decode cX7_closeSign 11 = .ok (.getfield 55, 3) := by decide +kernel
theorem dX7_closeSign_14 : decode cX7_closeSign 14 = .ok (.invokevirtual 123, 3) := by decide +kernel
theorem dX7_closeSign_17 : decode cX7_closeSign 17 = .ok (.aload_n 0, 1) := by decide +kernel
theorem dX7_closeSign_18 : decode cX7_closeSign 18 = .ok (.dup, 1) := by decide +kernel
theorem dX7_closeSign_19 : decode cX7_closeSign 19 = .ok (.getfield 59, 3) := by decide +kernel
theorem dX7_closeSign_22 : decode cX7_closeSign 22 = .ok (.iconst 1, 1) := by decide +kernel
theorem dX7_closeSign_23 : decode cX7_closeSign 23 = .ok (.isub, 1) := by decide +kernel
theorem dX7_closeSign_24 : decode cX7_closeSign 24 = .ok (.putfield 59, 3) := by decide +kernel
theorem dX7_closeSign_27 : decode cX7_closeSign 27 = .ok (.aload_n 0, 1) := by decide +kernel
theorem dX7_closeSign_28 : decode cX7_closeSign 28 = .ok (.invokevirtual 72, 3) := by decide +kernel
theorem dX7_closeSign_31 : decode cX7_closeSign 31 = .ok (.return_, 1) := by decide +kernel
def w_Pa_closeSign_17 (C : zC) (n0 : Nat) (Q : zS → Prop) (X : zXp)  (a0 : Nat) (κ : zS) : Prop :=
  ∀ κ1, κ1 = ui κ paOpen a0 ((zI κ paOpen a0) - (1 : Int32)) →
  ∀ _ : zW C n0 κ1,
  ∀ _ : zT κ1 a0 = 10,
  zRun C 0 mPa_take [.ref a0] κ1 (oV (fun κ2 =>
    ∀ _ : zW C n0 κ2,
    ∀ _ : zM (zn κ1) κ1 κ2,
    Q κ2) noX)
theorem t_Pa_closeSign_17 {C : zC} {n0 : Nat} {Q : zS → Prop} {X : zXp}   {a0 : Nat} {κ : zS} (W : zW C n0 κ) (Ta0 : zT κ a0 = 10) (F : w_Pa_closeSign_17 C n0 Q X  a0 κ) : zG C n0 9 mPa_closeSign 17 [some (.ref a0), none] [] κ (oV Q X) := by
  unfold w_Pa_closeSign_17 at F
  refine y_aln dX7_closeSign_17 rfl ?_
  refine y_dup dX7_closeSign_18 rfl ?_
  refine gf_X7_59 dX7_closeSign_19 rfl (Or.inl Ta0) ?_
  refine y_ic dX7_closeSign_22 zi_1 ?_
  refine y_isub dX7_closeSign_23 ?_
  refine pf_X7_59 W dX7_closeSign_24 rfl (Or.inl Ta0) (fun κ1 eκ1 => ?_)
  replace F := F κ1 eκ1
  have Wκ1 : zW C n0 κ1 := zW_ui W eκ1 (fun h => absurd h (by decide))
  have Mκ1 : zM (zn κ) κ κ1 := by rw [eκ1]; exact zM.of rfl rfl rfl
  replace F := F Wκ1
  refine y_aln dX7_closeSign_27 rfl ?_
  have h4 := (ztm W Mκ1 Ta0)
  replace F := F h4
  refine k_X7_72 Wκ1 dX7_closeSign_28 rfl (Nat.le_of_ble_eq_true rfl) (Nat.le_of_ble_eq_true rfl) (Or.inl h4) F (fun  κ2 Wκ2 Mκ2 F => ?_) (fun _ _ h9 => False.elim h9)
  replace F := F Wκ2 Mκ2
  exact y_rv Wκ2 dX7_closeSign_31 rfl F

def w_Pa_closeSign_0 (C : zC) (n0 : Nat) (Q : zS → Prop) (X : zXp)  (a0 : Nat) (a1 : Int32) (κ : zS) : Prop :=
  ((zI κ paKind a0) = a1 →
    w_Pa_closeSign_17 C n0 Q X  a0 κ) ∧
  (¬ (zI κ paKind a0) = a1 →
    ∀ _ : zT κ a0 = 10,
    zRun C 8 mPa_refuse [.ref a0, .int (2 : Int32), .int (zI κ paAt a0)] κ (oV (fun κ1 =>
      ∀ _ : zW C n0 κ1,
      ∀ _ : zM (zn κ) κ κ1,
      w_Pa_closeSign_17 C n0 Q X  a0 κ1) X))
theorem t_Pa_closeSign_0 {C : zC} {n0 : Nat} {Q : zS → Prop} {X : zXp}   {a0 : Nat} {a1 : Int32} {κ : zS} (W : zW C n0 κ) (Ta0 : zT κ a0 = 10) (F : w_Pa_closeSign_0 C n0 Q X  a0 a1 κ) : zG C n0 9 mPa_closeSign 0 [some (.ref a0), some (.int a1)] [] κ (oV Q X) := by
  unfold w_Pa_closeSign_0 at F
  refine y_aln dX7_closeSign_0 rfl ?_
  refine gf_X7_78 dX7_closeSign_1 rfl (Or.inl Ta0) ?_
  refine y_iln dX7_closeSign_4 rfl ?_
  refine y_ii ((zI κ paKind a0) = a1) dX7_closeSign_5 (t := 17) rfl rfl (fun c9 => ?_) (fun c9 => ?_)
  · replace F := F.1 c9
    exact y_k (t_Pa_closeSign_17  W Ta0 F) ⟨rfl, trivial⟩
  · replace F := F.2 c9
    refine y_aln dX7_closeSign_8 rfl ?_
    refine y_ic dX7_closeSign_9 zi_2 ?_
    refine y_aln dX7_closeSign_10 rfl ?_
    refine gf_X7_55 dX7_closeSign_11 rfl (Or.inl Ta0) ?_
    replace F := F Ta0
    refine k_X7_123 W dX7_closeSign_14 rfl (Nat.le_of_ble_eq_true rfl) (Nat.le_of_ble_eq_true rfl) (Or.inl Ta0) F (fun  κ1 Wκ1 Mκ1 F => ?_) (fun cls9 κ9 h9 => Or.inr ⟨_, rfl, h9⟩)
    replace F := F Wκ1 Mκ1
    have h4 := (ztm W Mκ1 Ta0)
    exact y_k (t_Pa_closeSign_17  Wκ1 h4 F) ⟨rfl, trivial⟩

theorem Pa_closeSign_run {C : zC} {n0 : Nat} {Q : zS → Prop} {X : zXp} {a0 : Nat} {a1 : Int32} {κ : zS} (W : zW C n0 κ) (Ta0 : zT κ a0 = 10) (F : w_Pa_closeSign_0 C (zn κ) Q X a0 a1 κ) : zRun C 9 mPa_closeSign [.ref a0, .int a1] κ (oV Q X) := z_run (m_ent _ 0) (t_Pa_closeSign_0 (W.lo (Nat.le_trans W.1.2.1 W.1.2.2) (Nat.le_refl _)) Ta0 F)

theorem dX7_arrayItem_0 : decode cX7_arrayItem 0 = .ok (.aload_n 0, 1) := by decide +kernel
theorem dX7_arrayItem_1 : decode cX7_arrayItem 1 = .ok (.aload_n 0, 1) := by decide +kernel
theorem dX7_arrayItem_2 : decode cX7_arrayItem 2 = .ok (.getfield 15, 3) := by decide +kernel
theorem dX7_arrayItem_5 : decode cX7_arrayItem 5 = .ok (.getfield 137, 3) := by decide +kernel
theorem dX7_arrayItem_8 : decode cX7_arrayItem 8 = .ok (.iconst 3, 1) := by decide +kernel
theorem dX7_arrayItem_9 : decode cX7_arrayItem 9 = .ok (.invokevirtual 152, 3) := by decide +kernel
theorem dX7_arrayItem_12 : decode cX7_arrayItem 12 = .ok (.istore_n 1, 1) := by decide +kernel
theorem dX7_arrayItem_13 : decode cX7_arrayItem 13 = .ok (.aload_n 0, 1) := by decide +kernel
theorem dX7_arrayItem_14 : decode cX7_arrayItem 14 = .ok (.bipush 91, 2) := by decide +kernel
theorem dX7_arrayItem_16 : decode cX7_arrayItem 16 = .ok (.invokevirtual 166, 3) := by decide +kernel
theorem dX7_arrayItem_19 : decode cX7_arrayItem 19 = .ok (.aload_n 0, 1) := by decide +kernel
theorem dX7_arrayItem_20 : decode cX7_arrayItem 20 = .ok (.sipush 141, 3) := by decide +kernel
theorem dX7_arrayItem_23 : decode cX7_arrayItem 23 = .ok (.invokevirtual 127, 3) := by decide +kernel
theorem dX7_arrayItem_26 : decode cX7_arrayItem 26 = .ok (.aload_n 0, 1) := by decide +kernel
theorem dX7_arrayItem_27 : decode cX7_arrayItem 27 = .ok (.getfield 9, 3) := by decide +kernel
theorem dX7_arrayItem_30 : decode cX7_arrayItem 30 = .ok (.aload_n 0, 1) := by decide +kernel
theorem dX7_arrayItem_31 : decode cX7_arrayItem 31 = .ok (.getfield 55, 3) := by decide +kernel
theorem dX7_arrayItem_34 : decode cX7_arrayItem 34 = .ok (.invokevirtual 156, 3) := by decide +kernel
theorem dX7_arrayItem_37 : decode cX7_arrayItem 37 = .ok (.istore_n 2, 1) := by decide +kernel
theorem dX7_arrayItem_38 : decode cX7_arrayItem 38 = .ok (.iload_n 2, 1) := by decide +kernel
theorem dX7_arrayItem_39 : decode cX7_arrayItem 39 = .ok (.iconst 1, 1) := by decide +kernel
theorem dX7_arrayItem_40 : decode cX7_arrayItem 40 = .ok (.if_icmp .lt 9, 3) := by decide +kernel
theorem dX7_arrayItem_43 : decode cX7_arrayItem 43 = .ok (.iload_n 2, 1) := by decide +kernel
theorem dX7_arrayItem_44 : decode cX7_arrayItem 44 = .ok (.bipush 8, 2) := by decide +kernel
theorem dX7_arrayItem_46 : decode cX7_arrayItem 46 = .ok (.if_icmp .le 13, 3) := by decide +kernel
theorem dX7_arrayItem_49 : decode cX7_arrayItem 49 = .ok (.aload_n 0, 1) := by decide +kernel
theorem dX7_arrayItem_50 : decode cX7_arrayItem 50 = .ok (.bipush 12, 2) := by decide +kernel
theorem dX7_arrayItem_52 : decode cX7_arrayItem 52 = .ok (.aload_n 0, 1) := by decide +kernel
theorem dX7_arrayItem_53 : decode cX7_arrayItem 53 = .ok (.getfield 55, 3) := by decide +kernel
theorem dX7_arrayItem_56 : decode cX7_arrayItem 56 = .ok (.invokevirtual 123, 3) := by decide +kernel
theorem dX7_arrayItem_59 : decode cX7_arrayItem 59 = .ok (.aload_n 0, 1) := by decide +kernel
theorem dX7_arrayItem_60 : decode cX7_arrayItem 60 = .ok (.invokevirtual 72, 3) := by decide +kernel
theorem dX7_arrayItem_63 : decode cX7_arrayItem 63 = .ok (.aload_n 0, 1) := by decide +kernel
theorem dX7_arrayItem_64 : decode cX7_arrayItem 64 = .ok (.bipush 93, 2) := by decide +kernel
theorem dX7_arrayItem_66 : decode cX7_arrayItem 66 = .ok (.invokevirtual 169, 3) := by decide +kernel
theorem dX7_arrayItem_69 : decode cX7_arrayItem 69 = .ok (.aload_n 0, 1) := by decide +kernel
theorem dX7_arrayItem_70 : decode cX7_arrayItem 70 = .ok (.bipush 59, 2) := by decide +kernel
theorem dX7_arrayItem_72 : decode cX7_arrayItem 72 = .ok (.invokevirtual 160, 3) := by decide +kernel
theorem dX7_arrayItem_75 : decode cX7_arrayItem 75 = .ok (.aload_n 0, 1) := by decide +kernel
theorem dX7_arrayItem_76 : decode cX7_arrayItem 76 = .ok (.getfield 15, 3) := by decide +kernel
theorem dX7_arrayItem_79 : decode cX7_arrayItem 79 = .ok (.getfield 137, 3) := by decide +kernel
theorem dX7_arrayItem_82 : decode cX7_arrayItem 82 = .ok (.iconst 3, 1) := by decide +kernel
theorem dX7_arrayItem_83 : decode cX7_arrayItem 83 = .ok (.if_icmp .ge 80, 3) := by decide +kernel
theorem dX7_arrayItem_86 : decode cX7_arrayItem 86 = .ok (.aload_n 0, 1) := by decide +kernel
theorem dX7_arrayItem_87 : decode cX7_arrayItem 87 = .ok (.getfield 23, 3) := by decide +kernel
theorem dX7_arrayItem_90 : decode cX7_arrayItem 90 = .ok (.aload_n 0, 1) := by decide +kernel
theorem dX7_arrayItem_91 : decode cX7_arrayItem 91 = .ok (.getfield 15, 3) := by decide +kernel
theorem dX7_arrayItem_94 : decode cX7_arrayItem 94 = .ok (.getfield 137, 3) := by decide +kernel
theorem dX7_arrayItem_97 : decode cX7_arrayItem 97 = .ok (.iload_n 1, 1) := by decide +kernel
theorem dX7_arrayItem_98 : decode cX7_arrayItem 98 = .ok (.iastore, 1) := by decide +kernel
theorem dX7_arrayItem_99 : decode cX7_arrayItem 99 = .ok (.aload_n 0, 1) := by decide +kernel
theorem dX7_arrayItem_100 : decode cX7_arrayItem 100 = .ok (.getfield 15, 3) := by decide +kernel
theorem dX7_arrayItem_103 : decode cX7_arrayItem 103 = .ok (.getfield 172, 3) := by decide +kernel
theorem dX7_arrayItem_106 : decode cX7_arrayItem 106 = .ok (.aload_n 0, 1) := by decide +kernel
theorem dX7_arrayItem_107 : decode cX7_arrayItem 107 = .ok (.getfield 15, 3) := by decide +kernel
theorem dX7_arrayItem_110 : decode cX7_arrayItem 110 = .ok (.getfield 137, 3) := by decide +kernel
theorem dX7_arrayItem_113 : decode cX7_arrayItem 113 = .ok (.aload_n 0, 1) := by decide +kernel
theorem dX7_arrayItem_114 : decode cX7_arrayItem 114 = .ok (.getfield 15, 3) := by decide +kernel
theorem dX7_arrayItem_117 : decode cX7_arrayItem 117 = .ok (.getfield 175, 3) := by decide +kernel
theorem dX7_arrayItem_120 : decode cX7_arrayItem 120 = .ok (.iastore, 1) := by decide +kernel
theorem dX7_arrayItem_121 : decode cX7_arrayItem 121 = .ok (.aload_n 0, 1) := by decide +kernel
theorem dX7_arrayItem_122 : decode cX7_arrayItem 122 = .ok (.getfield 15, 3) := by decide +kernel
theorem dX7_arrayItem_125 : decode cX7_arrayItem 125 = .ok (.getfield 178, 3) := by decide +kernel
theorem dX7_arrayItem_128 : decode cX7_arrayItem 128 = .ok (.aload_n 0, 1) := by decide +kernel
theorem dX7_arrayItem_129 : decode cX7_arrayItem 129 = .ok (.getfield 15, 3) := by decide +kernel
theorem dX7_arrayItem_132 : decode cX7_arrayItem 132 = .ok (.getfield 137, 3) := by decide +kernel
theorem dX7_arrayItem_135 : decode cX7_arrayItem 135 = .ok (.iload_n 2, 1) := by decide +kernel
theorem dX7_arrayItem_136 : decode cX7_arrayItem 136 = .ok (.iastore, 1) := by decide +kernel
theorem dX7_arrayItem_137 : decode cX7_arrayItem 137 = .ok (.aload_n 0, 1) := by decide +kernel
theorem dX7_arrayItem_138 : decode cX7_arrayItem 138 = .ok (.getfield 15, 3) := by decide +kernel
theorem dX7_arrayItem_141 : decode cX7_arrayItem 141 = .ok (.dup, 1) := by decide +kernel
theorem dX7_arrayItem_142 : decode cX7_arrayItem 142 = .ok (.getfield 137, 3) := by decide +kernel
theorem dX7_arrayItem_145 : decode cX7_arrayItem 145 = .ok (.iconst 1, 1) := by decide +kernel
theorem dX7_arrayItem_146 : decode cX7_arrayItem 146 = .ok (.iadd, 1) := by decide +kernel
theorem dX7_arrayItem_147 : decode cX7_arrayItem 147 = .ok (.putfield 137, 3) := by decide +kernel
theorem dX7_arrayItem_150 : decode cX7_arrayItem 150 = .ok (.aload_n 0, 1) := by decide +kernel
theorem dX7_arrayItem_151 : decode cX7_arrayItem 151 = .ok (.getfield 15, 3) := by decide +kernel
theorem dX7_arrayItem_154 : decode cX7_arrayItem 154 = .ok (.dup, 1) := by decide +kernel
theorem dX7_arrayItem_155 : decode cX7_arrayItem 155 = .ok (.getfield 175, 3) := by decide +kernel
theorem dX7_arrayItem_158 : decode cX7_arrayItem 158 = .ok (.iload_n 2, 1) := by decide +kernel
theorem dX7_arrayItem_159 : decode cX7_arrayItem 159 = .ok (.iadd, 1) := by decide +kernel
theorem dX7_arrayItem_160 : decode cX7_arrayItem 160 = .ok (.putfield 175, 3) := by decide +kernel
theorem dX7_arrayItem_163 : decode cX7_arrayItem 163 = .ok (.return_, 1) := by decide +kernel
def w_Pa_arrayItem_59 (C : zC) (n0 : Nat) (Q : zS → Prop) (X : zXp)  (a0 : Nat) (a1 : Int32) (a2 : Int32) (κ : zS) : Prop :=
  ∀ _ : zT κ a0 = 10,
  zRun C 0 mPa_take [.ref a0] κ (oV (fun κ1 =>
    ∀ _ : zW C n0 κ1,
    ∀ _ : zM (zn κ) κ κ1,
    ∀ _ : zT κ1 a0 = 10,
    zRun C 9 mPa_closeSign [.ref a0, .int (93 : Int32)] κ1 (oV (fun κ4 =>
      ∀ _ : zW C n0 κ4,
      ∀ _ : zM (zn κ1) κ1 κ4,
      ∀ _ : zT κ4 a0 = 10,
      zRun C 9 mPa_pass [.ref a0, .int (59 : Int32)] κ4 (oV (fun κ8 =>
        ∀ _ : zW C n0 κ8,
        ∀ _ : zM (zn κ4) κ4 κ8,
        ((3 : Int32) ≤ (zI κ8 coArrays (zR κ8 paCode a0)) →
          Q κ8) ∧
        (¬ (3 : Int32) ≤ (zI κ8 coArrays (zR κ8 paCode a0)) →
          inb (zI κ8 coArrays (zR κ8 paCode a0)) (zN κ8 (zR κ8 paArrayNames a0)) ∧
          ∀ κ13, κ13 = ua κ8 (zR κ8 paArrayNames a0) ((zI κ8 coArrays (zR κ8 paCode a0))).toNatClampNeg a1 →
          ∀ _ : zW C n0 κ13,
          inb (zI κ13 coArrays (zR κ13 paCode a0)) (zN κ13 (zR κ13 coArrayBases (zR κ13 paCode a0))) ∧
          ∀ κ15, κ15 = ua κ13 (zR κ13 coArrayBases (zR κ13 paCode a0)) ((zI κ13 coArrays (zR κ13 paCode a0))).toNatClampNeg (zI κ13 coCells (zR κ13 paCode a0)) →
          ∀ _ : zW C n0 κ15,
          inb (zI κ15 coArrays (zR κ15 paCode a0)) (zN κ15 (zR κ15 coArraySizes (zR κ15 paCode a0))) ∧
          ∀ κ17, κ17 = ua κ15 (zR κ15 coArraySizes (zR κ15 paCode a0)) ((zI κ15 coArrays (zR κ15 paCode a0))).toNatClampNeg a2 →
          ∀ _ : zW C n0 κ17,
          ∀ κ19, κ19 = ui κ17 coArrays (zR κ17 paCode a0) ((zI κ17 coArrays (zR κ17 paCode a0)) + (1 : Int32)) →
          ∀ _ : zW C n0 κ19,
          ∀ κ21, κ21 = ui κ19 coCells (zR κ19 paCode a0) ((zI κ19 coCells (zR κ19 paCode a0)) + a2) →
          ∀ _ : zW C n0 κ21,
          Q κ21)) X)) X)) noX)
theorem t_Pa_arrayItem_59 {C : zC} {n0 : Nat} {Q : zS → Prop} {X : zXp}   {a0 : Nat} {a1 : Int32} {a2 : Int32} {κ : zS} (W : zW C n0 κ) (Ta0 : zT κ a0 = 10) (F : w_Pa_arrayItem_59 C n0 Q X  a0 a1 a2 κ) : zG C n0 11 mPa_arrayItem 59 [some (.ref a0), some (.int a1), some (.int a2)] [] κ (oV Q X) := by
  unfold w_Pa_arrayItem_59 at F
  refine y_aln dX7_arrayItem_59 rfl ?_
  replace F := F Ta0
  refine k_X7_72 W dX7_arrayItem_60 rfl (Nat.le_of_ble_eq_true rfl) (Nat.le_of_ble_eq_true rfl) (Or.inl Ta0) F (fun  κ1 Wκ1 Mκ1 F => ?_) (fun _ _ h9 => False.elim h9)
  replace F := F Wκ1 Mκ1
  refine y_aln dX7_arrayItem_63 rfl ?_
  refine y_bi1 dX7_arrayItem_64 zb_93 ?_
  have h6 := (ztm W Mκ1 Ta0)
  replace F := F h6
  refine k_X7_169 Wκ1 dX7_arrayItem_66 rfl (Nat.le_of_ble_eq_true rfl) (Nat.le_of_ble_eq_true rfl) (Or.inl h6) F (fun  κ4 Wκ4 Mκ4 F => ?_) (fun cls9 κ9 h9 => Or.inr ⟨_, rfl, h9⟩)
  replace F := F Wκ4 Mκ4
  refine y_aln dX7_arrayItem_69 rfl ?_
  refine y_bi1 dX7_arrayItem_70 zb_59 ?_
  have h10 := (ztm Wκ1 Mκ4 h6)
  replace F := F h10
  refine k_X7_160 Wκ4 dX7_arrayItem_72 rfl (Nat.le_of_ble_eq_true rfl) (Nat.le_of_ble_eq_true rfl) (Or.inl h10) F (fun  κ8 Wκ8 Mκ8 F => ?_) (fun cls9 κ9 h9 => Or.inr ⟨_, rfl, h9⟩)
  replace F := F Wκ8 Mκ8
  refine y_aln dX7_arrayItem_75 rfl ?_
  have h12 := (ztm Wκ4 Mκ8 h10)
  refine gf_X7_15 Wκ8 dX7_arrayItem_76 rfl h12 ?_
  refine gf_X7_137 dX7_arrayItem_79 rfl (Or.inl (ty_paCode Wκ8 h12)) ?_
  refine y_ic dX7_arrayItem_82 zi_3 ?_
  refine y_ii ((3 : Int32) ≤ (zI κ8 coArrays (zR κ8 paCode a0))) dX7_arrayItem_83 (t := 163) rfl rfl (fun c9 => ?_) (fun c9 => ?_)
  · replace F := F.1 c9
    exact y_rv Wκ8 dX7_arrayItem_163 rfl F
  · replace F := F.2 c9
    refine y_aln dX7_arrayItem_86 rfl ?_
    refine gf_X7_23 Wκ8 dX7_arrayItem_87 rfl h12 ?_
    refine y_aln dX7_arrayItem_90 rfl ?_
    refine gf_X7_15 Wκ8 dX7_arrayItem_91 rfl h12 ?_
    refine gf_X7_137 dX7_arrayItem_94 rfl (Or.inl (ty_paCode Wκ8 h12)) ?_
    refine y_iln dX7_arrayItem_97 rfl ?_
    refine y_ast Wκ8 dX7_arrayItem_98 (ty_paArrayNames Wκ8 h12) F.1 (fun κ13 eκ13 => ?_)
    replace F := F.2 κ13 eκ13
    have Wκ13 : zW C n0 κ13 := zW_ua Wκ8 eκ13 (fun h => absurd (h.symm.trans (ty_paArrayNames Wκ8 h12)) (by decide)) (fun h => absurd (h.symm.trans (ty_paArrayNames Wκ8 h12)) (by decide))
    have Mκ13 : zM (zn κ8) κ8 κ13 := by rw [eκ13]; exact zM.of rfl rfl rfl
    replace F := F Wκ13
    refine y_aln dX7_arrayItem_99 rfl ?_
    have h14 := (ztm Wκ8 Mκ13 h12)
    refine gf_X7_15 Wκ13 dX7_arrayItem_100 rfl h14 ?_
    refine gf_X7_172 Wκ13 dX7_arrayItem_103 rfl (ty_paCode Wκ13 h14) ?_
    refine y_aln dX7_arrayItem_106 rfl ?_
    refine gf_X7_15 Wκ13 dX7_arrayItem_107 rfl h14 ?_
    refine gf_X7_137 dX7_arrayItem_110 rfl (Or.inl (ty_paCode Wκ13 h14)) ?_
    refine y_aln dX7_arrayItem_113 rfl ?_
    refine gf_X7_15 Wκ13 dX7_arrayItem_114 rfl h14 ?_
    refine gf_X7_175 dX7_arrayItem_117 rfl (Or.inl (ty_paCode Wκ13 h14)) ?_
    refine y_ast Wκ13 dX7_arrayItem_120 (ty_coArrayBases Wκ13 (ty_paCode Wκ13 h14)) F.1 (fun κ15 eκ15 => ?_)
    replace F := F.2 κ15 eκ15
    have Wκ15 : zW C n0 κ15 := zW_ua Wκ13 eκ15 (fun h => absurd (h.symm.trans (ty_coArrayBases Wκ13 (ty_paCode Wκ13 h14))) (by decide)) (fun h => absurd (h.symm.trans (ty_coArrayBases Wκ13 (ty_paCode Wκ13 h14))) (by decide))
    have Mκ15 : zM (zn κ13) κ13 κ15 := by rw [eκ15]; exact zM.of rfl rfl rfl
    replace F := F Wκ15
    refine y_aln dX7_arrayItem_121 rfl ?_
    have h16 := (ztm Wκ13 Mκ15 h14)
    refine gf_X7_15 Wκ15 dX7_arrayItem_122 rfl h16 ?_
    refine gf_X7_178 Wκ15 dX7_arrayItem_125 rfl (ty_paCode Wκ15 h16) ?_
    refine y_aln dX7_arrayItem_128 rfl ?_
    refine gf_X7_15 Wκ15 dX7_arrayItem_129 rfl h16 ?_
    refine gf_X7_137 dX7_arrayItem_132 rfl (Or.inl (ty_paCode Wκ15 h16)) ?_
    refine y_iln dX7_arrayItem_135 rfl ?_
    refine y_ast Wκ15 dX7_arrayItem_136 (ty_coArraySizes Wκ15 (ty_paCode Wκ15 h16)) F.1 (fun κ17 eκ17 => ?_)
    replace F := F.2 κ17 eκ17
    have Wκ17 : zW C n0 κ17 := zW_ua Wκ15 eκ17 (fun h => absurd (h.symm.trans (ty_coArraySizes Wκ15 (ty_paCode Wκ15 h16))) (by decide)) (fun h => absurd (h.symm.trans (ty_coArraySizes Wκ15 (ty_paCode Wκ15 h16))) (by decide))
    have Mκ17 : zM (zn κ15) κ15 κ17 := by rw [eκ17]; exact zM.of rfl rfl rfl
    replace F := F Wκ17
    refine y_aln dX7_arrayItem_137 rfl ?_
    have h18 := (ztm Wκ15 Mκ17 h16)
    refine gf_X7_15 Wκ17 dX7_arrayItem_138 rfl h18 ?_
    refine y_dup dX7_arrayItem_141 rfl ?_
    refine gf_X7_137 dX7_arrayItem_142 rfl (Or.inl (ty_paCode Wκ17 h18)) ?_
    refine y_ic dX7_arrayItem_145 zi_1 ?_
    refine y_iadd dX7_arrayItem_146 ?_
    refine pf_X7_137 Wκ17 dX7_arrayItem_147 rfl (Or.inl (ty_paCode Wκ17 h18)) (fun κ19 eκ19 => ?_)
    replace F := F κ19 eκ19
    have Wκ19 : zW C n0 κ19 := zW_ui Wκ17 eκ19 (fun h => absurd h (by decide))
    have Mκ19 : zM (zn κ17) κ17 κ19 := by rw [eκ19]; exact zM.of rfl rfl rfl
    replace F := F Wκ19
    refine y_aln dX7_arrayItem_150 rfl ?_
    have h20 := (ztm Wκ17 Mκ19 h18)
    refine gf_X7_15 Wκ19 dX7_arrayItem_151 rfl h20 ?_
    refine y_dup dX7_arrayItem_154 rfl ?_
    refine gf_X7_175 dX7_arrayItem_155 rfl (Or.inl (ty_paCode Wκ19 h20)) ?_
    refine y_iln dX7_arrayItem_158 rfl ?_
    refine y_iadd dX7_arrayItem_159 ?_
    refine pf_X7_175 Wκ19 dX7_arrayItem_160 rfl (Or.inl (ty_paCode Wκ19 h20)) (fun κ21 eκ21 => ?_)
    replace F := F κ21 eκ21
    have Wκ21 : zW C n0 κ21 := zW_ui Wκ19 eκ21 (fun h => absurd h (by decide))
    have Mκ21 : zM (zn κ19) κ19 κ21 := by rw [eκ21]; exact zM.of rfl rfl rfl
    replace F := F Wκ21
    exact y_rv Wκ21 dX7_arrayItem_163 rfl F

def w_Pa_arrayItem_49 (C : zC) (n0 : Nat) (Q : zS → Prop) (X : zXp)  (a0 : Nat) (a1 : Int32) (a2 : Int32) (κ : zS) : Prop :=
  ∀ _ : zT κ a0 = 10,
  zRun C 8 mPa_refuse [.ref a0, .int (12 : Int32), .int (zI κ paAt a0)] κ (oV (fun κ1 =>
    ∀ _ : zW C n0 κ1,
    ∀ _ : zM (zn κ) κ κ1,
    w_Pa_arrayItem_59 C n0 Q X  a0 a1 a2 κ1) X)
theorem t_Pa_arrayItem_49 {C : zC} {n0 : Nat} {Q : zS → Prop} {X : zXp}   {a0 : Nat} {a1 : Int32} {a2 : Int32} {κ : zS} (W : zW C n0 κ) (Ta0 : zT κ a0 = 10) (F : w_Pa_arrayItem_49 C n0 Q X  a0 a1 a2 κ) : zG C n0 11 mPa_arrayItem 49 [some (.ref a0), some (.int a1), some (.int a2)] [] κ (oV Q X) := by
  unfold w_Pa_arrayItem_49 at F
  refine y_aln dX7_arrayItem_49 rfl ?_
  refine y_bi1 dX7_arrayItem_50 zb_12 ?_
  refine y_aln dX7_arrayItem_52 rfl ?_
  refine gf_X7_55 dX7_arrayItem_53 rfl (Or.inl Ta0) ?_
  replace F := F Ta0
  refine k_X7_123 W dX7_arrayItem_56 rfl (Nat.le_of_ble_eq_true rfl) (Nat.le_of_ble_eq_true rfl) (Or.inl Ta0) F (fun  κ1 Wκ1 Mκ1 F => ?_) (fun cls9 κ9 h9 => Or.inr ⟨_, rfl, h9⟩)
  replace F := F Wκ1 Mκ1
  have h4 := (ztm W Mκ1 Ta0)
  exact y_k (t_Pa_arrayItem_59  Wκ1 h4 F) ⟨rfl, rfl, rfl, trivial⟩

def w_Pa_arrayItem_0 (C : zC) (n0 : Nat) (Q : zS → Prop) (X : zXp)  (a0 : Nat) (κ : zS) : Prop :=
  ∀ _ : zT κ a0 = 10,
  zRun C 10 mPa_newName [.ref a0, .int (zI κ coArrays (zR κ paCode a0)), .int (3 : Int32)] κ (oI (fun r2 κ1 =>
    ∀ _ : zW C n0 κ1,
    ∀ _ : zM (zn κ) κ κ1,
    ∀ _ : zT κ1 a0 = 10,
    zRun C 9 mPa_openSign [.ref a0, .int (91 : Int32)] κ1 (oV (fun κ4 =>
      ∀ _ : zW C n0 κ4,
      ∀ _ : zM (zn κ1) κ1 κ4,
      ∀ _ : zT κ4 a0 = 10,
      zRun C 9 mPa_expect [.ref a0, .int (141 : Int32)] κ4 (oV (fun κ8 =>
        ∀ _ : zW C n0 κ8,
        ∀ _ : zM (zn κ4) κ4 κ8,
        ∀ _ : zT κ8 (zR κ8 paTape a0) = 13,
        zRun C 1 mTa_numberAt [.ref (zR κ8 paTape a0), .int (zI κ8 paAt a0)] κ8 (oI (fun r14 κ13 =>
          ∀ _ : zW C n0 κ13,
          ∀ _ : zM (zn κ8) κ8 κ13,
          (r14 < (1 : Int32) →
            w_Pa_arrayItem_49 C n0 Q X  a0 r2 r14 κ13) ∧
          (¬ r14 < (1 : Int32) →
            (r14 ≤ (8 : Int32) →
              w_Pa_arrayItem_59 C n0 Q X  a0 r2 r14 κ13) ∧
            (¬ r14 ≤ (8 : Int32) →
              w_Pa_arrayItem_49 C n0 Q X  a0 r2 r14 κ13))) noX)) X)) X)) X)
theorem t_Pa_arrayItem_0 {C : zC} {n0 : Nat} {Q : zS → Prop} {X : zXp}   {a0 : Nat} {κ : zS} (W : zW C n0 κ) (Ta0 : zT κ a0 = 10) (F : w_Pa_arrayItem_0 C n0 Q X  a0 κ) : zG C n0 11 mPa_arrayItem 0 [some (.ref a0), none, none] [] κ (oV Q X) := by
  unfold w_Pa_arrayItem_0 at F
  refine y_aln dX7_arrayItem_0 rfl ?_
  refine y_aln dX7_arrayItem_1 rfl ?_
  refine gf_X7_15 W dX7_arrayItem_2 rfl Ta0 ?_
  refine gf_X7_137 dX7_arrayItem_5 rfl (Or.inl (ty_paCode W Ta0)) ?_
  refine y_ic dX7_arrayItem_8 zi_3 ?_
  replace F := F Ta0
  refine k_X7_152 W dX7_arrayItem_9 rfl (Nat.le_of_ble_eq_true rfl) (Nat.le_of_ble_eq_true rfl) (Or.inl Ta0) F (fun r2 κ1 Wκ1 Mκ1 F => ?_) (fun cls9 κ9 h9 => Or.inr ⟨_, rfl, h9⟩)
  replace F := F Wκ1 Mκ1
  refine y_isn dX7_arrayItem_12 (Nat.le_of_ble_eq_true rfl) rfl ?_
  show zG _ _ _ _ _ [some (.ref a0), some (.int r2), none] _ _ _
  refine y_aln dX7_arrayItem_13 rfl ?_
  refine y_bi1 dX7_arrayItem_14 zb_91 ?_
  have h6 := (ztm W Mκ1 Ta0)
  replace F := F h6
  refine k_X7_166 Wκ1 dX7_arrayItem_16 rfl (Nat.le_of_ble_eq_true rfl) (Nat.le_of_ble_eq_true rfl) (Or.inl h6) F (fun  κ4 Wκ4 Mκ4 F => ?_) (fun cls9 κ9 h9 => Or.inr ⟨_, rfl, h9⟩)
  replace F := F Wκ4 Mκ4
  refine y_aln dX7_arrayItem_19 rfl ?_
  refine y_si dX7_arrayItem_20 zs_141 ?_
  have h10 := (ztm Wκ1 Mκ4 h6)
  replace F := F h10
  refine k_X7_127 Wκ4 dX7_arrayItem_23 rfl (Nat.le_of_ble_eq_true rfl) (Nat.le_of_ble_eq_true rfl) (Or.inl h10) F (fun  κ8 Wκ8 Mκ8 F => ?_) (fun cls9 κ9 h9 => Or.inr ⟨_, rfl, h9⟩)
  replace F := F Wκ8 Mκ8
  refine y_aln dX7_arrayItem_26 rfl ?_
  have h12 := (ztm Wκ4 Mκ8 h10)
  refine gf_X7_9 Wκ8 dX7_arrayItem_27 rfl h12 ?_
  refine y_aln dX7_arrayItem_30 rfl ?_
  refine gf_X7_55 dX7_arrayItem_31 rfl (Or.inl h12) ?_
  replace F := F (ty_paTape Wκ8 h12)
  refine k_X7_156 Wκ8 dX7_arrayItem_34 rfl (Nat.le_of_ble_eq_true rfl) (Nat.le_of_ble_eq_true rfl) (Or.inl (ty_paTape Wκ8 h12)) F (fun r14 κ13 Wκ13 Mκ13 F => ?_) (fun _ _ h9 => False.elim h9)
  replace F := F Wκ13 Mκ13
  refine y_isn dX7_arrayItem_37 (Nat.le_of_ble_eq_true rfl) rfl ?_
  show zG _ _ _ _ _ [some (.ref a0), some (.int r2), some (.int r14)] _ _ _
  refine y_iln dX7_arrayItem_38 rfl ?_
  refine y_ic dX7_arrayItem_39 zi_1 ?_
  refine y_ii (r14 < (1 : Int32)) dX7_arrayItem_40 (t := 49) rfl rfl (fun c9 => ?_) (fun c9 => ?_)
  · replace F := F.1 c9
    have h16 := (ztm Wκ8 Mκ13 h12)
    exact y_k (t_Pa_arrayItem_49  Wκ13 h16 F) ⟨rfl, rfl, rfl, trivial⟩
  · replace F := F.2 c9
    refine y_iln dX7_arrayItem_43 rfl ?_
    refine y_bi1 dX7_arrayItem_44 zb_8 ?_
    refine y_ii (r14 ≤ (8 : Int32)) dX7_arrayItem_46 (t := 59) rfl rfl (fun c9 => ?_) (fun c9 => ?_)
    · replace F := F.1 c9
      have h17 := (ztm Wκ8 Mκ13 h12)
      exact y_k (t_Pa_arrayItem_59  Wκ13 h17 F) ⟨rfl, rfl, rfl, trivial⟩
    · replace F := F.2 c9
      have h18 := (ztm Wκ8 Mκ13 h12)
      exact y_k (t_Pa_arrayItem_49  Wκ13 h18 F) ⟨rfl, rfl, rfl, trivial⟩

theorem Pa_arrayItem_run {C : zC} {n0 : Nat} {Q : zS → Prop} {X : zXp} {a0 : Nat} {κ : zS} (W : zW C n0 κ) (Ta0 : zT κ a0 = 10) (F : w_Pa_arrayItem_0 C (zn κ) Q X a0 κ) : zRun C 11 mPa_arrayItem [.ref a0] κ (oV Q X) := z_run (m_ent _ 2) (t_Pa_arrayItem_0 (W.lo (Nat.le_trans W.1.2.1 W.1.2.2) (Nat.le_refl _)) Ta0 F)

theorem dX7_addOwn_0 : decode cX7_addOwn 0 = .ok (.aload_n 0, 1) := by decide +kernel
theorem dX7_addOwn_1 : decode cX7_addOwn 1 = .ok (.getfield 66, 3) := by decide +kernel
theorem dX7_addOwn_4 : decode cX7_addOwn 4 = .ok (.bipush 8, 2) := by decide +kernel
theorem dX7_addOwn_6 : decode cX7_addOwn 6 = .ok (.if_icmp .ge 23, 3) := by decide +kernel
theorem dX7_addOwn_9 : decode cX7_addOwn 9 = .ok (.aload_n 0, 1) := by decide +kernel
theorem dX7_addOwn_10 : decode cX7_addOwn 10 = .ok (.getfield 29, 3) := by decide +kernel
theorem dX7_addOwn_13 : decode cX7_addOwn 13 = .ok (.aload_n 0, 1) := by decide +kernel
theorem dX7_addOwn_14 : decode cX7_addOwn 14 = .ok (.getfield 66, 3) := by decide +kernel
theorem dX7_addOwn_17 : decode cX7_addOwn 17 = .ok (.iload_n 1, 1) := by decide +kernel
theorem dX7_addOwn_18 : decode cX7_addOwn 18 = .ok (.iastore, 1) := by decide +kernel
theorem dX7_addOwn_19 : decode cX7_addOwn 19 = .ok (.aload_n 0, 1) := by decide +kernel
theorem dX7_addOwn_20 : decode cX7_addOwn 20 = .ok (.dup, 1) := by decide +kernel
theorem dX7_addOwn_21 : decode cX7_addOwn 21 = .ok (.getfield 66, 3) := by decide +kernel
theorem dX7_addOwn_24 : decode cX7_addOwn 24 = .ok (.iconst 1, 1) := by decide +kernel
theorem dX7_addOwn_25 : decode cX7_addOwn 25 = .ok (.iadd, 1) := by decide +kernel
theorem dX7_addOwn_26 : decode cX7_addOwn 26 = .ok (.putfield 66, 3) := by decide +kernel
theorem dX7_addOwn_29 : decode cX7_addOwn 29 = .ok (.return_, 1) := by decide +kernel
def w_Pa_addOwn_0 (C : zC) (n0 : Nat) (Q : zS → Prop)  (a0 : Nat) (a1 : Int32) (κ : zS) : Prop :=
  ((8 : Int32) ≤ (zI κ paOwns a0) →
    Q κ) ∧
  (¬ (8 : Int32) ≤ (zI κ paOwns a0) →
    inb (zI κ paOwns a0) (zN κ (zR κ paOwnNames a0)) ∧
    ∀ κ1, κ1 = ua κ (zR κ paOwnNames a0) ((zI κ paOwns a0)).toNatClampNeg a1 →
    ∀ _ : zW C n0 κ1,
    ∀ κ3, κ3 = ui κ1 paOwns a0 ((zI κ1 paOwns a0) + (1 : Int32)) →
    ∀ _ : zW C n0 κ3,
    Q κ3)
theorem t_Pa_addOwn_0 {C : zC} {n0 : Nat} {Q : zS → Prop}   {a0 : Nat} {a1 : Int32} {κ : zS} (W : zW C n0 κ) (Ta0 : zT κ a0 = 10) (F : w_Pa_addOwn_0 C n0 Q  a0 a1 κ) : zG C n0 0 mPa_addOwn 0 [some (.ref a0), some (.int a1)] [] κ (oV Q noX) := by
  unfold w_Pa_addOwn_0 at F
  refine y_aln dX7_addOwn_0 rfl ?_
  refine gf_X7_66 dX7_addOwn_1 rfl (Or.inl Ta0) ?_
  refine y_bi1 dX7_addOwn_4 zb_8 ?_
  refine y_ii ((8 : Int32) ≤ (zI κ paOwns a0)) dX7_addOwn_6 (t := 29) rfl rfl (fun c9 => ?_) (fun c9 => ?_)
  · replace F := F.1 c9
    exact y_rv W dX7_addOwn_29 rfl F
  · replace F := F.2 c9
    refine y_aln dX7_addOwn_9 rfl ?_
    refine gf_X7_29 W dX7_addOwn_10 rfl Ta0 ?_
    refine y_aln dX7_addOwn_13 rfl ?_
    refine gf_X7_66 dX7_addOwn_14 rfl (Or.inl Ta0) ?_
    refine y_iln dX7_addOwn_17 rfl ?_
    refine y_ast W dX7_addOwn_18 (ty_paOwnNames W Ta0) F.1 (fun κ1 eκ1 => ?_)
    replace F := F.2 κ1 eκ1
    have Wκ1 : zW C n0 κ1 := zW_ua W eκ1 (fun h => absurd (h.symm.trans (ty_paOwnNames W Ta0)) (by decide)) (fun h => absurd (h.symm.trans (ty_paOwnNames W Ta0)) (by decide))
    have Mκ1 : zM (zn κ) κ κ1 := by rw [eκ1]; exact zM.of rfl rfl rfl
    replace F := F Wκ1
    refine y_aln dX7_addOwn_19 rfl ?_
    refine y_dup dX7_addOwn_20 rfl ?_
    have h2 := (ztm W Mκ1 Ta0)
    refine gf_X7_66 dX7_addOwn_21 rfl (Or.inl h2) ?_
    refine y_ic dX7_addOwn_24 zi_1 ?_
    refine y_iadd dX7_addOwn_25 ?_
    refine pf_X7_66 Wκ1 dX7_addOwn_26 rfl (Or.inl h2) (fun κ3 eκ3 => ?_)
    replace F := F κ3 eκ3
    have Wκ3 : zW C n0 κ3 := zW_ui Wκ1 eκ3 (fun h => absurd h (by decide))
    have Mκ3 : zM (zn κ1) κ1 κ3 := by rw [eκ3]; exact zM.of rfl rfl rfl
    replace F := F Wκ3
    exact y_rv Wκ3 dX7_addOwn_29 rfl F

theorem Pa_addOwn_run {C : zC} {n0 : Nat} {Q : zS → Prop} {a0 : Nat} {a1 : Int32} {κ : zS} (W : zW C n0 κ) (Ta0 : zT κ a0 = 10) (F : w_Pa_addOwn_0 C (zn κ) Q a0 a1 κ) : zRun C 0 mPa_addOwn [.ref a0, .int a1] κ (oV Q noX) := z_run (m_ent _ 0) (t_Pa_addOwn_0 (W.lo (Nat.le_trans W.1.2.1 W.1.2.2) (Nat.le_refl _)) Ta0 F)

theorem dX7_pushBlock_0 : decode cX7_pushBlock 0 = .ok (.aload_n 0, 1) := by decide +kernel
theorem dX7_pushBlock_1 : decode cX7_pushBlock 1 = .ok (.getfield 69, 3) := by decide +kernel
theorem dX7_pushBlock_4 : decode cX7_pushBlock 4 = .ok (.aload_n 0, 1) := by decide +kernel
theorem dX7_pushBlock_5 : decode cX7_pushBlock 5 = .ok (.getfield 32, 3) := by decide +kernel
theorem dX7_pushBlock_8 : decode cX7_pushBlock 8 = .ok (.arraylength, 1) := by decide +kernel
theorem dX7_pushBlock_9 : decode cX7_pushBlock 9 = .ok (.if_icmp .ge 43, 3) := by decide +kernel
theorem dX7_pushBlock_12 : decode cX7_pushBlock 12 = .ok (.aload_n 0, 1) := by decide +kernel
theorem dX7_pushBlock_13 : decode cX7_pushBlock 13 = .ok (.getfield 32, 3) := by decide +kernel
theorem dX7_pushBlock_16 : decode cX7_pushBlock 16 = .ok (.aload_n 0, 1) := by decide +kernel
theorem dX7_pushBlock_17 : decode cX7_pushBlock 17 = .ok (.getfield 69, 3) := by decide +kernel
theorem dX7_pushBlock_20 : decode cX7_pushBlock 20 = .ok (.iload_n 1, 1) := by decide +kernel
theorem dX7_pushBlock_21 : decode cX7_pushBlock 21 = .ok (.iastore, 1) := by decide +kernel
theorem dX7_pushBlock_22 : decode cX7_pushBlock 22 = .ok (.aload_n 0, 1) := by decide +kernel
theorem dX7_pushBlock_23 : decode cX7_pushBlock 23 = .ok (.getfield 35, 3) := by decide +kernel
theorem dX7_pushBlock_26 : decode cX7_pushBlock 26 = .ok (.aload_n 0, 1) := by decide +kernel
theorem dX7_pushBlock_27 : decode cX7_pushBlock 27 = .ok (.getfield 69, 3) := by decide +kernel
theorem dX7_pushBlock_30 : decode cX7_pushBlock 30 = .ok (.iconst (-1), 1) := by decide +kernel
theorem dX7_pushBlock_31 : decode cX7_pushBlock 31 = .ok (.iastore, 1) := by decide +kernel
theorem dX7_pushBlock_32 : decode cX7_pushBlock 32 = .ok (.aload_n 0, 1) := by decide +kernel
theorem dX7_pushBlock_33 : decode cX7_pushBlock 33 = .ok (.getfield 38, 3) := by decide +kernel
theorem dX7_pushBlock_36 : decode cX7_pushBlock 36 = .ok (.aload_n 0, 1) := by decide +kernel
theorem dX7_pushBlock_37 : decode cX7_pushBlock 37 = .ok (.getfield 69, 3) := by decide +kernel
theorem dX7_pushBlock_40 : decode cX7_pushBlock 40 = .ok (.iload_n 2, 1) := by decide +kernel
theorem dX7_pushBlock_41 : decode cX7_pushBlock 41 = .ok (.bastore, 1) := by decide +kernel
theorem dX7_pushBlock_42 : decode cX7_pushBlock 42 = .ok (.aload_n 0, 1) := by decide +kernel
theorem dX7_pushBlock_43 : decode cX7_pushBlock 43 = .ok (.dup, 1) := by decide +kernel
theorem dX7_pushBlock_44 : decode cX7_pushBlock 44 = .ok (.getfield 69, 3) := by decide +kernel
theorem dX7_pushBlock_47 : decode cX7_pushBlock 47 = .ok (.iconst 1, 1) := by decide +kernel
theorem dX7_pushBlock_48 : decode cX7_pushBlock 48 = .ok (.iadd, 1) := by decide +kernel
theorem dX7_pushBlock_49 : decode cX7_pushBlock 49 = .ok (.putfield 69, 3) := by decide +kernel
theorem dX7_pushBlock_52 : decode cX7_pushBlock 52 = .ok (.return_, 1) := by decide +kernel
def w_Pa_pushBlock_0 (C : zC) (n0 : Nat) (Q : zS → Prop)  (a0 : Nat) (a1 : Int32) (a2 : Int32) (κ : zS) : Prop :=
  ((Int32.ofNat (zN κ (zR κ paOwners a0))) ≤ (zI κ paBlocks a0) →
    Q κ) ∧
  (¬ (Int32.ofNat (zN κ (zR κ paOwners a0))) ≤ (zI κ paBlocks a0) →
    inb (zI κ paBlocks a0) (zN κ (zR κ paOwners a0)) ∧
    ∀ κ1, κ1 = ua κ (zR κ paOwners a0) ((zI κ paBlocks a0)).toNatClampNeg a1 →
    ∀ _ : zW C n0 κ1,
    inb (zI κ1 paBlocks a0) (zN κ1 (zR κ1 paLasts a0)) ∧
    ∀ κ3, κ3 = ua κ1 (zR κ1 paLasts a0) ((zI κ1 paBlocks a0)).toNatClampNeg (-1 : Int32) →
    ∀ _ : zW C n0 κ3,
    inb (zI κ3 paBlocks a0) (zN κ3 (zR κ3 paElses a0)) ∧
    ∀ κ5, κ5 = ua κ3 (zR κ3 paElses a0) ((zI κ3 paBlocks a0)).toNatClampNeg (vp_nar .boolean a2) →
    ∀ _ : zW C n0 κ5,
    ∀ κ7, κ7 = ui κ5 paBlocks a0 ((zI κ5 paBlocks a0) + (1 : Int32)) →
    ∀ _ : zW C n0 κ7,
    Q κ7)
theorem t_Pa_pushBlock_0 {C : zC} {n0 : Nat} {Q : zS → Prop}   {a0 : Nat} {a1 : Int32} {a2 : Int32} {κ : zS} (W : zW C n0 κ) (Ta0 : zT κ a0 = 10) (F : w_Pa_pushBlock_0 C n0 Q  a0 a1 a2 κ) : zG C n0 0 mPa_pushBlock 0 [some (.ref a0), some (.int a1), some (.int a2)] [] κ (oV Q noX) := by
  unfold w_Pa_pushBlock_0 at F
  refine y_aln dX7_pushBlock_0 rfl ?_
  refine gf_X7_69 dX7_pushBlock_1 rfl (Or.inl Ta0) ?_
  refine y_aln dX7_pushBlock_4 rfl ?_
  refine gf_X7_32 W dX7_pushBlock_5 rfl Ta0 ?_
  refine y_alen (t := 0) dX7_pushBlock_8 (ty_paOwners W Ta0) (by decide) ?_
  refine y_ii ((Int32.ofNat (zN κ (zR κ paOwners a0))) ≤ (zI κ paBlocks a0)) dX7_pushBlock_9 (t := 52) rfl rfl (fun c9 => ?_) (fun c9 => ?_)
  · replace F := F.1 c9
    exact y_rv W dX7_pushBlock_52 rfl F
  · replace F := F.2 c9
    refine y_aln dX7_pushBlock_12 rfl ?_
    refine gf_X7_32 W dX7_pushBlock_13 rfl Ta0 ?_
    refine y_aln dX7_pushBlock_16 rfl ?_
    refine gf_X7_69 dX7_pushBlock_17 rfl (Or.inl Ta0) ?_
    refine y_iln dX7_pushBlock_20 rfl ?_
    refine y_ast W dX7_pushBlock_21 (ty_paOwners W Ta0) F.1 (fun κ1 eκ1 => ?_)
    replace F := F.2 κ1 eκ1
    have Wκ1 : zW C n0 κ1 := zW_ua W eκ1 (fun h => absurd (h.symm.trans (ty_paOwners W Ta0)) (by decide)) (fun h => absurd (h.symm.trans (ty_paOwners W Ta0)) (by decide))
    have Mκ1 : zM (zn κ) κ κ1 := by rw [eκ1]; exact zM.of rfl rfl rfl
    replace F := F Wκ1
    refine y_aln dX7_pushBlock_22 rfl ?_
    have h2 := (ztm W Mκ1 Ta0)
    refine gf_X7_35 Wκ1 dX7_pushBlock_23 rfl h2 ?_
    refine y_aln dX7_pushBlock_26 rfl ?_
    refine gf_X7_69 dX7_pushBlock_27 rfl (Or.inl h2) ?_
    refine y_ic dX7_pushBlock_30 zi_m1 ?_
    refine y_ast Wκ1 dX7_pushBlock_31 (ty_paLasts Wκ1 h2) F.1 (fun κ3 eκ3 => ?_)
    replace F := F.2 κ3 eκ3
    have Wκ3 : zW C n0 κ3 := zW_ua Wκ1 eκ3 (fun h => absurd (h.symm.trans (ty_paLasts Wκ1 h2)) (by decide)) (fun h => absurd (h.symm.trans (ty_paLasts Wκ1 h2)) (by decide))
    have Mκ3 : zM (zn κ1) κ1 κ3 := by rw [eκ3]; exact zM.of rfl rfl rfl
    replace F := F Wκ3
    refine y_aln dX7_pushBlock_32 rfl ?_
    have h4 := (ztm Wκ1 Mκ3 h2)
    refine gf_X7_38 Wκ3 dX7_pushBlock_33 rfl h4 ?_
    refine y_aln dX7_pushBlock_36 rfl ?_
    refine gf_X7_69 dX7_pushBlock_37 rfl (Or.inl h4) ?_
    refine y_iln dX7_pushBlock_40 rfl ?_
    refine y_zst Wκ3 dX7_pushBlock_41 (ty_paElses Wκ3 h4) F.1 (fun κ5 eκ5 => ?_)
    replace F := F.2 κ5 eκ5
    have Wκ5 : zW C n0 κ5 := zW_ua Wκ3 eκ5 (fun _ => nb_nr) (fun h => absurd (h.symm.trans (ty_paElses Wκ3 h4)) (by decide))
    have Mκ5 : zM (zn κ3) κ3 κ5 := by rw [eκ5]; exact zM.of rfl rfl rfl
    replace F := F Wκ5
    refine y_aln dX7_pushBlock_42 rfl ?_
    refine y_dup dX7_pushBlock_43 rfl ?_
    have h6 := (ztm Wκ3 Mκ5 h4)
    refine gf_X7_69 dX7_pushBlock_44 rfl (Or.inl h6) ?_
    refine y_ic dX7_pushBlock_47 zi_1 ?_
    refine y_iadd dX7_pushBlock_48 ?_
    refine pf_X7_69 Wκ5 dX7_pushBlock_49 rfl (Or.inl h6) (fun κ7 eκ7 => ?_)
    replace F := F κ7 eκ7
    have Wκ7 : zW C n0 κ7 := zW_ui Wκ5 eκ7 (fun h => absurd h (by decide))
    have Mκ7 : zM (zn κ5) κ5 κ7 := by rw [eκ7]; exact zM.of rfl rfl rfl
    replace F := F Wκ7
    exact y_rv Wκ7 dX7_pushBlock_52 rfl F

theorem Pa_pushBlock_run {C : zC} {n0 : Nat} {Q : zS → Prop} {a0 : Nat} {a1 : Int32} {a2 : Int32} {κ : zS} (W : zW C n0 κ) (Ta0 : zT κ a0 = 10) (F : w_Pa_pushBlock_0 C (zn κ) Q a0 a1 a2 κ) : zRun C 0 mPa_pushBlock [.ref a0, .int a1, .int a2] κ (oV Q noX) := z_run (m_ent _ 0) (t_Pa_pushBlock_0 (W.lo (Nat.le_trans W.1.2.1 W.1.2.2) (Nat.le_refl _)) Ta0 F)

theorem dX7_functionHead_0 : decode cX7_functionHead 0 = .ok (.aload_n 0, 1) := by decide +kernel
theorem dX7_functionHead_1 : decode cX7_functionHead 1 = .ok (.aload_n 0, 1) := by decide +kernel
theorem dX7_functionHead_2 : decode cX7_functionHead 2 = .ok (.getfield 15, 3) := by decide +kernel
theorem dX7_functionHead_5 : decode cX7_functionHead 5 = .ok (.getfield 140, 3) := by decide +kernel
theorem dX7_functionHead_8 : decode cX7_functionHead 8 = .ok (.bipush 10, 2) := by decide +kernel
theorem dX7_functionHead_10 : decode cX7_functionHead 10 = .ok (.invokevirtual 152, 3) := by decide +kernel
theorem dX7_functionHead_13 : decode cX7_functionHead 13 = .ok (.istore_n 1, 1) := by decide +kernel
theorem dX7_functionHead_14 : decode cX7_functionHead 14 = .ok (.aload_n 0, 1) := by decide +kernel
theorem dX7_functionHead_15 : decode cX7_functionHead 15 = .ok (.bipush 40, 2) := by decide +kernel
theorem dX7_functionHead_17 : decode cX7_functionHead 17 = .ok (.invokevirtual 166, 3) := by decide +kernel
theorem dX7_functionHead_20 : decode cX7_functionHead 20 = .ok (.aload_n 0, 1) := by decide +kernel
theorem dX7_functionHead_21 : decode cX7_functionHead 21 = .ok (.getfield 78, 3) := by decide +kernel
theorem dX7_functionHead_24 : decode cX7_functionHead 24 = .ok (.bipush 41, 2) := by decide +kernel
theorem dX7_functionHead_26 : decode cX7_functionHead 26 = .ok (.if_icmp .eq 7, 3) := by decide +kernel
theorem dX7_functionHead_29 : decode cX7_functionHead 29 = .ok (.iconst 1, 1) := by decide +kernel
theorem dX7_functionHead_30 : decode cX7_functionHead 30 = .ok (.goto 4, 3) := by decide +kernel
theorem dX7_functionHead_33 : decode cX7_functionHead 33 = .ok (.iconst 0, 1) := by decide +kernel
theorem dX7_functionHead_34 : decode cX7_functionHead 34 = .ok (.istore_n 2, 1) := by decide +kernel
theorem dX7_functionHead_35 : decode cX7_functionHead 35 = .ok (.iconst 0, 1) := by decide +kernel
theorem dX7_functionHead_36 : decode cX7_functionHead 36 = .ok (.istore_n 3, 1) := by decide +kernel
theorem dX7_functionHead_37 : decode cX7_functionHead 37 = .ok (.iload_n 2, 1) := by decide +kernel
theorem dX7_functionHead_38 : decode cX7_functionHead 38 = .ok (.ifCond .eq 50, 3) := by decide +kernel
theorem dX7_functionHead_41 : decode cX7_functionHead 41 = .ok (.iload_n 3, 1) := by decide +kernel
theorem dX7_functionHead_42 : decode cX7_functionHead 42 = .ok (.iconst 4, 1) := by decide +kernel
theorem dX7_functionHead_43 : decode cX7_functionHead 43 = .ok (.if_icmp .gt 45, 3) := by decide +kernel
theorem dX7_functionHead_46 : decode cX7_functionHead 46 = .ok (.aload_n 0, 1) := by decide +kernel
theorem dX7_functionHead_47 : decode cX7_functionHead 47 = .ok (.aload_n 0, 1) := by decide +kernel
theorem dX7_functionHead_48 : decode cX7_functionHead 48 = .ok (.aload_n 0, 1) := by decide +kernel
theorem dX7_functionHead_49 : decode cX7_functionHead 49 = .ok (.getfield 66, 3) := by decide +kernel
theorem dX7_functionHead_52 : decode cX7_functionHead 52 = .ok (.iconst 4, 1) := by decide +kernel
theorem dX7_functionHead_53 : decode cX7_functionHead 53 = .ok (.invokevirtual 152, 3) := by decide +kernel
theorem dX7_functionHead_56 : decode cX7_functionHead 56 = .ok (.invokevirtual 181, 3) := by decide +kernel
theorem dX7_functionHead_59 : decode cX7_functionHead 59 = .ok (.aload_n 0, 1) := by decide +kernel
theorem dX7_functionHead_60 : decode cX7_functionHead 60 = .ok (.getfield 78, 3) := by decide +kernel
theorem dX7_functionHead_63 : decode cX7_functionHead 63 = .ok (.bipush 44, 2) := by decide +kernel
theorem dX7_functionHead_65 : decode cX7_functionHead 65 = .ok (.if_icmp .ne 7, 3) := by decide +kernel
theorem dX7_functionHead_68 : decode cX7_functionHead 68 = .ok (.iconst 1, 1) := by decide +kernel
theorem dX7_functionHead_69 : decode cX7_functionHead 69 = .ok (.goto 4, 3) := by decide +kernel
theorem dX7_functionHead_72 : decode cX7_functionHead 72 = .ok (.iconst 0, 1) := by decide +kernel
theorem dX7_functionHead_73 : decode cX7_functionHead 73 = .ok (.istore_n 2, 1) := by decide +kernel
theorem dX7_functionHead_74 : decode cX7_functionHead 74 = .ok (.iload_n 2, 1) := by decide +kernel
theorem dX7_functionHead_75 : decode cX7_functionHead 75 = .ok (.ifCond .eq 7, 3) := by decide +kernel
theorem dX7_functionHead_78 : decode cX7_functionHead 78 = .ok (.aload_n 0, 1) := by decide +kernel
theorem dX7_functionHead_79 : decode cX7_functionHead 79 = .ok (.invokevirtual 72, 3) := by decide +kernel
theorem dX7_functionHead_82 : decode cX7_functionHead 82 = .ok (.iinc 3 1, 3) := by decide +kernel
theorem dX7_functionHead_85 : decode cX7_functionHead 85 = .ok (.goto (-48), 3) := by decide +kernel
theorem dX7_functionHead_88 : decode cX7_functionHead 88 = .ok (.aload_n 0, 1) := by decide +kernel
theorem dX7_functionHead_89 : decode cX7_functionHead 89 = .ok (.bipush 41, 2) := by decide +kernel
theorem dX7_functionHead_91 : decode cX7_functionHead 91 = .ok (.invokevirtual 169, 3) := by decide +kernel
theorem dX7_functionHead_94 : decode cX7_functionHead 94 = .ok (.aload_n 0, 1) := by decide +kernel
theorem dX7_functionHead_95 : decode cX7_functionHead 95 = .ok (.bipush 123, 2) := by decide +kernel
theorem dX7_functionHead_97 : decode cX7_functionHead 97 = .ok (.invokevirtual 166, 3) := by decide +kernel
theorem dX7_functionHead_100 : decode cX7_functionHead 100 = .ok (.aload_n 0, 1) := by decide +kernel
theorem dX7_functionHead_101 : decode cX7_functionHead 101 = .ok (.getfield 15, 3) := by decide +kernel
theorem dX7_functionHead_104 : decode cX7_functionHead 104 = .ok (.getfield 140, 3) := by decide +kernel
theorem dX7_functionHead_107 : decode cX7_functionHead 107 = .ok (.bipush 10, 2) := by decide +kernel
theorem dX7_functionHead_109 : decode cX7_functionHead 109 = .ok (.if_icmp .ge 35, 3) := by decide +kernel
theorem dX7_functionHead_112 : decode cX7_functionHead 112 = .ok (.aload_n 0, 1) := by decide +kernel
theorem dX7_functionHead_113 : decode cX7_functionHead 113 = .ok (.getfield 26, 3) := by decide +kernel
theorem dX7_functionHead_116 : decode cX7_functionHead 116 = .ok (.aload_n 0, 1) := by decide +kernel
theorem dX7_functionHead_117 : decode cX7_functionHead 117 = .ok (.getfield 15, 3) := by decide +kernel
theorem dX7_functionHead_120 : decode cX7_functionHead 120 = .ok (.getfield 140, 3) := by decide +kernel
theorem dX7_functionHead_123 : decode cX7_functionHead 123 = .ok (.iload_n 1, 1) := by decide +kernel
theorem dX7_functionHead_124 : decode cX7_functionHead 124 = .ok (.iastore, 1) := by decide +kernel
theorem dX7_functionHead_125 : decode cX7_functionHead 125 = .ok (.aload_n 0, 1) := by decide +kernel
theorem dX7_functionHead_126 : decode cX7_functionHead 126 = .ok (.getfield 15, 3) := by decide +kernel
theorem dX7_functionHead_129 : decode cX7_functionHead 129 = .ok (.getfield 184, 3) := by decide +kernel
theorem dX7_functionHead_132 : decode cX7_functionHead 132 = .ok (.aload_n 0, 1) := by decide +kernel
theorem dX7_functionHead_133 : decode cX7_functionHead 133 = .ok (.getfield 15, 3) := by decide +kernel
theorem dX7_functionHead_136 : decode cX7_functionHead 136 = .ok (.getfield 140, 3) := by decide +kernel
theorem dX7_functionHead_139 : decode cX7_functionHead 139 = .ok (.aload_n 0, 1) := by decide +kernel
theorem dX7_functionHead_140 : decode cX7_functionHead 140 = .ok (.getfield 66, 3) := by decide +kernel
theorem dX7_functionHead_143 : decode cX7_functionHead 143 = .ok (.iastore, 1) := by decide +kernel
theorem dX7_functionHead_144 : decode cX7_functionHead 144 = .ok (.aload_n 0, 1) := by decide +kernel
theorem dX7_functionHead_145 : decode cX7_functionHead 145 = .ok (.iconst 1, 1) := by decide +kernel
theorem dX7_functionHead_146 : decode cX7_functionHead 146 = .ok (.putfield 62, 3) := by decide +kernel
theorem dX7_functionHead_149 : decode cX7_functionHead 149 = .ok (.aload_n 0, 1) := by decide +kernel
theorem dX7_functionHead_150 : decode cX7_functionHead 150 = .ok (.iconst (-1), 1) := by decide +kernel
theorem dX7_functionHead_151 : decode cX7_functionHead 151 = .ok (.iconst 0, 1) := by decide +kernel
theorem dX7_functionHead_152 : decode cX7_functionHead 152 = .ok (.invokevirtual 187, 3) := by decide +kernel
theorem dX7_functionHead_155 : decode cX7_functionHead 155 = .ok (.return_, 1) := by decide +kernel
def w_Pa_functionHead_73 (C : zC) (n0 : Nat) (Q : zS → Prop) (X : zXp) (B37 : Nat → Int32 → Int32 → Int32 → zS → Prop) (a0 : Nat) (a1 : Int32) (a3 : Int32) (s0 : Int32) (κ : zS) : Prop :=
  (s0 = (0 : Int32) →
    ∀ v3_1 : Int32, v3_1 = a3 + (1 : Int32) →
    B37 a0 a1 s0 v3_1 κ) ∧
  (¬ s0 = (0 : Int32) →
    ∀ _ : zT κ a0 = 10,
    zRun C 0 mPa_take [.ref a0] κ (oV (fun κ2 =>
      ∀ _ : zW C n0 κ2,
      ∀ _ : zM (zn κ) κ κ2,
      ∀ v3_5 : Int32, v3_5 = a3 + (1 : Int32) →
      B37 a0 a1 s0 v3_5 κ2) noX))
theorem t_Pa_functionHead_73 {C : zC} {n0 : Nat} {Q : zS → Prop} {X : zXp} {B37 : Nat → Int32 → Int32 → Int32 → zS → Prop} (hB37 : ∀ a0' a1' a2' a3' τ, zW C n0 τ → zT τ a0' = 10 → B37 a0' a1' a2' a3' τ → zG C n0 11 mPa_functionHead 37 [some (.ref a0'), some (.int a1'), some (.int a2'), some (.int a3')] [] τ (oV Q X)) {a0 : Nat} {a1 : Int32} {a3 : Int32} {s0 : Int32} {κ : zS} (W : zW C n0 κ) (Ta0 : zT κ a0 = 10) (F : w_Pa_functionHead_73 C n0 Q X B37 a0 a1 a3 s0 κ) : zG C n0 11 mPa_functionHead 73 [some (.ref a0), some (.int a1), none, some (.int a3)] [.int s0] κ (oV Q X) := by
  unfold w_Pa_functionHead_73 at F
  refine y_isn dX7_functionHead_73 (Nat.le_of_ble_eq_true rfl) rfl ?_
  show zG _ _ _ _ _ [some (.ref a0), some (.int a1), some (.int s0), some (.int a3)] _ _ _
  refine y_iln dX7_functionHead_74 rfl ?_
  refine y_i (s0 = (0 : Int32)) dX7_functionHead_75 (t := 82) rfl rfl (fun c9 => ?_) (fun c9 => ?_)
  · replace F := F.1 c9
    refine y_incb dX7_functionHead_82 zi_1 rfl (Nat.le_of_ble_eq_true rfl) (fun v3_1 ev3_1 => ?_)
    replace F := F v3_1 ev3_1
    show zG _ _ _ _ _ [some (.ref a0), some (.int a1), some (.int s0), some (.int v3_1)] _ _ _
    refine y_goto dX7_functionHead_85 (t := 37) rfl ?_
    exact y_k (hB37 _ _ _ _ _ W Ta0 F) ⟨rfl, rfl, rfl, rfl, trivial⟩
  · replace F := F.2 c9
    refine y_aln dX7_functionHead_78 rfl ?_
    replace F := F Ta0
    refine k_X7_72 W dX7_functionHead_79 rfl (Nat.le_of_ble_eq_true rfl) (Nat.le_of_ble_eq_true rfl) (Or.inl Ta0) F (fun  κ2 Wκ2 Mκ2 F => ?_) (fun _ _ h9 => False.elim h9)
    replace F := F Wκ2 Mκ2
    refine y_incb dX7_functionHead_82 zi_1 rfl (Nat.le_of_ble_eq_true rfl) (fun v3_5 ev3_5 => ?_)
    replace F := F v3_5 ev3_5
    show zG _ _ _ _ _ [some (.ref a0), some (.int a1), some (.int s0), some (.int v3_5)] _ _ _
    refine y_goto dX7_functionHead_85 (t := 37) rfl ?_
    have h6 := (ztm W Mκ2 Ta0)
    exact y_k (hB37 _ _ _ _ _ Wκ2 h6 F) ⟨rfl, rfl, rfl, rfl, trivial⟩

def w_Pa_functionHead_144 (C : zC) (n0 : Nat) (Q : zS → Prop) (X : zXp)  (a0 : Nat) (κ : zS) : Prop :=
  ∀ κ1, κ1 = ui κ paInside a0 (1 : Int32) →
  ∀ _ : zW C n0 κ1,
  ∀ _ : zT κ1 a0 = 10,
  zRun C 0 mPa_pushBlock [.ref a0, .int (-1 : Int32), .int (0 : Int32)] κ1 (oV (fun κ2 =>
    ∀ _ : zW C n0 κ2,
    ∀ _ : zM (zn κ1) κ1 κ2,
    Q κ2) noX)
theorem t_Pa_functionHead_144 {C : zC} {n0 : Nat} {Q : zS → Prop} {X : zXp}   {a0 : Nat} {κ : zS} (W : zW C n0 κ) (Ta0 : zT κ a0 = 10) (F : w_Pa_functionHead_144 C n0 Q X  a0 κ) : zG C n0 11 mPa_functionHead 144 [some (.ref a0), none, none, none] [] κ (oV Q X) := by
  unfold w_Pa_functionHead_144 at F
  refine y_aln dX7_functionHead_144 rfl ?_
  refine y_ic dX7_functionHead_145 zi_1 ?_
  refine pf_X7_62 W dX7_functionHead_146 rfl (nb_nar nb_1) (Or.inl Ta0) (fun κ1 eκ1 => ?_)
  replace F := F κ1 eκ1
  have Wκ1 : zW C n0 κ1 := zW_ui W eκ1 (fun _ => nb_1)
  have Mκ1 : zM (zn κ) κ κ1 := by rw [eκ1]; exact zM.of rfl rfl rfl
  replace F := F Wκ1
  refine y_aln dX7_functionHead_149 rfl ?_
  refine y_ic dX7_functionHead_150 zi_m1 ?_
  refine y_ic dX7_functionHead_151 zi_0 ?_
  have h4 := (ztm W Mκ1 Ta0)
  replace F := F h4
  refine k_X7_187 Wκ1 dX7_functionHead_152 rfl (Nat.le_of_ble_eq_true rfl) (Nat.le_of_ble_eq_true rfl) (Or.inl h4) F (fun  κ2 Wκ2 Mκ2 F => ?_) (fun _ _ h9 => False.elim h9)
  replace F := F Wκ2 Mκ2
  exact y_rv Wκ2 dX7_functionHead_155 rfl F

def w_Pa_functionHead_88 (C : zC) (n0 : Nat) (Q : zS → Prop) (X : zXp)  (a0 : Nat) (a1 : Int32) (κ : zS) : Prop :=
  ∀ _ : zT κ a0 = 10,
  zRun C 9 mPa_closeSign [.ref a0, .int (41 : Int32)] κ (oV (fun κ1 =>
    ∀ _ : zW C n0 κ1,
    ∀ _ : zM (zn κ) κ κ1,
    ∀ _ : zT κ1 a0 = 10,
    zRun C 9 mPa_openSign [.ref a0, .int (123 : Int32)] κ1 (oV (fun κ4 =>
      ∀ _ : zW C n0 κ4,
      ∀ _ : zM (zn κ1) κ1 κ4,
      ((10 : Int32) ≤ (zI κ4 coFunctions (zR κ4 paCode a0)) →
        w_Pa_functionHead_144 C n0 Q X  a0 κ4) ∧
      (¬ (10 : Int32) ≤ (zI κ4 coFunctions (zR κ4 paCode a0)) →
        inb (zI κ4 coFunctions (zR κ4 paCode a0)) (zN κ4 (zR κ4 paFunctionNames a0)) ∧
        ∀ κ9, κ9 = ua κ4 (zR κ4 paFunctionNames a0) ((zI κ4 coFunctions (zR κ4 paCode a0))).toNatClampNeg a1 →
        ∀ _ : zW C n0 κ9,
        inb (zI κ9 coFunctions (zR κ9 paCode a0)) (zN κ9 (zR κ9 coNameCounts (zR κ9 paCode a0))) ∧
        ∀ κ11, κ11 = ua κ9 (zR κ9 coNameCounts (zR κ9 paCode a0)) ((zI κ9 coFunctions (zR κ9 paCode a0))).toNatClampNeg (zI κ9 paOwns a0) →
        ∀ _ : zW C n0 κ11,
        w_Pa_functionHead_144 C n0 Q X  a0 κ11)) X)) X)
theorem t_Pa_functionHead_88 {C : zC} {n0 : Nat} {Q : zS → Prop} {X : zXp}   {a0 : Nat} {a1 : Int32} {κ : zS} (W : zW C n0 κ) (Ta0 : zT κ a0 = 10) (F : w_Pa_functionHead_88 C n0 Q X  a0 a1 κ) : zG C n0 11 mPa_functionHead 88 [some (.ref a0), some (.int a1), none, none] [] κ (oV Q X) := by
  unfold w_Pa_functionHead_88 at F
  refine y_aln dX7_functionHead_88 rfl ?_
  refine y_bi1 dX7_functionHead_89 zb_41 ?_
  replace F := F Ta0
  refine k_X7_169 W dX7_functionHead_91 rfl (Nat.le_of_ble_eq_true rfl) (Nat.le_of_ble_eq_true rfl) (Or.inl Ta0) F (fun  κ1 Wκ1 Mκ1 F => ?_) (fun cls9 κ9 h9 => Or.inr ⟨_, rfl, h9⟩)
  replace F := F Wκ1 Mκ1
  refine y_aln dX7_functionHead_94 rfl ?_
  refine y_bi1 dX7_functionHead_95 zb_123 ?_
  have h6 := (ztm W Mκ1 Ta0)
  replace F := F h6
  refine k_X7_166 Wκ1 dX7_functionHead_97 rfl (Nat.le_of_ble_eq_true rfl) (Nat.le_of_ble_eq_true rfl) (Or.inl h6) F (fun  κ4 Wκ4 Mκ4 F => ?_) (fun cls9 κ9 h9 => Or.inr ⟨_, rfl, h9⟩)
  replace F := F Wκ4 Mκ4
  refine y_aln dX7_functionHead_100 rfl ?_
  have h8 := (ztm Wκ1 Mκ4 h6)
  refine gf_X7_15 Wκ4 dX7_functionHead_101 rfl h8 ?_
  refine gf_X7_140 dX7_functionHead_104 rfl (Or.inl (ty_paCode Wκ4 h8)) ?_
  refine y_bi1 dX7_functionHead_107 zb_10 ?_
  refine y_ii ((10 : Int32) ≤ (zI κ4 coFunctions (zR κ4 paCode a0))) dX7_functionHead_109 (t := 144) rfl rfl (fun c9 => ?_) (fun c9 => ?_)
  · replace F := F.1 c9
    exact y_k (t_Pa_functionHead_144  Wκ4 h8 F) ⟨rfl, trivial⟩
  · replace F := F.2 c9
    refine y_aln dX7_functionHead_112 rfl ?_
    refine gf_X7_26 Wκ4 dX7_functionHead_113 rfl h8 ?_
    refine y_aln dX7_functionHead_116 rfl ?_
    refine gf_X7_15 Wκ4 dX7_functionHead_117 rfl h8 ?_
    refine gf_X7_140 dX7_functionHead_120 rfl (Or.inl (ty_paCode Wκ4 h8)) ?_
    refine y_iln dX7_functionHead_123 rfl ?_
    refine y_ast Wκ4 dX7_functionHead_124 (ty_paFunctionNames Wκ4 h8) F.1 (fun κ9 eκ9 => ?_)
    replace F := F.2 κ9 eκ9
    have Wκ9 : zW C n0 κ9 := zW_ua Wκ4 eκ9 (fun h => absurd (h.symm.trans (ty_paFunctionNames Wκ4 h8)) (by decide)) (fun h => absurd (h.symm.trans (ty_paFunctionNames Wκ4 h8)) (by decide))
    have Mκ9 : zM (zn κ4) κ4 κ9 := by rw [eκ9]; exact zM.of rfl rfl rfl
    replace F := F Wκ9
    refine y_aln dX7_functionHead_125 rfl ?_
    have h10 := (ztm Wκ4 Mκ9 h8)
    refine gf_X7_15 Wκ9 dX7_functionHead_126 rfl h10 ?_
    refine gf_X7_184 Wκ9 dX7_functionHead_129 rfl (ty_paCode Wκ9 h10) ?_
    refine y_aln dX7_functionHead_132 rfl ?_
    refine gf_X7_15 Wκ9 dX7_functionHead_133 rfl h10 ?_
    refine gf_X7_140 dX7_functionHead_136 rfl (Or.inl (ty_paCode Wκ9 h10)) ?_
    refine y_aln dX7_functionHead_139 rfl ?_
    refine gf_X7_66 dX7_functionHead_140 rfl (Or.inl h10) ?_
    refine y_ast Wκ9 dX7_functionHead_143 (ty_coNameCounts Wκ9 (ty_paCode Wκ9 h10)) F.1 (fun κ11 eκ11 => ?_)
    replace F := F.2 κ11 eκ11
    have Wκ11 : zW C n0 κ11 := zW_ua Wκ9 eκ11 (fun h => absurd (h.symm.trans (ty_coNameCounts Wκ9 (ty_paCode Wκ9 h10))) (by decide)) (fun h => absurd (h.symm.trans (ty_coNameCounts Wκ9 (ty_paCode Wκ9 h10))) (by decide))
    have Mκ11 : zM (zn κ9) κ9 κ11 := by rw [eκ11]; exact zM.of rfl rfl rfl
    replace F := F Wκ11
    have h12 := (ztm Wκ9 Mκ11 h10)
    exact y_k (t_Pa_functionHead_144  Wκ11 h12 F) ⟨rfl, trivial⟩

def w_Pa_functionHead_37 (C : zC) (n0 : Nat) (Q : zS → Prop) (X : zXp)  (a0 : Nat) (a1 : Int32) (a2 : Int32) (a3 : Int32) (κ : zS) : Prop :=
  ∃ I : Nat → Nat → Int32 → Int32 → Int32 → zS → Prop, (∃ n, I n a0 a1 a2 a3 κ) ∧ ∀ n a0 a1 a2 a3 κ, zW C n0 κ → zT κ a0 = 10 → I n a0 a1 a2 a3 κ →
    (a2 = (0 : Int32) →
      w_Pa_functionHead_88 C n0 Q X  a0 a1 κ) ∧
    (¬ a2 = (0 : Int32) →
      ((4 : Int32) < a3 →
        w_Pa_functionHead_88 C n0 Q X  a0 a1 κ) ∧
      (¬ (4 : Int32) < a3 →
        ∀ _ : zT κ a0 = 10,
        zRun C 10 mPa_newName [.ref a0, .int (zI κ paOwns a0), .int (4 : Int32)] κ (oI (fun r2 κ1 =>
          ∀ _ : zW C n0 κ1,
          ∀ _ : zM (zn κ) κ κ1,
          ∀ _ : zT κ1 a0 = 10,
          zRun C 0 mPa_addOwn [.ref a0, .int r2] κ1 (oV (fun κ4 =>
            ∀ _ : zW C n0 κ4,
            ∀ _ : zM (zn κ1) κ1 κ4,
            (¬ (zI κ4 paKind a0) = (44 : Int32) →
              w_Pa_functionHead_73 C n0 Q X (fun a0' a1' a2' a3' τ => ∃ k < n, I k a0' a1' a2' a3' τ) a0 a1 a3 (0 : Int32) κ4) ∧
            ((zI κ4 paKind a0) = (44 : Int32) →
              w_Pa_functionHead_73 C n0 Q X (fun a0' a1' a2' a3' τ => ∃ k < n, I k a0' a1' a2' a3' τ) a0 a1 a3 (1 : Int32) κ4)) noX)) X)))
theorem t_Pa_functionHead_37 {C : zC} {n0 : Nat} {Q : zS → Prop} {X : zXp}   {a0 : Nat} {a1 : Int32} {a2 : Int32} {a3 : Int32} {κ : zS} (W : zW C n0 κ) (Ta0 : zT κ a0 = 10) (F : w_Pa_functionHead_37 C n0 Q X  a0 a1 a2 a3 κ) : zG C n0 11 mPa_functionHead 37 [some (.ref a0), some (.int a1), some (.int a2), some (.int a3)] [] κ (oV Q X) := by
  obtain ⟨I, ⟨m0, hI0⟩, F0⟩ := F
  have key : ∀ n a0 a1 a2 a3 κ, zW C n0 κ → zT κ a0 = 10 → I n a0 a1 a2 a3 κ → zG C n0 11 mPa_functionHead 37 [some (.ref a0), some (.int a1), some (.int a2), some (.int a3)] [] κ (oV Q X) := by
    intro n
    induction n using Nat.strongRecOn with
    | _ n ih =>
      intro a0 a1 a2 a3 κ W Ta0 hI
      have F := F0 n a0 a1 a2 a3 κ W Ta0 hI
      clear hI hI0
      refine y_iln dX7_functionHead_37 rfl ?_
      refine y_i (a2 = (0 : Int32)) dX7_functionHead_38 (t := 88) rfl rfl (fun c9 => ?_) (fun c9 => ?_)
      · replace F := F.1 c9
        exact y_k (t_Pa_functionHead_88  W Ta0 F) ⟨rfl, rfl, trivial⟩
      · replace F := F.2 c9
        refine y_iln dX7_functionHead_41 rfl ?_
        refine y_ic dX7_functionHead_42 zi_4 ?_
        refine y_ii ((4 : Int32) < a3) dX7_functionHead_43 (t := 88) rfl rfl (fun c9 => ?_) (fun c9 => ?_)
        · replace F := F.1 c9
          exact y_k (t_Pa_functionHead_88  W Ta0 F) ⟨rfl, rfl, trivial⟩
        · replace F := F.2 c9
          refine y_aln dX7_functionHead_46 rfl ?_
          refine y_aln dX7_functionHead_47 rfl ?_
          refine y_aln dX7_functionHead_48 rfl ?_
          refine gf_X7_66 dX7_functionHead_49 rfl (Or.inl Ta0) ?_
          refine y_ic dX7_functionHead_52 zi_4 ?_
          replace F := F Ta0
          refine k_X7_152 W dX7_functionHead_53 rfl (Nat.le_of_ble_eq_true rfl) (Nat.le_of_ble_eq_true rfl) (Or.inl Ta0) F (fun r2 κ1 Wκ1 Mκ1 F => ?_) (fun cls9 κ9 h9 => Or.inr ⟨_, rfl, h9⟩)
          replace F := F Wκ1 Mκ1
          have h6 := (ztm W Mκ1 Ta0)
          replace F := F h6
          refine k_X7_181 Wκ1 dX7_functionHead_56 rfl (Nat.le_of_ble_eq_true rfl) (Nat.le_of_ble_eq_true rfl) (Or.inl h6) F (fun  κ4 Wκ4 Mκ4 F => ?_) (fun _ _ h9 => False.elim h9)
          replace F := F Wκ4 Mκ4
          refine y_aln dX7_functionHead_59 rfl ?_
          have h8 := (ztm Wκ1 Mκ4 h6)
          refine gf_X7_78 dX7_functionHead_60 rfl (Or.inl h8) ?_
          refine y_bi1 dX7_functionHead_63 zb_44 ?_
          refine y_iin ((zI κ4 paKind a0) = (44 : Int32)) dX7_functionHead_65 (t := 72) rfl rfl (fun c9 => ?_) (fun c9 => ?_)
          · replace F := F.1 c9
            refine y_ic dX7_functionHead_72 zi_0 ?_
            exact y_k (t_Pa_functionHead_73 (fun a0' a1' a2' a3' τ w9 f09 hb => by obtain ⟨k, hk, hI⟩ := hb; exact ih k hk a0' a1' a2' a3' τ w9 f09 hI) Wκ4 h8 F) ⟨rfl, rfl, rfl, trivial⟩
          · replace F := F.2 c9
            refine y_ic dX7_functionHead_68 zi_1 ?_
            refine y_goto dX7_functionHead_69 (t := 73) rfl ?_
            exact y_k (t_Pa_functionHead_73 (fun a0' a1' a2' a3' τ w9 f09 hb => by obtain ⟨k, hk, hI⟩ := hb; exact ih k hk a0' a1' a2' a3' τ w9 f09 hI) Wκ4 h8 F) ⟨rfl, rfl, rfl, trivial⟩
  exact key m0 a0 a1 a2 a3 κ W Ta0 hI0

def w_Pa_functionHead_34 (C : zC) (n0 : Nat) (Q : zS → Prop) (X : zXp)  (a0 : Nat) (a1 : Int32) (s0 : Int32) (κ : zS) : Prop :=
  w_Pa_functionHead_37 C n0 Q X  a0 a1 s0 (0 : Int32) κ
theorem t_Pa_functionHead_34 {C : zC} {n0 : Nat} {Q : zS → Prop} {X : zXp}   {a0 : Nat} {a1 : Int32} {s0 : Int32} {κ : zS} (W : zW C n0 κ) (Ta0 : zT κ a0 = 10) (F : w_Pa_functionHead_34 C n0 Q X  a0 a1 s0 κ) : zG C n0 11 mPa_functionHead 34 [some (.ref a0), some (.int a1), none, none] [.int s0] κ (oV Q X) := by
  unfold w_Pa_functionHead_34 at F
  refine y_isn dX7_functionHead_34 (Nat.le_of_ble_eq_true rfl) rfl ?_
  show zG _ _ _ _ _ [some (.ref a0), some (.int a1), some (.int s0), none] _ _ _
  refine y_ic dX7_functionHead_35 zi_0 ?_
  refine y_isn dX7_functionHead_36 (Nat.le_of_ble_eq_true rfl) rfl ?_
  show zG _ _ _ _ _ [some (.ref a0), some (.int a1), some (.int s0), some (.int (0 : Int32))] _ _ _
  exact y_k (t_Pa_functionHead_37  W Ta0 F) ⟨rfl, rfl, rfl, rfl, trivial⟩

def w_Pa_functionHead_0 (C : zC) (n0 : Nat) (Q : zS → Prop) (X : zXp)  (a0 : Nat) (κ : zS) : Prop :=
  ∀ _ : zT κ a0 = 10,
  zRun C 10 mPa_newName [.ref a0, .int (zI κ coFunctions (zR κ paCode a0)), .int (10 : Int32)] κ (oI (fun r2 κ1 =>
    ∀ _ : zW C n0 κ1,
    ∀ _ : zM (zn κ) κ κ1,
    ∀ _ : zT κ1 a0 = 10,
    zRun C 9 mPa_openSign [.ref a0, .int (40 : Int32)] κ1 (oV (fun κ4 =>
      ∀ _ : zW C n0 κ4,
      ∀ _ : zM (zn κ1) κ1 κ4,
      ((zI κ4 paKind a0) = (41 : Int32) →
        w_Pa_functionHead_34 C n0 Q X  a0 r2 (0 : Int32) κ4) ∧
      (¬ (zI κ4 paKind a0) = (41 : Int32) →
        w_Pa_functionHead_34 C n0 Q X  a0 r2 (1 : Int32) κ4)) X)) X)
theorem t_Pa_functionHead_0 {C : zC} {n0 : Nat} {Q : zS → Prop} {X : zXp}   {a0 : Nat} {κ : zS} (W : zW C n0 κ) (Ta0 : zT κ a0 = 10) (F : w_Pa_functionHead_0 C n0 Q X  a0 κ) : zG C n0 11 mPa_functionHead 0 [some (.ref a0), none, none, none] [] κ (oV Q X) := by
  unfold w_Pa_functionHead_0 at F
  refine y_aln dX7_functionHead_0 rfl ?_
  refine y_aln dX7_functionHead_1 rfl ?_
  refine gf_X7_15 W dX7_functionHead_2 rfl Ta0 ?_
  refine gf_X7_140 dX7_functionHead_5 rfl (Or.inl (ty_paCode W Ta0)) ?_
  refine y_bi1 dX7_functionHead_8 zb_10 ?_
  replace F := F Ta0
  refine k_X7_152 W dX7_functionHead_10 rfl (Nat.le_of_ble_eq_true rfl) (Nat.le_of_ble_eq_true rfl) (Or.inl Ta0) F (fun r2 κ1 Wκ1 Mκ1 F => ?_) (fun cls9 κ9 h9 => Or.inr ⟨_, rfl, h9⟩)
  replace F := F Wκ1 Mκ1
  refine y_isn dX7_functionHead_13 (Nat.le_of_ble_eq_true rfl) rfl ?_
  show zG _ _ _ _ _ [some (.ref a0), some (.int r2), none, none] _ _ _
  refine y_aln dX7_functionHead_14 rfl ?_
  refine y_bi1 dX7_functionHead_15 zb_40 ?_
  have h6 := (ztm W Mκ1 Ta0)
  replace F := F h6
  refine k_X7_166 Wκ1 dX7_functionHead_17 rfl (Nat.le_of_ble_eq_true rfl) (Nat.le_of_ble_eq_true rfl) (Or.inl h6) F (fun  κ4 Wκ4 Mκ4 F => ?_) (fun cls9 κ9 h9 => Or.inr ⟨_, rfl, h9⟩)
  replace F := F Wκ4 Mκ4
  refine y_aln dX7_functionHead_20 rfl ?_
  have h8 := (ztm Wκ1 Mκ4 h6)
  refine gf_X7_78 dX7_functionHead_21 rfl (Or.inl h8) ?_
  refine y_bi1 dX7_functionHead_24 zb_41 ?_
  refine y_ii ((zI κ4 paKind a0) = (41 : Int32)) dX7_functionHead_26 (t := 33) rfl rfl (fun c9 => ?_) (fun c9 => ?_)
  · replace F := F.1 c9
    refine y_ic dX7_functionHead_33 zi_0 ?_
    exact y_k (t_Pa_functionHead_34  Wκ4 h8 F) ⟨rfl, rfl, trivial⟩
  · replace F := F.2 c9
    refine y_ic dX7_functionHead_29 zi_1 ?_
    refine y_goto dX7_functionHead_30 (t := 34) rfl ?_
    exact y_k (t_Pa_functionHead_34  Wκ4 h8 F) ⟨rfl, rfl, trivial⟩

theorem Pa_functionHead_run {C : zC} {n0 : Nat} {Q : zS → Prop} {X : zXp} {a0 : Nat} {κ : zS} (W : zW C n0 κ) (Ta0 : zT κ a0 = 10) (F : w_Pa_functionHead_0 C (zn κ) Q X a0 κ) : zRun C 11 mPa_functionHead [.ref a0] κ (oV Q X) := z_run (m_ent _ 3) (t_Pa_functionHead_0 (W.lo (Nat.le_trans W.1.2.1 W.1.2.2) (Nat.le_refl _)) Ta0 F)

theorem dX7_item_0 : decode cX7_item 0 = .ok (.aload_n 0, 1) := by decide +kernel
theorem dX7_item_1 : decode cX7_item 1 = .ok (.getfield 78, 3) := by decide +kernel
theorem dX7_item_4 : decode cX7_item 4 = .ok (.istore_n 1, 1) := by decide +kernel
theorem dX7_item_5 : decode cX7_item 5 = .ok (.iload_n 1, 1) := by decide +kernel
theorem dX7_item_6 : decode cX7_item 6 = .ok (.sipush 150, 3) := by decide +kernel
theorem dX7_item_9 : decode cX7_item 9 = .ok (.if_icmp .eq 26, 3) := by decide +kernel
theorem dX7_item_12 : decode cX7_item 12 = .ok (.iload_n 1, 1) := by decide +kernel
theorem dX7_item_13 : decode cX7_item 13 = .ok (.sipush 151, 3) := by decide +kernel
theorem dX7_item_16 : decode cX7_item 16 = .ok (.if_icmp .eq 19, 3) := by decide +kernel
theorem dX7_item_19 : decode cX7_item 19 = .ok (.iload_n 1, 1) := by decide +kernel
theorem dX7_item_20 : decode cX7_item 20 = .ok (.sipush 152, 3) := by decide +kernel
theorem dX7_item_23 : decode cX7_item 23 = .ok (.if_icmp .eq 12, 3) := by decide +kernel
theorem dX7_item_26 : decode cX7_item 26 = .ok (.aload_n 0, 1) := by decide +kernel
theorem dX7_item_27 : decode cX7_item 27 = .ok (.iconst 2, 1) := by decide +kernel
theorem dX7_item_28 : decode cX7_item 28 = .ok (.aload_n 0, 1) := by decide +kernel
theorem dX7_item_29 : decode cX7_item 29 = .ok (.getfield 55, 3) := by decide +kernel
theorem dX7_item_32 : decode cX7_item 32 = .ok (.invokevirtual 123, 3) := by decide +kernel
theorem dX7_item_35 : decode cX7_item 35 = .ok (.aload_n 0, 1) := by decide +kernel
theorem dX7_item_36 : decode cX7_item 36 = .ok (.invokevirtual 72, 3) := by decide +kernel
theorem dX7_item_39 : decode cX7_item 39 = .ok (.iload_n 1, 1) := by decide +kernel
theorem dX7_item_40 : decode cX7_item 40 = .ok (.sipush 150, 3) := by decide +kernel
theorem dX7_item_43 : decode cX7_item 43 = .ok (.if_icmp .ne 10, 3) := by decide +kernel
theorem dX7_item_46 : decode cX7_item 46 = .ok (.aload_n 0, 1) := by decide +kernel
theorem dX7_item_47 : decode cX7_item 47 = .ok (.invokevirtual 143, 3) := by decide +kernel
theorem dX7_item_50 : decode cX7_item 50 = .ok (.goto 21, 3) := by decide +kernel
theorem dX7_item_53 : decode cX7_item 53 = .ok (.iload_n 1, 1) := by decide +kernel
theorem dX7_item_54 : decode cX7_item 54 = .ok (.sipush 151, 3) := by decide +kernel
theorem dX7_item_57 : decode cX7_item 57 = .ok (.if_icmp .ne 10, 3) := by decide +kernel
theorem dX7_item_60 : decode cX7_item 60 = .ok (.aload_n 0, 1) := by decide +kernel
theorem dX7_item_61 : decode cX7_item 61 = .ok (.invokevirtual 146, 3) := by decide +kernel
theorem dX7_item_64 : decode cX7_item 64 = .ok (.goto 7, 3) := by decide +kernel
theorem dX7_item_67 : decode cX7_item 67 = .ok (.aload_n 0, 1) := by decide +kernel
theorem dX7_item_68 : decode cX7_item 68 = .ok (.invokevirtual 149, 3) := by decide +kernel
theorem dX7_item_71 : decode cX7_item 71 = .ok (.return_, 1) := by decide +kernel
def w_Pa_item_35 (C : zC) (n0 : Nat) (Q : zS → Prop) (X : zXp)  (a0 : Nat) (a1 : Int32) (κ : zS) : Prop :=
  ∀ _ : zT κ a0 = 10,
  zRun C 0 mPa_take [.ref a0] κ (oV (fun κ1 =>
    ∀ _ : zW C n0 κ1,
    ∀ _ : zM (zn κ) κ κ1,
    (¬ a1 = (150 : Int32) →
      (¬ a1 = (151 : Int32) →
        ∀ _ : zT κ1 a0 = 10,
        zRun C 11 mPa_functionHead [.ref a0] κ1 (oV (fun κ4 =>
          ∀ _ : zW C n0 κ4,
          ∀ _ : zM (zn κ1) κ1 κ4,
          Q κ4) X)) ∧
      (a1 = (151 : Int32) →
        ∀ _ : zT κ1 a0 = 10,
        zRun C 11 mPa_arrayItem [.ref a0] κ1 (oV (fun κ8 =>
          ∀ _ : zW C n0 κ8,
          ∀ _ : zM (zn κ1) κ1 κ8,
          Q κ8) X))) ∧
    (a1 = (150 : Int32) →
      ∀ _ : zT κ1 a0 = 10,
      zRun C 11 mPa_varItem [.ref a0] κ1 (oV (fun κ12 =>
        ∀ _ : zW C n0 κ12,
        ∀ _ : zM (zn κ1) κ1 κ12,
        Q κ12) X))) noX)
theorem t_Pa_item_35 {C : zC} {n0 : Nat} {Q : zS → Prop} {X : zXp}   {a0 : Nat} {a1 : Int32} {κ : zS} (W : zW C n0 κ) (Ta0 : zT κ a0 = 10) (F : w_Pa_item_35 C n0 Q X  a0 a1 κ) : zG C n0 12 mPa_item 35 [some (.ref a0), some (.int a1)] [] κ (oV Q X) := by
  unfold w_Pa_item_35 at F
  refine y_aln dX7_item_35 rfl ?_
  replace F := F Ta0
  refine k_X7_72 W dX7_item_36 rfl (Nat.le_of_ble_eq_true rfl) (Nat.le_of_ble_eq_true rfl) (Or.inl Ta0) F (fun  κ1 Wκ1 Mκ1 F => ?_) (fun _ _ h9 => False.elim h9)
  replace F := F Wκ1 Mκ1
  refine y_iln dX7_item_39 rfl ?_
  refine y_si dX7_item_40 zs_150 ?_
  refine y_iin (a1 = (150 : Int32)) dX7_item_43 (t := 53) rfl rfl (fun c9 => ?_) (fun c9 => ?_)
  · replace F := F.1 c9
    refine y_iln dX7_item_53 rfl ?_
    refine y_si dX7_item_54 zs_151 ?_
    refine y_iin (a1 = (151 : Int32)) dX7_item_57 (t := 67) rfl rfl (fun c9 => ?_) (fun c9 => ?_)
    · replace F := F.1 c9
      refine y_aln dX7_item_67 rfl ?_
      have h6 := (ztm W Mκ1 Ta0)
      replace F := F h6
      refine k_X7_149 Wκ1 dX7_item_68 rfl (Nat.le_of_ble_eq_true rfl) (Nat.le_of_ble_eq_true rfl) (Or.inl h6) F (fun  κ4 Wκ4 Mκ4 F => ?_) (fun cls9 κ9 h9 => Or.inr ⟨_, rfl, h9⟩)
      replace F := F Wκ4 Mκ4
      exact y_rv Wκ4 dX7_item_71 rfl F
    · replace F := F.2 c9
      refine y_aln dX7_item_60 rfl ?_
      have h10 := (ztm W Mκ1 Ta0)
      replace F := F h10
      refine k_X7_146 Wκ1 dX7_item_61 rfl (Nat.le_of_ble_eq_true rfl) (Nat.le_of_ble_eq_true rfl) (Or.inl h10) F (fun  κ8 Wκ8 Mκ8 F => ?_) (fun cls9 κ9 h9 => Or.inr ⟨_, rfl, h9⟩)
      replace F := F Wκ8 Mκ8
      refine y_goto dX7_item_64 (t := 71) rfl ?_
      exact y_rv Wκ8 dX7_item_71 rfl F
  · replace F := F.2 c9
    refine y_aln dX7_item_46 rfl ?_
    have h14 := (ztm W Mκ1 Ta0)
    replace F := F h14
    refine k_X7_143 Wκ1 dX7_item_47 rfl (Nat.le_of_ble_eq_true rfl) (Nat.le_of_ble_eq_true rfl) (Or.inl h14) F (fun  κ12 Wκ12 Mκ12 F => ?_) (fun cls9 κ9 h9 => Or.inr ⟨_, rfl, h9⟩)
    replace F := F Wκ12 Mκ12
    refine y_goto dX7_item_50 (t := 71) rfl ?_
    exact y_rv Wκ12 dX7_item_71 rfl F

def w_Pa_item_0 (C : zC) (n0 : Nat) (Q : zS → Prop) (X : zXp)  (a0 : Nat) (κ : zS) : Prop :=
  ∀ v1_1 : Int32, v1_1 = (zI κ paKind a0) →
  (v1_1 = (150 : Int32) →
    w_Pa_item_35 C n0 Q X  a0 v1_1 κ) ∧
  (¬ v1_1 = (150 : Int32) →
    (v1_1 = (151 : Int32) →
      w_Pa_item_35 C n0 Q X  a0 v1_1 κ) ∧
    (¬ v1_1 = (151 : Int32) →
      (v1_1 = (152 : Int32) →
        w_Pa_item_35 C n0 Q X  a0 v1_1 κ) ∧
      (¬ v1_1 = (152 : Int32) →
        ∀ _ : zT κ a0 = 10,
        zRun C 8 mPa_refuse [.ref a0, .int (2 : Int32), .int (zI κ paAt a0)] κ (oV (fun κ2 =>
          ∀ _ : zW C n0 κ2,
          ∀ _ : zM (zn κ) κ κ2,
          w_Pa_item_35 C n0 Q X  a0 v1_1 κ2) X))))
theorem t_Pa_item_0 {C : zC} {n0 : Nat} {Q : zS → Prop} {X : zXp}   {a0 : Nat} {κ : zS} (W : zW C n0 κ) (Ta0 : zT κ a0 = 10) (F : w_Pa_item_0 C n0 Q X  a0 κ) : zG C n0 12 mPa_item 0 [some (.ref a0), none] [] κ (oV Q X) := by
  unfold w_Pa_item_0 at F
  refine y_aln dX7_item_0 rfl ?_
  refine gf_X7_78 dX7_item_1 rfl (Or.inl Ta0) ?_
  refine y_isnb dX7_item_4 (Nat.le_of_ble_eq_true rfl) (fun v1_1 ev1_1 => ?_)
  replace F := F v1_1 ev1_1
  show zG _ _ _ _ _ [some (.ref a0), some (.int v1_1)] _ _ _
  refine y_iln dX7_item_5 rfl ?_
  refine y_si dX7_item_6 zs_150 ?_
  refine y_ii (v1_1 = (150 : Int32)) dX7_item_9 (t := 35) rfl rfl (fun c9 => ?_) (fun c9 => ?_)
  · replace F := F.1 c9
    exact y_k (t_Pa_item_35  W Ta0 F) ⟨rfl, rfl, trivial⟩
  · replace F := F.2 c9
    refine y_iln dX7_item_12 rfl ?_
    refine y_si dX7_item_13 zs_151 ?_
    refine y_ii (v1_1 = (151 : Int32)) dX7_item_16 (t := 35) rfl rfl (fun c9 => ?_) (fun c9 => ?_)
    · replace F := F.1 c9
      exact y_k (t_Pa_item_35  W Ta0 F) ⟨rfl, rfl, trivial⟩
    · replace F := F.2 c9
      refine y_iln dX7_item_19 rfl ?_
      refine y_si dX7_item_20 zs_152 ?_
      refine y_ii (v1_1 = (152 : Int32)) dX7_item_23 (t := 35) rfl rfl (fun c9 => ?_) (fun c9 => ?_)
      · replace F := F.1 c9
        exact y_k (t_Pa_item_35  W Ta0 F) ⟨rfl, rfl, trivial⟩
      · replace F := F.2 c9
        refine y_aln dX7_item_26 rfl ?_
        refine y_ic dX7_item_27 zi_2 ?_
        refine y_aln dX7_item_28 rfl ?_
        refine gf_X7_55 dX7_item_29 rfl (Or.inl Ta0) ?_
        replace F := F Ta0
        refine k_X7_123 W dX7_item_32 rfl (Nat.le_of_ble_eq_true rfl) (Nat.le_of_ble_eq_true rfl) (Or.inl Ta0) F (fun  κ2 Wκ2 Mκ2 F => ?_) (fun cls9 κ9 h9 => Or.inr ⟨_, rfl, h9⟩)
        replace F := F Wκ2 Mκ2
        have h5 := (ztm W Mκ2 Ta0)
        exact y_k (t_Pa_item_35  Wκ2 h5 F) ⟨rfl, rfl, trivial⟩

theorem Pa_item_run {C : zC} {n0 : Nat} {Q : zS → Prop} {X : zXp} {a0 : Nat} {κ : zS} (W : zW C n0 κ) (Ta0 : zT κ a0 = 10) (F : w_Pa_item_0 C (zn κ) Q X a0 κ) : zRun C 12 mPa_item [.ref a0] κ (oV Q X) := z_run (m_ent _ 1) (t_Pa_item_0 (W.lo (Nat.le_trans W.1.2.1 W.1.2.2) (Nat.le_refl _)) Ta0 F)

theorem dX7_closeBlock_0 : decode cX7_closeBlock 0 = .ok (.aload_n 0, 1) := by decide +kernel
theorem dX7_closeBlock_1 : decode cX7_closeBlock 1 = .ok (.bipush 125, 2) := by decide +kernel
theorem dX7_closeBlock_3 : decode cX7_closeBlock 3 = .ok (.invokevirtual 169, 3) := by decide +kernel
theorem dX7_closeBlock_6 : decode cX7_closeBlock 6 = .ok (.aload_n 0, 1) := by decide +kernel
theorem dX7_closeBlock_7 : decode cX7_closeBlock 7 = .ok (.aload_n 0, 1) := by decide +kernel
theorem dX7_closeBlock_8 : decode cX7_closeBlock 8 = .ok (.getfield 69, 3) := by decide +kernel
theorem dX7_closeBlock_11 : decode cX7_closeBlock 11 = .ok (.ifCond .le 12, 3) := by decide +kernel
theorem dX7_closeBlock_14 : decode cX7_closeBlock 14 = .ok (.aload_n 0, 1) := by decide +kernel
theorem dX7_closeBlock_15 : decode cX7_closeBlock 15 = .ok (.getfield 69, 3) := by decide +kernel
theorem dX7_closeBlock_18 : decode cX7_closeBlock 18 = .ok (.iconst 1, 1) := by decide +kernel
theorem dX7_closeBlock_19 : decode cX7_closeBlock 19 = .ok (.isub, 1) := by decide +kernel
theorem dX7_closeBlock_20 : decode cX7_closeBlock 20 = .ok (.goto 4, 3) := by decide +kernel
theorem dX7_closeBlock_23 : decode cX7_closeBlock 23 = .ok (.iconst 0, 1) := by decide +kernel
theorem dX7_closeBlock_24 : decode cX7_closeBlock 24 = .ok (.putfield 69, 3) := by decide +kernel
theorem dX7_closeBlock_27 : decode cX7_closeBlock 27 = .ok (.aload_n 0, 1) := by decide +kernel
theorem dX7_closeBlock_28 : decode cX7_closeBlock 28 = .ok (.getfield 32, 3) := by decide +kernel
theorem dX7_closeBlock_31 : decode cX7_closeBlock 31 = .ok (.aload_n 0, 1) := by decide +kernel
theorem dX7_closeBlock_32 : decode cX7_closeBlock 32 = .ok (.getfield 69, 3) := by decide +kernel
theorem dX7_closeBlock_35 : decode cX7_closeBlock 35 = .ok (.iaload, 1) := by decide +kernel
theorem dX7_closeBlock_36 : decode cX7_closeBlock 36 = .ok (.istore_n 1, 1) := by decide +kernel
theorem dX7_closeBlock_37 : decode cX7_closeBlock 37 = .ok (.iload_n 1, 1) := by decide +kernel
theorem dX7_closeBlock_38 : decode cX7_closeBlock 38 = .ok (.iconst (-1), 1) := by decide +kernel
theorem dX7_closeBlock_39 : decode cX7_closeBlock 39 = .ok (.if_icmp .ne 60, 3) := by decide +kernel
theorem dX7_closeBlock_42 : decode cX7_closeBlock 42 = .ok (.aload_n 0, 1) := by decide +kernel
theorem dX7_closeBlock_43 : decode cX7_closeBlock 43 = .ok (.getfield 15, 3) := by decide +kernel
theorem dX7_closeBlock_46 : decode cX7_closeBlock 46 = .ok (.getfield 140, 3) := by decide +kernel
theorem dX7_closeBlock_49 : decode cX7_closeBlock 49 = .ok (.bipush 10, 2) := by decide +kernel
theorem dX7_closeBlock_51 : decode cX7_closeBlock 51 = .ok (.if_icmp .ge 35, 3) := by decide +kernel
theorem dX7_closeBlock_54 : decode cX7_closeBlock 54 = .ok (.aload_n 0, 1) := by decide +kernel
theorem dX7_closeBlock_55 : decode cX7_closeBlock 55 = .ok (.getfield 15, 3) := by decide +kernel
theorem dX7_closeBlock_58 : decode cX7_closeBlock 58 = .ok (.getfield 191, 3) := by decide +kernel
theorem dX7_closeBlock_61 : decode cX7_closeBlock 61 = .ok (.aload_n 0, 1) := by decide +kernel
theorem dX7_closeBlock_62 : decode cX7_closeBlock 62 = .ok (.getfield 15, 3) := by decide +kernel
theorem dX7_closeBlock_65 : decode cX7_closeBlock 65 = .ok (.getfield 140, 3) := by decide +kernel
theorem dX7_closeBlock_68 : decode cX7_closeBlock 68 = .ok (.aload_n 0, 1) := by decide +kernel
theorem dX7_closeBlock_69 : decode cX7_closeBlock 69 = .ok (.getfield 66, 3) := by decide +kernel
theorem dX7_closeBlock_72 : decode cX7_closeBlock 72 = .ok (.iastore, 1) := by decide +kernel
theorem dX7_closeBlock_73 : decode cX7_closeBlock 73 = .ok (.aload_n 0, 1) := by decide +kernel
theorem dX7_closeBlock_74 : decode cX7_closeBlock 74 = .ok (.getfield 15, 3) := by decide +kernel
theorem dX7_closeBlock_77 : decode cX7_closeBlock 77 = .ok (.dup, 1) := by decide +kernel
theorem dX7_closeBlock_78 : decode cX7_closeBlock 78 = .ok (.getfield 140, 3) := by decide +kernel
theorem dX7_closeBlock_81 : decode cX7_closeBlock 81 = .ok (.iconst 1, 1) := by decide +kernel
theorem dX7_closeBlock_82 : decode cX7_closeBlock 82 = .ok (.iadd, 1) := by decide +kernel
theorem dX7_closeBlock_83 : decode cX7_closeBlock 83 = .ok (.putfield 140, 3) := by decide +kernel
theorem dX7_closeBlock_86 : decode cX7_closeBlock 86 = .ok (.aload_n 0, 1) := by decide +kernel
theorem dX7_closeBlock_87 : decode cX7_closeBlock 87 = .ok (.iconst 0, 1) := by decide +kernel
theorem dX7_closeBlock_88 : decode cX7_closeBlock 88 = .ok (.putfield 66, 3) := by decide +kernel
theorem dX7_closeBlock_91 : decode cX7_closeBlock 91 = .ok (.aload_n 0, 1) := by decide +kernel
theorem dX7_closeBlock_92 : decode cX7_closeBlock 92 = .ok (.iconst 0, 1) := by decide +kernel
theorem dX7_closeBlock_93 : decode cX7_closeBlock 93 = .ok (.putfield 62, 3) := by decide +kernel
theorem dX7_closeBlock_96 : decode cX7_closeBlock 96 = .ok (.goto 55, 3) := by decide +kernel
theorem dX7_closeBlock_99 : decode cX7_closeBlock 99 = .ok (.aload_n 0, 1) := by decide +kernel
theorem dX7_closeBlock_100 : decode cX7_closeBlock 100 = .ok (.getfield 78, 3) := by decide +kernel
theorem dX7_closeBlock_103 : decode cX7_closeBlock 103 = .ok (.sipush 155, 3) := by decide +kernel
theorem dX7_closeBlock_106 : decode cX7_closeBlock 106 = .ok (.if_icmp .ne 45, 3) := by decide +kernel
theorem dX7_closeBlock_109 : decode cX7_closeBlock 109 = .ok (.aload_n 0, 1) := by decide +kernel
theorem dX7_closeBlock_110 : decode cX7_closeBlock 110 = .ok (.getfield 15, 3) := by decide +kernel
theorem dX7_closeBlock_113 : decode cX7_closeBlock 113 = .ok (.iload_n 1, 1) := by decide +kernel
theorem dX7_closeBlock_114 : decode cX7_closeBlock 114 = .ok (.iconst 0, 1) := by decide +kernel
theorem dX7_closeBlock_115 : decode cX7_closeBlock 115 = .ok (.invokevirtual 194, 3) := by decide +kernel
theorem dX7_closeBlock_118 : decode cX7_closeBlock 118 = .ok (.bipush 6, 2) := by decide +kernel
theorem dX7_closeBlock_120 : decode cX7_closeBlock 120 = .ok (.if_icmp .ne 31, 3) := by decide +kernel
theorem dX7_closeBlock_123 : decode cX7_closeBlock 123 = .ok (.aload_n 0, 1) := by decide +kernel
theorem dX7_closeBlock_124 : decode cX7_closeBlock 124 = .ok (.getfield 38, 3) := by decide +kernel
theorem dX7_closeBlock_127 : decode cX7_closeBlock 127 = .ok (.aload_n 0, 1) := by decide +kernel
theorem dX7_closeBlock_128 : decode cX7_closeBlock 128 = .ok (.getfield 69, 3) := by decide +kernel
theorem dX7_closeBlock_131 : decode cX7_closeBlock 131 = .ok (.baload, 1) := by decide +kernel
theorem dX7_closeBlock_132 : decode cX7_closeBlock 132 = .ok (.ifCond .ne 19, 3) := by decide +kernel
theorem dX7_closeBlock_135 : decode cX7_closeBlock 135 = .ok (.aload_n 0, 1) := by decide +kernel
theorem dX7_closeBlock_136 : decode cX7_closeBlock 136 = .ok (.invokevirtual 72, 3) := by decide +kernel
theorem dX7_closeBlock_139 : decode cX7_closeBlock 139 = .ok (.aload_n 0, 1) := by decide +kernel
theorem dX7_closeBlock_140 : decode cX7_closeBlock 140 = .ok (.bipush 123, 2) := by decide +kernel
theorem dX7_closeBlock_142 : decode cX7_closeBlock 142 = .ok (.invokevirtual 166, 3) := by decide +kernel
theorem dX7_closeBlock_145 : decode cX7_closeBlock 145 = .ok (.aload_n 0, 1) := by decide +kernel
theorem dX7_closeBlock_146 : decode cX7_closeBlock 146 = .ok (.iload_n 1, 1) := by decide +kernel
theorem dX7_closeBlock_147 : decode cX7_closeBlock 147 = .ok (.iconst 1, 1) := by decide +kernel
theorem dX7_closeBlock_148 : decode cX7_closeBlock 148 = .ok (.invokevirtual 187, 3) := by decide +kernel
theorem dX7_closeBlock_151 : decode cX7_closeBlock 151 = .ok (.return_, 1) := by decide +kernel
def w_Pa_closeBlock_86 (C : zC) (n0 : Nat) (Q : zS → Prop) (X : zXp)  (a0 : Nat) (κ : zS) : Prop :=
  ∀ κ1, κ1 = ui κ paOwns a0 (0 : Int32) →
  ∀ _ : zW C n0 κ1,
  ∀ κ2, κ2 = ui κ1 paInside a0 (0 : Int32) →
  ∀ _ : zW C n0 κ2,
  Q κ2
theorem t_Pa_closeBlock_86 {C : zC} {n0 : Nat} {Q : zS → Prop} {X : zXp}   {a0 : Nat} {κ : zS} (W : zW C n0 κ) (Ta0 : zT κ a0 = 10) (F : w_Pa_closeBlock_86 C n0 Q X  a0 κ) : zG C n0 10 mPa_closeBlock 86 [some (.ref a0), none] [] κ (oV Q X) := by
  unfold w_Pa_closeBlock_86 at F
  refine y_aln dX7_closeBlock_86 rfl ?_
  refine y_ic dX7_closeBlock_87 zi_0 ?_
  refine pf_X7_66 W dX7_closeBlock_88 rfl (Or.inl Ta0) (fun κ1 eκ1 => ?_)
  replace F := F κ1 eκ1
  have Wκ1 : zW C n0 κ1 := zW_ui W eκ1 (fun h => absurd h (by decide))
  have Mκ1 : zM (zn κ) κ κ1 := by rw [eκ1]; exact zM.of rfl rfl rfl
  replace F := F Wκ1
  refine y_aln dX7_closeBlock_91 rfl ?_
  refine y_ic dX7_closeBlock_92 zi_0 ?_
  have h3 := (ztm W Mκ1 Ta0)
  refine pf_X7_62 Wκ1 dX7_closeBlock_93 rfl (nb_nar nb_0) (Or.inl h3) (fun κ2 eκ2 => ?_)
  replace F := F κ2 eκ2
  have Wκ2 : zW C n0 κ2 := zW_ui Wκ1 eκ2 (fun _ => nb_0)
  have Mκ2 : zM (zn κ1) κ1 κ2 := by rw [eκ2]; exact zM.of rfl rfl rfl
  replace F := F Wκ2
  refine y_goto dX7_closeBlock_96 (t := 151) rfl ?_
  exact y_rv Wκ2 dX7_closeBlock_151 rfl F

def w_Pa_closeBlock_24 (C : zC) (n0 : Nat) (Q : zS → Prop) (X : zXp)  (a0 : Nat) (s0 : Nat) (s1 : Int32) (κ : zS) : Prop :=
  ∀ κ1, κ1 = ui κ paBlocks s0 s1 →
  ∀ _ : zW C n0 κ1,
  inb (zI κ1 paBlocks a0) (zN κ1 (zR κ1 paOwners a0)) ∧
  ∀ v1_3 : Int32, v1_3 = (zA κ1 (zR κ1 paOwners a0) ((zI κ1 paBlocks a0)).toNatClampNeg) →
  (¬ v1_3 = (-1 : Int32) →
    (¬ (zI κ1 paKind a0) = (155 : Int32) →
      Q κ1) ∧
    ((zI κ1 paKind a0) = (155 : Int32) →
      ∀ _ : zT κ1 (zR κ1 paCode a0) = 5,
      zRun C 0 mCo_column [.ref (zR κ1 paCode a0), .int v1_3, .int (0 : Int32)] κ1 (oI (fun r5 κ4 =>
        ∀ _ : zW C n0 κ4,
        ∀ _ : zM (zn κ1) κ1 κ4,
        (¬ r5 = (6 : Int32) →
          Q κ4) ∧
        (r5 = (6 : Int32) →
          inb (zI κ4 paBlocks a0) (zN κ4 (zR κ4 paElses a0)) ∧
          (¬ (zA κ4 (zR κ4 paElses a0) ((zI κ4 paBlocks a0)).toNatClampNeg) = (0 : Int32) →
            Q κ4) ∧
          ((zA κ4 (zR κ4 paElses a0) ((zI κ4 paBlocks a0)).toNatClampNeg) = (0 : Int32) →
            ∀ _ : zT κ4 a0 = 10,
            zRun C 0 mPa_take [.ref a0] κ4 (oV (fun κ8 =>
              ∀ _ : zW C n0 κ8,
              ∀ _ : zM (zn κ4) κ4 κ8,
              ∀ _ : zT κ8 a0 = 10,
              zRun C 9 mPa_openSign [.ref a0, .int (123 : Int32)] κ8 (oV (fun κ11 =>
                ∀ _ : zW C n0 κ11,
                ∀ _ : zM (zn κ8) κ8 κ11,
                ∀ _ : zT κ11 a0 = 10,
                zRun C 0 mPa_pushBlock [.ref a0, .int v1_3, .int (1 : Int32)] κ11 (oV (fun κ15 =>
                  ∀ _ : zW C n0 κ15,
                  ∀ _ : zM (zn κ11) κ11 κ15,
                  Q κ15) noX)) X)) noX)))) noX))) ∧
  (v1_3 = (-1 : Int32) →
    ((10 : Int32) ≤ (zI κ1 coFunctions (zR κ1 paCode a0)) →
      w_Pa_closeBlock_86 C n0 Q X  a0 κ1) ∧
    (¬ (10 : Int32) ≤ (zI κ1 coFunctions (zR κ1 paCode a0)) →
      inb (zI κ1 coFunctions (zR κ1 paCode a0)) (zN κ1 (zR κ1 coOwnCounts (zR κ1 paCode a0))) ∧
      ∀ κ19, κ19 = ua κ1 (zR κ1 coOwnCounts (zR κ1 paCode a0)) ((zI κ1 coFunctions (zR κ1 paCode a0))).toNatClampNeg (zI κ1 paOwns a0) →
      ∀ _ : zW C n0 κ19,
      ∀ κ21, κ21 = ui κ19 coFunctions (zR κ19 paCode a0) ((zI κ19 coFunctions (zR κ19 paCode a0)) + (1 : Int32)) →
      ∀ _ : zW C n0 κ21,
      w_Pa_closeBlock_86 C n0 Q X  a0 κ21))
theorem t_Pa_closeBlock_24 {C : zC} {n0 : Nat} {Q : zS → Prop} {X : zXp}   {a0 : Nat} {s0 : Nat} {s1 : Int32} {κ : zS} (W : zW C n0 κ) (Ta0 : zT κ a0 = 10) (Ts0 : zT κ s0 = 10) (F : w_Pa_closeBlock_24 C n0 Q X  a0 s0 s1 κ) : zG C n0 10 mPa_closeBlock 24 [some (.ref a0), none] [.int s1, .ref s0] κ (oV Q X) := by
  unfold w_Pa_closeBlock_24 at F
  refine pf_X7_69 W dX7_closeBlock_24 rfl (Or.inl Ts0) (fun κ1 eκ1 => ?_)
  replace F := F κ1 eκ1
  have Wκ1 : zW C n0 κ1 := zW_ui W eκ1 (fun h => absurd h (by decide))
  have Mκ1 : zM (zn κ) κ κ1 := by rw [eκ1]; exact zM.of rfl rfl rfl
  replace F := F Wκ1
  refine y_aln dX7_closeBlock_27 rfl ?_
  have h2 := (ztm W Mκ1 Ta0)
  refine gf_X7_32 Wκ1 dX7_closeBlock_28 rfl h2 ?_
  refine y_aln dX7_closeBlock_31 rfl ?_
  refine gf_X7_69 dX7_closeBlock_32 rfl (Or.inl h2) ?_
  refine y_ald dX7_closeBlock_35 (ty_paOwners Wκ1 h2) F.1 ?_
  replace F := F.2
  refine y_isnb dX7_closeBlock_36 (Nat.le_of_ble_eq_true rfl) (fun v1_3 ev1_3 => ?_)
  replace F := F v1_3 ev1_3
  show zG _ _ _ _ _ [some (.ref a0), some (.int v1_3)] _ _ _
  refine y_iln dX7_closeBlock_37 rfl ?_
  refine y_ic dX7_closeBlock_38 zi_m1 ?_
  refine y_iin (v1_3 = (-1 : Int32)) dX7_closeBlock_39 (t := 99) rfl rfl (fun c9 => ?_) (fun c9 => ?_)
  · replace F := F.1 c9
    refine y_aln dX7_closeBlock_99 rfl ?_
    refine gf_X7_78 dX7_closeBlock_100 rfl (Or.inl h2) ?_
    refine y_si dX7_closeBlock_103 zs_155 ?_
    refine y_iin ((zI κ1 paKind a0) = (155 : Int32)) dX7_closeBlock_106 (t := 151) rfl rfl (fun c9 => ?_) (fun c9 => ?_)
    · replace F := F.1 c9
      exact y_rv Wκ1 dX7_closeBlock_151 rfl F
    · replace F := F.2 c9
      refine y_aln dX7_closeBlock_109 rfl ?_
      refine gf_X7_15 Wκ1 dX7_closeBlock_110 rfl h2 ?_
      refine y_iln dX7_closeBlock_113 rfl ?_
      refine y_ic dX7_closeBlock_114 zi_0 ?_
      replace F := F (ty_paCode Wκ1 h2)
      refine k_X7_194 Wκ1 dX7_closeBlock_115 rfl (Nat.le_of_ble_eq_true rfl) (Nat.le_of_ble_eq_true rfl) (Or.inl (ty_paCode Wκ1 h2)) F (fun r5 κ4 Wκ4 Mκ4 F => ?_) (fun _ _ h9 => False.elim h9)
      replace F := F Wκ4 Mκ4
      refine y_bi1 dX7_closeBlock_118 zb_6 ?_
      refine y_iin (r5 = (6 : Int32)) dX7_closeBlock_120 (t := 151) rfl rfl (fun c9 => ?_) (fun c9 => ?_)
      · replace F := F.1 c9
        exact y_rv Wκ4 dX7_closeBlock_151 rfl F
      · replace F := F.2 c9
        refine y_aln dX7_closeBlock_123 rfl ?_
        have h7 := (ztm Wκ1 Mκ4 h2)
        refine gf_X7_38 Wκ4 dX7_closeBlock_124 rfl h7 ?_
        refine y_aln dX7_closeBlock_127 rfl ?_
        refine gf_X7_69 dX7_closeBlock_128 rfl (Or.inl h7) ?_
        refine y_zld dX7_closeBlock_131 (ty_paElses Wκ4 h7) F.1 ?_
        replace F := F.2
        refine y_in ((zA κ4 (zR κ4 paElses a0) ((zI κ4 paBlocks a0)).toNatClampNeg) = (0 : Int32)) dX7_closeBlock_132 (t := 151) rfl rfl (fun c9 => ?_) (fun c9 => ?_)
        · replace F := F.1 c9
          exact y_rv Wκ4 dX7_closeBlock_151 rfl F
        · replace F := F.2 c9
          refine y_aln dX7_closeBlock_135 rfl ?_
          replace F := F h7
          refine k_X7_72 Wκ4 dX7_closeBlock_136 rfl (Nat.le_of_ble_eq_true rfl) (Nat.le_of_ble_eq_true rfl) (Or.inl h7) F (fun  κ8 Wκ8 Mκ8 F => ?_) (fun _ _ h9 => False.elim h9)
          replace F := F Wκ8 Mκ8
          refine y_aln dX7_closeBlock_139 rfl ?_
          refine y_bi1 dX7_closeBlock_140 zb_123 ?_
          have h13 := (ztm Wκ4 Mκ8 h7)
          replace F := F h13
          refine k_X7_166 Wκ8 dX7_closeBlock_142 rfl (Nat.le_of_ble_eq_true rfl) (Nat.le_of_ble_eq_true rfl) (Or.inl h13) F (fun  κ11 Wκ11 Mκ11 F => ?_) (fun cls9 κ9 h9 => Or.inr ⟨_, rfl, h9⟩)
          replace F := F Wκ11 Mκ11
          refine y_aln dX7_closeBlock_145 rfl ?_
          refine y_iln dX7_closeBlock_146 rfl ?_
          refine y_ic dX7_closeBlock_147 zi_1 ?_
          have h17 := (ztm Wκ8 Mκ11 h13)
          replace F := F h17
          refine k_X7_187 Wκ11 dX7_closeBlock_148 rfl (Nat.le_of_ble_eq_true rfl) (Nat.le_of_ble_eq_true rfl) (Or.inl h17) F (fun  κ15 Wκ15 Mκ15 F => ?_) (fun _ _ h9 => False.elim h9)
          replace F := F Wκ15 Mκ15
          exact y_rv Wκ15 dX7_closeBlock_151 rfl F
  · replace F := F.2 c9
    refine y_aln dX7_closeBlock_42 rfl ?_
    refine gf_X7_15 Wκ1 dX7_closeBlock_43 rfl h2 ?_
    refine gf_X7_140 dX7_closeBlock_46 rfl (Or.inl (ty_paCode Wκ1 h2)) ?_
    refine y_bi1 dX7_closeBlock_49 zb_10 ?_
    refine y_ii ((10 : Int32) ≤ (zI κ1 coFunctions (zR κ1 paCode a0))) dX7_closeBlock_51 (t := 86) rfl rfl (fun c9 => ?_) (fun c9 => ?_)
    · replace F := F.1 c9
      exact y_k (t_Pa_closeBlock_86  Wκ1 h2 F) ⟨rfl, trivial⟩
    · replace F := F.2 c9
      refine y_aln dX7_closeBlock_54 rfl ?_
      refine gf_X7_15 Wκ1 dX7_closeBlock_55 rfl h2 ?_
      refine gf_X7_191 Wκ1 dX7_closeBlock_58 rfl (ty_paCode Wκ1 h2) ?_
      refine y_aln dX7_closeBlock_61 rfl ?_
      refine gf_X7_15 Wκ1 dX7_closeBlock_62 rfl h2 ?_
      refine gf_X7_140 dX7_closeBlock_65 rfl (Or.inl (ty_paCode Wκ1 h2)) ?_
      refine y_aln dX7_closeBlock_68 rfl ?_
      refine gf_X7_66 dX7_closeBlock_69 rfl (Or.inl h2) ?_
      refine y_ast Wκ1 dX7_closeBlock_72 (ty_coOwnCounts Wκ1 (ty_paCode Wκ1 h2)) F.1 (fun κ19 eκ19 => ?_)
      replace F := F.2 κ19 eκ19
      have Wκ19 : zW C n0 κ19 := zW_ua Wκ1 eκ19 (fun h => absurd (h.symm.trans (ty_coOwnCounts Wκ1 (ty_paCode Wκ1 h2))) (by decide)) (fun h => absurd (h.symm.trans (ty_coOwnCounts Wκ1 (ty_paCode Wκ1 h2))) (by decide))
      have Mκ19 : zM (zn κ1) κ1 κ19 := by rw [eκ19]; exact zM.of rfl rfl rfl
      replace F := F Wκ19
      refine y_aln dX7_closeBlock_73 rfl ?_
      have h20 := (ztm Wκ1 Mκ19 h2)
      refine gf_X7_15 Wκ19 dX7_closeBlock_74 rfl h20 ?_
      refine y_dup dX7_closeBlock_77 rfl ?_
      refine gf_X7_140 dX7_closeBlock_78 rfl (Or.inl (ty_paCode Wκ19 h20)) ?_
      refine y_ic dX7_closeBlock_81 zi_1 ?_
      refine y_iadd dX7_closeBlock_82 ?_
      refine pf_X7_140 Wκ19 dX7_closeBlock_83 rfl (Or.inl (ty_paCode Wκ19 h20)) (fun κ21 eκ21 => ?_)
      replace F := F κ21 eκ21
      have Wκ21 : zW C n0 κ21 := zW_ui Wκ19 eκ21 (fun h => absurd h (by decide))
      have Mκ21 : zM (zn κ19) κ19 κ21 := by rw [eκ21]; exact zM.of rfl rfl rfl
      replace F := F Wκ21
      have h22 := (ztm Wκ19 Mκ21 h20)
      exact y_k (t_Pa_closeBlock_86  Wκ21 h22 F) ⟨rfl, trivial⟩

def w_Pa_closeBlock_0 (C : zC) (n0 : Nat) (Q : zS → Prop) (X : zXp)  (a0 : Nat) (κ : zS) : Prop :=
  ∀ _ : zT κ a0 = 10,
  zRun C 9 mPa_closeSign [.ref a0, .int (125 : Int32)] κ (oV (fun κ1 =>
    ∀ _ : zW C n0 κ1,
    ∀ _ : zM (zn κ) κ κ1,
    ((zI κ1 paBlocks a0) ≤ (0 : Int32) →
      w_Pa_closeBlock_24 C n0 Q X  a0 a0 (0 : Int32) κ1) ∧
    (¬ (zI κ1 paBlocks a0) ≤ (0 : Int32) →
      w_Pa_closeBlock_24 C n0 Q X  a0 a0 ((zI κ1 paBlocks a0) - (1 : Int32)) κ1)) X)
theorem t_Pa_closeBlock_0 {C : zC} {n0 : Nat} {Q : zS → Prop} {X : zXp}   {a0 : Nat} {κ : zS} (W : zW C n0 κ) (Ta0 : zT κ a0 = 10) (F : w_Pa_closeBlock_0 C n0 Q X  a0 κ) : zG C n0 10 mPa_closeBlock 0 [some (.ref a0), none] [] κ (oV Q X) := by
  unfold w_Pa_closeBlock_0 at F
  refine y_aln dX7_closeBlock_0 rfl ?_
  refine y_bi1 dX7_closeBlock_1 zb_125 ?_
  replace F := F Ta0
  refine k_X7_169 W dX7_closeBlock_3 rfl (Nat.le_of_ble_eq_true rfl) (Nat.le_of_ble_eq_true rfl) (Or.inl Ta0) F (fun  κ1 Wκ1 Mκ1 F => ?_) (fun cls9 κ9 h9 => Or.inr ⟨_, rfl, h9⟩)
  replace F := F Wκ1 Mκ1
  refine y_aln dX7_closeBlock_6 rfl ?_
  refine y_aln dX7_closeBlock_7 rfl ?_
  have h4 := (ztm W Mκ1 Ta0)
  refine gf_X7_69 dX7_closeBlock_8 rfl (Or.inl h4) ?_
  refine y_i ((zI κ1 paBlocks a0) ≤ (0 : Int32)) dX7_closeBlock_11 (t := 23) rfl rfl (fun c9 => ?_) (fun c9 => ?_)
  · replace F := F.1 c9
    refine y_ic dX7_closeBlock_23 zi_0 ?_
    exact y_k (t_Pa_closeBlock_24  Wκ1 h4 h4 F) ⟨rfl, trivial⟩
  · replace F := F.2 c9
    refine y_aln dX7_closeBlock_14 rfl ?_
    refine gf_X7_69 dX7_closeBlock_15 rfl (Or.inl h4) ?_
    refine y_ic dX7_closeBlock_18 zi_1 ?_
    refine y_isub dX7_closeBlock_19 ?_
    refine y_goto dX7_closeBlock_20 (t := 24) rfl ?_
    exact y_k (t_Pa_closeBlock_24  Wκ1 h4 h4 F) ⟨rfl, trivial⟩

theorem Pa_closeBlock_run {C : zC} {n0 : Nat} {Q : zS → Prop} {X : zXp} {a0 : Nat} {κ : zS} (W : zW C n0 κ) (Ta0 : zT κ a0 = 10) (F : w_Pa_closeBlock_0 C (zn κ) Q X a0 κ) : zRun C 10 mPa_closeBlock [.ref a0] κ (oV Q X) := z_run (m_ent _ 1) (t_Pa_closeBlock_0 (W.lo (Nat.le_trans W.1.2.1 W.1.2.2) (Nat.le_refl _)) Ta0 F)

