/-! methods of the class: Pa_read, Ra_init, Ra_putOne, Ra_fits, Ra_scale, Ra_addWhole, So_init, So_fresh, So_comesIn, So_joinInflow, So_sumInflow -/
theorem dX7_read_0 : decode cX7_read 0 = .ok (.aload_n 0, 1) := by decide +kernel
theorem dX7_read_1 : decode cX7_read 1 = .ok (.getfield 9, 3) := by decide +kernel
theorem dX7_read_4 : decode cX7_read 4 = .ok (.invokevirtual 45, 3) := by decide +kernel
theorem dX7_read_7 : decode cX7_read 7 = .ok (.aload_n 0, 1) := by decide +kernel
theorem dX7_read_8 : decode cX7_read 8 = .ok (.aload_n 1, 1) := by decide +kernel
theorem dX7_read_9 : decode cX7_read 9 = .ok (.putfield 15, 3) := by decide +kernel
theorem dX7_read_12 : decode cX7_read 12 = .ok (.aload_n 0, 1) := by decide +kernel
theorem dX7_read_13 : decode cX7_read 13 = .ok (.getfield 15, 3) := by decide +kernel
theorem dX7_read_16 : decode cX7_read 16 = .ok (.invokevirtual 50, 3) := by decide +kernel
theorem dX7_read_19 : decode cX7_read 19 = .ok (.aload_n 0, 1) := by decide +kernel
theorem dX7_read_20 : decode cX7_read 20 = .ok (.iconst (-1), 1) := by decide +kernel
theorem dX7_read_21 : decode cX7_read 21 = .ok (.putfield 55, 3) := by decide +kernel
theorem dX7_read_24 : decode cX7_read 24 = .ok (.aload_n 0, 1) := by decide +kernel
theorem dX7_read_25 : decode cX7_read 25 = .ok (.iconst 0, 1) := by decide +kernel
theorem dX7_read_26 : decode cX7_read 26 = .ok (.putfield 59, 3) := by decide +kernel
theorem dX7_read_29 : decode cX7_read 29 = .ok (.aload_n 0, 1) := by decide +kernel
theorem dX7_read_30 : decode cX7_read 30 = .ok (.iconst 0, 1) := by decide +kernel
theorem dX7_read_31 : decode cX7_read 31 = .ok (.putfield 62, 3) := by decide +kernel
theorem dX7_read_34 : decode cX7_read 34 = .ok (.aload_n 0, 1) := by decide +kernel
theorem dX7_read_35 : decode cX7_read 35 = .ok (.iconst 0, 1) := by decide +kernel
theorem dX7_read_36 : decode cX7_read 36 = .ok (.putfield 66, 3) := by decide +kernel
theorem dX7_read_39 : decode cX7_read 39 = .ok (.aload_n 0, 1) := by decide +kernel
theorem dX7_read_40 : decode cX7_read 40 = .ok (.iconst 0, 1) := by decide +kernel
theorem dX7_read_41 : decode cX7_read 41 = .ok (.putfield 69, 3) := by decide +kernel
theorem dX7_read_44 : decode cX7_read 44 = .ok (.aload_n 0, 1) := by decide +kernel
theorem dX7_read_45 : decode cX7_read 45 = .ok (.invokevirtual 72, 3) := by decide +kernel
theorem dX7_read_48 : decode cX7_read 48 = .ok (.iconst 0, 1) := by decide +kernel
theorem dX7_read_49 : decode cX7_read 49 = .ok (.istore_n 2, 1) := by decide +kernel
theorem dX7_read_50 : decode cX7_read 50 = .ok (.iload_n 2, 1) := by decide +kernel
theorem dX7_read_51 : decode cX7_read 51 = .ok (.aload_n 0, 1) := by decide +kernel
theorem dX7_read_52 : decode cX7_read 52 = .ok (.getfield 9, 3) := by decide +kernel
theorem dX7_read_55 : decode cX7_read 55 = .ok (.getfield 75, 3) := by decide +kernel
theorem dX7_read_58 : decode cX7_read 58 = .ok (.if_icmp .gt 64, 3) := by decide +kernel
theorem dX7_read_61 : decode cX7_read 61 = .ok (.aload_n 0, 1) := by decide +kernel
theorem dX7_read_62 : decode cX7_read 62 = .ok (.getfield 62, 3) := by decide +kernel
theorem dX7_read_65 : decode cX7_read 65 = .ok (.ifCond .ne 13, 3) := by decide +kernel
theorem dX7_read_68 : decode cX7_read 68 = .ok (.aload_n 0, 1) := by decide +kernel
theorem dX7_read_69 : decode cX7_read 69 = .ok (.getfield 78, 3) := by decide +kernel
theorem dX7_read_72 : decode cX7_read 72 = .ok (.sipush 142, 3) := by decide +kernel
theorem dX7_read_75 : decode cX7_read 75 = .ok (.if_icmp .eq 47, 3) := by decide +kernel
theorem dX7_read_78 : decode cX7_read 78 = .ok (.aload_n 0, 1) := by decide +kernel
theorem dX7_read_79 : decode cX7_read 79 = .ok (.getfield 62, 3) := by decide +kernel
theorem dX7_read_82 : decode cX7_read 82 = .ok (.ifCond .ne 10, 3) := by decide +kernel
theorem dX7_read_85 : decode cX7_read 85 = .ok (.aload_n 0, 1) := by decide +kernel
theorem dX7_read_86 : decode cX7_read 86 = .ok (.invokevirtual 81, 3) := by decide +kernel
theorem dX7_read_89 : decode cX7_read 89 = .ok (.goto 27, 3) := by decide +kernel
theorem dX7_read_92 : decode cX7_read 92 = .ok (.aload_n 0, 1) := by decide +kernel
theorem dX7_read_93 : decode cX7_read 93 = .ok (.getfield 78, 3) := by decide +kernel
theorem dX7_read_96 : decode cX7_read 96 = .ok (.bipush 125, 2) := by decide +kernel
theorem dX7_read_98 : decode cX7_read 98 = .ok (.if_icmp .ne 10, 3) := by decide +kernel
theorem dX7_read_101 : decode cX7_read 101 = .ok (.aload_n 0, 1) := by decide +kernel
theorem dX7_read_102 : decode cX7_read 102 = .ok (.invokevirtual 84, 3) := by decide +kernel
theorem dX7_read_105 : decode cX7_read 105 = .ok (.goto 11, 3) := by decide +kernel
theorem dX7_read_108 : decode cX7_read 108 = .ok (.aload_n 0, 1) := by decide +kernel
theorem dX7_read_109 : decode cX7_read 109 = .ok (.aload_n 0, 1) := by decide +kernel
theorem dX7_read_110 : decode cX7_read 110 = .ok (.invokevirtual 87, 3) := by decide +kernel
theorem dX7_read_113 : decode cX7_read 113 = .ok (.invokevirtual 91, 3) := by decide +kernel
theorem dX7_read_116 : decode cX7_read 116 = .ok (.iinc 2 1, 3) := by decide +kernel
theorem dX7_read_119 : decode cX7_read 119 = .ok (.goto (-69), 3) := by decide +kernel
theorem dX7_read_122 : decode cX7_read 122 = .ok (.aload_n 0, 1) := by decide +kernel
theorem dX7_read_123 : decode cX7_read 123 = .ok (.invokevirtual 95, 3) := by decide +kernel
theorem dX7_read_126 : decode cX7_read 126 = .ok (.aload_n 0, 1) := by decide +kernel
theorem dX7_read_127 : decode cX7_read 127 = .ok (.getfield 15, 3) := by decide +kernel
theorem dX7_read_130 : decode cX7_read 130 = .ok (.invokevirtual 98, 3) := by decide +kernel
theorem dX7_read_133 : decode cX7_read 133 = .ok (.return_, 1) := by decide +kernel
def w_Pa_read_78 (C : zC) (n0 : Nat) (Q : zS → Prop) (X : zXp) (B50 : Nat → Int32 → zS → Prop) (a0 : Nat) (a2 : Int32) (κ : zS) : Prop :=
  (¬ (zI κ paInside a0) = (0 : Int32) →
    (¬ (zI κ paKind a0) = (125 : Int32) →
      ∀ _ : zT κ a0 = 10,
      zRun C 9 mPa_addStatement [.ref a0] κ (oI (fun r2 κ1 =>
        ∀ _ : zW C n0 κ1,
        ∀ _ : zM (zn κ) κ κ1,
        ∀ _ : zT κ1 a0 = 10,
        zRun C 13 mPa_statement [.ref a0, .int r2] κ1 (oV (fun κ4 =>
          ∀ _ : zW C n0 κ4,
          ∀ _ : zM (zn κ1) κ1 κ4,
          ∀ v2_8 : Int32, v2_8 = a2 + (1 : Int32) →
          B50 a0 v2_8 κ4) X)) X)) ∧
    ((zI κ paKind a0) = (125 : Int32) →
      ∀ _ : zT κ a0 = 10,
      zRun C 10 mPa_closeBlock [.ref a0] κ (oV (fun κ10 =>
        ∀ _ : zW C n0 κ10,
        ∀ _ : zM (zn κ) κ κ10,
        ∀ v2_13 : Int32, v2_13 = a2 + (1 : Int32) →
        B50 a0 v2_13 κ10) X))) ∧
  ((zI κ paInside a0) = (0 : Int32) →
    ∀ _ : zT κ a0 = 10,
    zRun C 12 mPa_item [.ref a0] κ (oV (fun κ15 =>
      ∀ _ : zW C n0 κ15,
      ∀ _ : zM (zn κ) κ κ15,
      ∀ v2_18 : Int32, v2_18 = a2 + (1 : Int32) →
      B50 a0 v2_18 κ15) X))
theorem t_Pa_read_78 {C : zC} {n0 : Nat} {Q : zS → Prop} {X : zXp} {B50 : Nat → Int32 → zS → Prop} (hB50 : ∀ a0' a2' τ, zW C n0 τ → zT τ a0' = 10 → B50 a0' a2' τ → zG C n0 14 mPa_read 50 [some (.ref a0'), none, some (.int a2')] [] τ (oV Q X)) {a0 : Nat} {a2 : Int32} {κ : zS} (W : zW C n0 κ) (Ta0 : zT κ a0 = 10) (F : w_Pa_read_78 C n0 Q X B50 a0 a2 κ) : zG C n0 14 mPa_read 78 [some (.ref a0), none, some (.int a2)] [] κ (oV Q X) := by
  unfold w_Pa_read_78 at F
  refine y_aln dX7_read_78 rfl ?_
  refine gf_X7_62 dX7_read_79 rfl (Or.inl Ta0) ?_
  refine y_in ((zI κ paInside a0) = (0 : Int32)) dX7_read_82 (t := 92) rfl rfl (fun c9 => ?_) (fun c9 => ?_)
  · replace F := F.1 c9
    refine y_aln dX7_read_92 rfl ?_
    refine gf_X7_78 dX7_read_93 rfl (Or.inl Ta0) ?_
    refine y_bi1 dX7_read_96 zb_125 ?_
    refine y_iin ((zI κ paKind a0) = (125 : Int32)) dX7_read_98 (t := 108) rfl rfl (fun c9 => ?_) (fun c9 => ?_)
    · replace F := F.1 c9
      refine y_aln dX7_read_108 rfl ?_
      refine y_aln dX7_read_109 rfl ?_
      replace F := F Ta0
      refine k_X7_87 W dX7_read_110 rfl (Nat.le_of_ble_eq_true rfl) (Nat.le_of_ble_eq_true rfl) (Or.inl Ta0) F (fun r2 κ1 Wκ1 Mκ1 F => ?_) (fun cls9 κ9 h9 => Or.inr ⟨_, rfl, h9⟩)
      replace F := F Wκ1 Mκ1
      have h6 := (ztm W Mκ1 Ta0)
      replace F := F h6
      refine k_X7_91 Wκ1 dX7_read_113 rfl (Nat.le_of_ble_eq_true rfl) (Nat.le_of_ble_eq_true rfl) (Or.inl h6) F (fun  κ4 Wκ4 Mκ4 F => ?_) (fun cls9 κ9 h9 => Or.inr ⟨_, rfl, h9⟩)
      replace F := F Wκ4 Mκ4
      refine y_incb dX7_read_116 zi_1 rfl (Nat.le_of_ble_eq_true rfl) (fun v2_8 ev2_8 => ?_)
      replace F := F v2_8 ev2_8
      show zG _ _ _ _ _ [some (.ref a0), none, some (.int v2_8)] _ _ _
      refine y_goto dX7_read_119 (t := 50) rfl ?_
      have h9 := (ztm Wκ1 Mκ4 h6)
      exact y_k (hB50 _ _ _ Wκ4 h9 F) ⟨rfl, rfl, trivial⟩
    · replace F := F.2 c9
      refine y_aln dX7_read_101 rfl ?_
      replace F := F Ta0
      refine k_X7_84 W dX7_read_102 rfl (Nat.le_of_ble_eq_true rfl) (Nat.le_of_ble_eq_true rfl) (Or.inl Ta0) F (fun  κ10 Wκ10 Mκ10 F => ?_) (fun cls9 κ9 h9 => Or.inr ⟨_, rfl, h9⟩)
      replace F := F Wκ10 Mκ10
      refine y_goto dX7_read_105 (t := 116) rfl ?_
      refine y_incb dX7_read_116 zi_1 rfl (Nat.le_of_ble_eq_true rfl) (fun v2_13 ev2_13 => ?_)
      replace F := F v2_13 ev2_13
      show zG _ _ _ _ _ [some (.ref a0), none, some (.int v2_13)] _ _ _
      refine y_goto dX7_read_119 (t := 50) rfl ?_
      have h14 := (ztm W Mκ10 Ta0)
      exact y_k (hB50 _ _ _ Wκ10 h14 F) ⟨rfl, rfl, trivial⟩
  · replace F := F.2 c9
    refine y_aln dX7_read_85 rfl ?_
    replace F := F Ta0
    refine k_X7_81 W dX7_read_86 rfl (Nat.le_of_ble_eq_true rfl) (Nat.le_of_ble_eq_true rfl) (Or.inl Ta0) F (fun  κ15 Wκ15 Mκ15 F => ?_) (fun cls9 κ9 h9 => Or.inr ⟨_, rfl, h9⟩)
    replace F := F Wκ15 Mκ15
    refine y_goto dX7_read_89 (t := 116) rfl ?_
    refine y_incb dX7_read_116 zi_1 rfl (Nat.le_of_ble_eq_true rfl) (fun v2_18 ev2_18 => ?_)
    replace F := F v2_18 ev2_18
    show zG _ _ _ _ _ [some (.ref a0), none, some (.int v2_18)] _ _ _
    refine y_goto dX7_read_119 (t := 50) rfl ?_
    have h19 := (ztm W Mκ15 Ta0)
    exact y_k (hB50 _ _ _ Wκ15 h19 F) ⟨rfl, rfl, trivial⟩

def w_Pa_read_122 (C : zC) (n0 : Nat) (Q : zS → Prop) (X : zXp)  (a0 : Nat) (κ : zS) : Prop :=
  ∀ _ : zT κ a0 = 10,
  zRun C 12 mPa_findCalled [.ref a0] κ (oV (fun κ1 =>
    ∀ _ : zW C n0 κ1,
    ∀ _ : zM (zn κ) κ κ1,
    ∀ _ : zT κ1 (zR κ1 paCode a0) = 5,
    zRun C 1 mCo_linkFollows [.ref (zR κ1 paCode a0)] κ1 (oV (fun κ5 =>
      ∀ _ : zW C n0 κ5,
      ∀ _ : zM (zn κ1) κ1 κ5,
      Q κ5) noX)) X)
theorem t_Pa_read_122 {C : zC} {n0 : Nat} {Q : zS → Prop} {X : zXp}   {a0 : Nat} {κ : zS} (W : zW C n0 κ) (Ta0 : zT κ a0 = 10) (F : w_Pa_read_122 C n0 Q X  a0 κ) : zG C n0 14 mPa_read 122 [some (.ref a0), none, none] [] κ (oV Q X) := by
  unfold w_Pa_read_122 at F
  refine y_aln dX7_read_122 rfl ?_
  replace F := F Ta0
  refine k_X7_95 W dX7_read_123 rfl (Nat.le_of_ble_eq_true rfl) (Nat.le_of_ble_eq_true rfl) (Or.inl Ta0) F (fun  κ1 Wκ1 Mκ1 F => ?_) (fun cls9 κ9 h9 => Or.inr ⟨_, rfl, h9⟩)
  replace F := F Wκ1 Mκ1
  refine y_aln dX7_read_126 rfl ?_
  have h4 := (ztm W Mκ1 Ta0)
  refine gf_X7_15 Wκ1 dX7_read_127 rfl h4 ?_
  replace F := F (ty_paCode Wκ1 h4)
  refine k_X7_98 Wκ1 dX7_read_130 rfl (Nat.le_of_ble_eq_true rfl) (Nat.le_of_ble_eq_true rfl) (Or.inl (ty_paCode Wκ1 h4)) F (fun  κ5 Wκ5 Mκ5 F => ?_) (fun _ _ h9 => False.elim h9)
  replace F := F Wκ5 Mκ5
  exact y_rv Wκ5 dX7_read_133 rfl F

def w_Pa_read_50 (C : zC) (n0 : Nat) (Q : zS → Prop) (X : zXp)  (a0 : Nat) (a2 : Int32) (κ : zS) : Prop :=
  ∃ I : Nat → Nat → Int32 → zS → Prop, (∃ n, I n a0 a2 κ) ∧ ∀ n a0 a2 κ, zW C n0 κ → zT κ a0 = 10 → I n a0 a2 κ →
    ((zI κ taTotal (zR κ paTape a0)) < a2 →
      w_Pa_read_122 C n0 Q X  a0 κ) ∧
    (¬ (zI κ taTotal (zR κ paTape a0)) < a2 →
      (¬ (zI κ paInside a0) = (0 : Int32) →
        w_Pa_read_78 C n0 Q X (fun a0' a2' τ => ∃ k < n, I k a0' a2' τ) a0 a2 κ) ∧
      ((zI κ paInside a0) = (0 : Int32) →
        ((zI κ paKind a0) = (142 : Int32) →
          w_Pa_read_122 C n0 Q X  a0 κ) ∧
        (¬ (zI κ paKind a0) = (142 : Int32) →
          w_Pa_read_78 C n0 Q X (fun a0' a2' τ => ∃ k < n, I k a0' a2' τ) a0 a2 κ)))
theorem t_Pa_read_50 {C : zC} {n0 : Nat} {Q : zS → Prop} {X : zXp}   {a0 : Nat} {a2 : Int32} {κ : zS} (W : zW C n0 κ) (Ta0 : zT κ a0 = 10) (F : w_Pa_read_50 C n0 Q X  a0 a2 κ) : zG C n0 14 mPa_read 50 [some (.ref a0), none, some (.int a2)] [] κ (oV Q X) := by
  obtain ⟨I, ⟨m0, hI0⟩, F0⟩ := F
  have key : ∀ n a0 a2 κ, zW C n0 κ → zT κ a0 = 10 → I n a0 a2 κ → zG C n0 14 mPa_read 50 [some (.ref a0), none, some (.int a2)] [] κ (oV Q X) := by
    intro n
    induction n using Nat.strongRecOn with
    | _ n ih =>
      intro a0 a2 κ W Ta0 hI
      have F := F0 n a0 a2 κ W Ta0 hI
      clear hI hI0
      refine y_iln dX7_read_50 rfl ?_
      refine y_aln dX7_read_51 rfl ?_
      refine gf_X7_9 W dX7_read_52 rfl Ta0 ?_
      refine gf_X7_75 dX7_read_55 rfl (Or.inl (ty_paTape W Ta0)) ?_
      refine y_ii ((zI κ taTotal (zR κ paTape a0)) < a2) dX7_read_58 (t := 122) rfl rfl (fun c9 => ?_) (fun c9 => ?_)
      · replace F := F.1 c9
        exact y_k (t_Pa_read_122  W Ta0 F) ⟨rfl, trivial⟩
      · replace F := F.2 c9
        refine y_aln dX7_read_61 rfl ?_
        refine gf_X7_62 dX7_read_62 rfl (Or.inl Ta0) ?_
        refine y_in ((zI κ paInside a0) = (0 : Int32)) dX7_read_65 (t := 78) rfl rfl (fun c9 => ?_) (fun c9 => ?_)
        · replace F := F.1 c9
          exact y_k (t_Pa_read_78 (fun a0' a2' τ w9 f09 hb => by obtain ⟨k, hk, hI⟩ := hb; exact ih k hk a0' a2' τ w9 f09 hI) W Ta0 F) ⟨rfl, rfl, trivial⟩
        · replace F := F.2 c9
          refine y_aln dX7_read_68 rfl ?_
          refine gf_X7_78 dX7_read_69 rfl (Or.inl Ta0) ?_
          refine y_si dX7_read_72 zs_142 ?_
          refine y_ii ((zI κ paKind a0) = (142 : Int32)) dX7_read_75 (t := 122) rfl rfl (fun c9 => ?_) (fun c9 => ?_)
          · replace F := F.1 c9
            exact y_k (t_Pa_read_122  W Ta0 F) ⟨rfl, trivial⟩
          · replace F := F.2 c9
            exact y_k (t_Pa_read_78 (fun a0' a2' τ w9 f09 hb => by obtain ⟨k, hk, hI⟩ := hb; exact ih k hk a0' a2' τ w9 f09 hI) W Ta0 F) ⟨rfl, rfl, trivial⟩
  exact key m0 a0 a2 κ W Ta0 hI0

def w_Pa_read_0 (C : zC) (n0 : Nat) (Q : zS → Prop) (X : zXp)  (a0 : Nat) (a1 : Nat) (κ : zS) : Prop :=
  ∀ _ : zT κ (zR κ paTape a0) = 13,
  zRun C 13 mTa_split [.ref (zR κ paTape a0)] κ (oV (fun κ1 =>
    ∀ _ : zW C n0 κ1,
    ∀ _ : zM (zn κ) κ κ1,
    ∀ κ4, κ4 = ur κ1 paCode a0 a1 →
    ∀ _ : zW C n0 κ4,
    ∀ _ : zT κ4 (zR κ4 paCode a0) = 5,
    zRun C 1 mCo_clear [.ref (zR κ4 paCode a0)] κ4 (oV (fun κ8 =>
      ∀ _ : zW C n0 κ8,
      ∀ _ : zM (zn κ4) κ4 κ8,
      ∀ κ11, κ11 = ui κ8 paAt a0 (-1 : Int32) →
      ∀ _ : zW C n0 κ11,
      ∀ κ13, κ13 = ui κ11 paOpen a0 (0 : Int32) →
      ∀ _ : zW C n0 κ13,
      ∀ κ15, κ15 = ui κ13 paInside a0 (0 : Int32) →
      ∀ _ : zW C n0 κ15,
      ∀ κ17, κ17 = ui κ15 paOwns a0 (0 : Int32) →
      ∀ _ : zW C n0 κ17,
      ∀ κ19, κ19 = ui κ17 paBlocks a0 (0 : Int32) →
      ∀ _ : zW C n0 κ19,
      ∀ _ : zT κ19 a0 = 10,
      zRun C 0 mPa_take [.ref a0] κ19 (oV (fun κ21 =>
        ∀ _ : zW C n0 κ21,
        ∀ _ : zM (zn κ19) κ19 κ21,
        w_Pa_read_50 C n0 Q X  a0 (0 : Int32) κ21) noX)) noX)) noX)
theorem t_Pa_read_0 {C : zC} {n0 : Nat} {Q : zS → Prop} {X : zXp}   {a0 : Nat} {a1 : Nat} {κ : zS} (W : zW C n0 κ) (Ta0 : zT κ a0 = 10) (Ta1 : zT κ a1 = 5) (F : w_Pa_read_0 C n0 Q X  a0 a1 κ) : zG C n0 14 mPa_read 0 [some (.ref a0), some (.ref a1), none] [] κ (oV Q X) := by
  unfold w_Pa_read_0 at F
  refine y_aln dX7_read_0 rfl ?_
  refine gf_X7_9 W dX7_read_1 rfl Ta0 ?_
  replace F := F (ty_paTape W Ta0)
  refine k_X7_45 W dX7_read_4 rfl (Nat.le_of_ble_eq_true rfl) (Nat.le_of_ble_eq_true rfl) (Or.inl (ty_paTape W Ta0)) F (fun  κ1 Wκ1 Mκ1 F => ?_) (fun _ _ h9 => False.elim h9)
  replace F := F Wκ1 Mκ1
  refine y_aln dX7_read_7 rfl ?_
  refine y_aln dX7_read_8 rfl ?_
  have h5 := (ztm W Mκ1 Ta1)
  have h6 := (ztm W Mκ1 Ta0)
  refine pf_X7_15 Wκ1 dX7_read_9 rfl (Or.inl h6) h5 (fun κ4 eκ4 => ?_)
  replace F := F κ4 eκ4
  have Wκ4 : zW C n0 κ4 := zW_ur Wκ1 eκ4 (fun t ht => by cases ht; exact ⟨by decide, h5⟩)
  have Mκ4 : zM (zn κ1) κ1 κ4 := by rw [eκ4]; exact zM.of rfl rfl rfl
  replace F := F Wκ4
  refine y_aln dX7_read_12 rfl ?_
  have h7 := (ztm Wκ1 Mκ4 h6)
  refine gf_X7_15 Wκ4 dX7_read_13 rfl h7 ?_
  replace F := F (ty_paCode Wκ4 h7)
  refine k_X7_50 Wκ4 dX7_read_16 rfl (Nat.le_of_ble_eq_true rfl) (Nat.le_of_ble_eq_true rfl) (Or.inl (ty_paCode Wκ4 h7)) F (fun  κ8 Wκ8 Mκ8 F => ?_) (fun _ _ h9 => False.elim h9)
  replace F := F Wκ8 Mκ8
  refine y_aln dX7_read_19 rfl ?_
  refine y_ic dX7_read_20 zi_m1 ?_
  have h12 := (ztm Wκ4 Mκ8 h7)
  refine pf_X7_55 Wκ8 dX7_read_21 rfl (Or.inl h12) (fun κ11 eκ11 => ?_)
  replace F := F κ11 eκ11
  have Wκ11 : zW C n0 κ11 := zW_ui Wκ8 eκ11 (fun h => absurd h (by decide))
  have Mκ11 : zM (zn κ8) κ8 κ11 := by rw [eκ11]; exact zM.of rfl rfl rfl
  replace F := F Wκ11
  refine y_aln dX7_read_24 rfl ?_
  refine y_ic dX7_read_25 zi_0 ?_
  have h14 := (ztm Wκ8 Mκ11 h12)
  refine pf_X7_59 Wκ11 dX7_read_26 rfl (Or.inl h14) (fun κ13 eκ13 => ?_)
  replace F := F κ13 eκ13
  have Wκ13 : zW C n0 κ13 := zW_ui Wκ11 eκ13 (fun h => absurd h (by decide))
  have Mκ13 : zM (zn κ11) κ11 κ13 := by rw [eκ13]; exact zM.of rfl rfl rfl
  replace F := F Wκ13
  refine y_aln dX7_read_29 rfl ?_
  refine y_ic dX7_read_30 zi_0 ?_
  have h16 := (ztm Wκ11 Mκ13 h14)
  refine pf_X7_62 Wκ13 dX7_read_31 rfl (nb_nar nb_0) (Or.inl h16) (fun κ15 eκ15 => ?_)
  replace F := F κ15 eκ15
  have Wκ15 : zW C n0 κ15 := zW_ui Wκ13 eκ15 (fun _ => nb_0)
  have Mκ15 : zM (zn κ13) κ13 κ15 := by rw [eκ15]; exact zM.of rfl rfl rfl
  replace F := F Wκ15
  refine y_aln dX7_read_34 rfl ?_
  refine y_ic dX7_read_35 zi_0 ?_
  have h18 := (ztm Wκ13 Mκ15 h16)
  refine pf_X7_66 Wκ15 dX7_read_36 rfl (Or.inl h18) (fun κ17 eκ17 => ?_)
  replace F := F κ17 eκ17
  have Wκ17 : zW C n0 κ17 := zW_ui Wκ15 eκ17 (fun h => absurd h (by decide))
  have Mκ17 : zM (zn κ15) κ15 κ17 := by rw [eκ17]; exact zM.of rfl rfl rfl
  replace F := F Wκ17
  refine y_aln dX7_read_39 rfl ?_
  refine y_ic dX7_read_40 zi_0 ?_
  have h20 := (ztm Wκ15 Mκ17 h18)
  refine pf_X7_69 Wκ17 dX7_read_41 rfl (Or.inl h20) (fun κ19 eκ19 => ?_)
  replace F := F κ19 eκ19
  have Wκ19 : zW C n0 κ19 := zW_ui Wκ17 eκ19 (fun h => absurd h (by decide))
  have Mκ19 : zM (zn κ17) κ17 κ19 := by rw [eκ19]; exact zM.of rfl rfl rfl
  replace F := F Wκ19
  refine y_aln dX7_read_44 rfl ?_
  have h23 := (ztm Wκ17 Mκ19 h20)
  replace F := F h23
  refine k_X7_72 Wκ19 dX7_read_45 rfl (Nat.le_of_ble_eq_true rfl) (Nat.le_of_ble_eq_true rfl) (Or.inl h23) F (fun  κ21 Wκ21 Mκ21 F => ?_) (fun _ _ h9 => False.elim h9)
  replace F := F Wκ21 Mκ21
  refine y_ic dX7_read_48 zi_0 ?_
  refine y_isn dX7_read_49 (Nat.le_of_ble_eq_true rfl) rfl ?_
  show zG _ _ _ _ _ [some (.ref a0), some (.ref a1), some (.int (0 : Int32))] _ _ _
  have h25 := (ztm Wκ19 Mκ21 h23)
  exact y_k (t_Pa_read_50  Wκ21 h25 F) ⟨rfl, rfl, trivial⟩

theorem Pa_read_run {C : zC} {n0 : Nat} {Q : zS → Prop} {X : zXp} {a0 : Nat} {a1 : Nat} {κ : zS} (W : zW C n0 κ) (Ta0 : zT κ a0 = 10) (Ta1 : zT κ a1 = 5) (F : w_Pa_read_0 C (zn κ) Q X a0 a1 κ) : zRun C 14 mPa_read [.ref a0, .ref a1] κ (oV Q X) := z_run (m_ent _ 1) (t_Pa_read_0 (W.lo (Nat.le_trans W.1.2.1 W.1.2.2) (Nat.le_refl _)) Ta0 Ta1 F)

theorem dX8_init_0 : decode cX8_init 0 = .ok (.aload_n 0, 1) := by decide +kernel
theorem dX8_init_1 : decode cX8_init 1 = .ok (.invokespecial 3, 3) := by decide +kernel
theorem dX8_init_4 : decode cX8_init 4 = .ok (.aload_n 0, 1) := by decide +kernel
theorem dX8_init_5 : decode cX8_init 5 = .ok (.new 9, 3) := by decide +kernel
theorem dX8_init_8 : decode cX8_init 8 = .ok (.dup, 1) := by decide +kernel
theorem dX8_init_9 : decode cX8_init 9 = .ok (.iload_n 1, 1) := by decide +kernel
theorem dX8_init_10 : decode cX8_init 10 = .ok (.invokespecial 11, 3) := by decide +kernel
theorem dX8_init_13 : decode cX8_init 13 = .ok (.putfield 14, 3) := by decide +kernel
theorem dX8_init_16 : decode cX8_init 16 = .ok (.aload_n 0, 1) := by decide +kernel
theorem dX8_init_17 : decode cX8_init 17 = .ok (.new 9, 3) := by decide +kernel
theorem dX8_init_20 : decode cX8_init 20 = .ok (.dup, 1) := by decide +kernel
theorem dX8_init_21 : decode cX8_init 21 = .ok (.iload_n 1, 1) := by decide +kernel
theorem dX8_init_22 : decode cX8_init 22 = .ok (.invokespecial 11, 3) := by decide +kernel
theorem dX8_init_25 : decode cX8_init 25 = .ok (.putfield 20, 3) := by decide +kernel
theorem dX8_init_28 : decode cX8_init 28 = .ok (.aload_n 0, 1) := by decide +kernel
theorem dX8_init_29 : decode cX8_init 29 = .ok (.getfield 20, 3) := by decide +kernel
theorem dX8_init_32 : decode cX8_init 32 = .ok (.lconst 1, 1) := by decide +kernel
theorem dX8_init_33 : decode cX8_init 33 = .ok (.invokevirtual 23, 3) := by decide +kernel
theorem dX8_init_36 : decode cX8_init 36 = .ok (.return_, 1) := by decide +kernel
def w_Ra_init_0 (C : zC) (n0 : Nat) (Q : zS → Prop)  (a0 : Nat) (a1 : Int32) (κ : zS) : Prop :=
  ∀ κ1, κ1 = noo κ 8 →
  ∀ _ : zW C n0 κ1,
  ∀ _ : zT κ1 (zn κ) = 48,
  zRun C 1 mNu_init [.ref (zn κ), .int a1] κ1 (oV (fun κ3 =>
    ∀ _ : zW C n0 κ3,
    ∀ _ : zM (zn κ1) κ1 κ3,
    zOk κ3 (zn κ) 8 ∧
    ∀ κ6, κ6 = nff κ3 (zn κ) →
    ∀ _ : zW C n0 κ6,
    ∀ κ8, κ8 = ur κ6 raTop a0 (zn κ) →
    ∀ _ : zW C n0 κ8,
    ∀ κ10, κ10 = noo κ8 8 →
    ∀ _ : zW C n0 κ10,
    ∀ _ : zT κ10 (zn κ8) = 48,
    zRun C 1 mNu_init [.ref (zn κ8), .int a1] κ10 (oV (fun κ12 =>
      ∀ _ : zW C n0 κ12,
      ∀ _ : zM (zn κ10) κ10 κ12,
      zOk κ12 (zn κ8) 8 ∧
      ∀ κ15, κ15 = nff κ12 (zn κ8) →
      ∀ _ : zW C n0 κ15,
      ∀ κ17, κ17 = ur κ15 raBottom a0 (zn κ8) →
      ∀ _ : zW C n0 κ17,
      zT κ17 (zR κ17 raBottom a0) = 8 ∧
      ∀ _ : zT κ17 (zR κ17 raBottom a0) = 8,
      zRun C 0 mNu_put [.ref (zR κ17 raBottom a0), .long (1 : Int64)] κ17 (oV (fun κ21 =>
        ∀ _ : zW C n0 κ21,
        ∀ _ : zM (zn κ17) κ17 κ21,
        Q κ21) noX)) noX)) noX)
theorem t_Ra_init_0 {C : zC} {n0 : Nat} {Q : zS → Prop}   {a0 : Nat} {a1 : Int32} {κ : zS} (W : zW C n0 κ) (Ta0 : zT κ a0 = 51) (F : w_Ra_init_0 C n0 Q  a0 a1 κ) : zG C n0 2 mRa_init 0 [some (.ref a0), some (.int a1)] [] κ (oV Q noX) := by
  unfold w_Ra_init_0 at F
  refine y_aln dX8_init_0 rfl ?_
  refine y_oinit dX8_init_1 rfl zbi_X8_3 (Nat.le_of_ble_eq_true rfl) (Nat.le_of_ble_eq_true rfl) ?_
  refine y_aln dX8_init_4 rfl ?_
  refine y_newo W dX8_init_5 rfl znw_X8_9 znx_X8_9 (by decide) (fun κ1 eκ1 => ?_)
  replace F := F κ1 eκ1
  have Wκ1 : zW C n0 κ1 := zW_no W eκ1
  have Mκ1 : zM (zn κ) κ κ1 := zM_no (W.lo (Nat.le_trans W.1.2.1 W.1.2.2) (Nat.le_refl _)) eκ1
  replace F := F Wκ1
  have g2 : zT κ1 (zn κ) = 48 := by rw [eκ1]; exact if_pos rfl
  refine y_dup dX8_init_8 rfl ?_
  refine y_iln dX8_init_9 rfl ?_
  replace F := F g2
  refine k_X8_11 Wκ1 dX8_init_10 rfl (Nat.le_of_ble_eq_true rfl) (Nat.le_of_ble_eq_true rfl)  F (fun  κ3 Wκ3 Mκ3 F => ?_) (fun _ _ h9 => False.elim h9)
  replace F := F Wκ3 Mκ3
  have h7 := (ztm Wκ1 Mκ3 g2)
  have Rκ6 := h7
  refine y_flip (ci := 8) Rκ6 (by decide) (Nat.le_trans W.1.2.2 (Nat.le_refl _)) (fun κ6 eκ6 => ?_)
  have Wκ6 : zW C n0 κ6 := zW_nf Wκ3 eκ6 Rκ6 (by decide) (by decide) F.1
  replace F := F.2 κ6 eκ6 Wκ6
  have Gκ6 : zT κ6 (zn κ) = 8 := zth eκ6 Rκ6 (by decide)
  have h9 := (ztg eκ6 (W.nw Ta0) (ztm Wκ1 Mκ3 (ztm W Mκ1 Ta0)))
  refine pf_X8_14 Wκ6 dX8_init_13 rfl rfl (Or.inr h9) Gκ6 (fun κ8 eκ8 => ?_)
  replace F := F κ8 eκ8
  have Wκ8 : zW C n0 κ8 := zW_ur Wκ6 eκ8 (fun t ht => by cases ht; exact ⟨by decide, Gκ6⟩)
  have Mκ8 : zM (zn κ6) κ6 κ8 := by rw [eκ8]; exact zM.of rfl rfl rfl
  replace F := F Wκ8
  refine y_aln dX8_init_16 rfl ?_
  refine y_newo Wκ8 dX8_init_17 rfl znw_X8_9 znx_X8_9 (by decide) (fun κ10 eκ10 => ?_)
  replace F := F κ10 eκ10
  have Wκ10 : zW C n0 κ10 := zW_no Wκ8 eκ10
  have Mκ10 : zM (zn κ8) κ8 κ10 := zM_no (Wκ8.lo (Nat.le_trans Wκ8.1.2.1 Wκ8.1.2.2) (Nat.le_refl _)) eκ10
  replace F := F Wκ10
  have g11 : zT κ10 (zn κ8) = 48 := by rw [eκ10]; exact if_pos rfl
  refine y_dup dX8_init_20 rfl ?_
  refine y_iln dX8_init_21 rfl ?_
  replace F := F g11
  refine k_X8_11 Wκ10 dX8_init_22 rfl (Nat.le_of_ble_eq_true rfl) (Nat.le_of_ble_eq_true rfl)  F (fun  κ12 Wκ12 Mκ12 F => ?_) (fun _ _ h9 => False.elim h9)
  replace F := F Wκ12 Mκ12
  have h16 := (ztm Wκ10 Mκ12 g11)
  have Rκ15 := h16
  refine y_flip (ci := 8) Rκ15 (by decide) (Nat.le_trans Wκ8.1.2.2 (Nat.le_refl _)) (fun κ15 eκ15 => ?_)
  have Wκ15 : zW C n0 κ15 := zW_nf Wκ12 eκ15 Rκ15 (by decide) (by decide) F.1
  replace F := F.2 κ15 eκ15 Wκ15
  have Gκ15 : zT κ15 (zn κ8) = 8 := zth eκ15 Rκ15 (by decide)
  have h18 := (ztg eκ15 (Wκ8.nw (ztm Wκ6 Mκ8 h9)) (ztm Wκ10 Mκ12 (ztm Wκ8 Mκ10 (ztm Wκ6 Mκ8 h9))))
  refine pf_X8_20 Wκ15 dX8_init_25 rfl rfl (Or.inr h18) Gκ15 (fun κ17 eκ17 => ?_)
  replace F := F κ17 eκ17
  have Wκ17 : zW C n0 κ17 := zW_ur Wκ15 eκ17 (fun t ht => by cases ht; exact ⟨by decide, Gκ15⟩)
  have Mκ17 : zM (zn κ15) κ15 κ17 := by rw [eκ17]; exact zM.of rfl rfl rfl
  replace F := F Wκ17
  refine y_aln dX8_init_28 rfl ?_
  have h19 := (ztm Wκ15 Mκ17 h18)
  refine gn_X8_20 Wκ17 dX8_init_29 rfl (Or.inr h19) F.1 ?_
  have g20 := F.1
  replace F := F.2
  refine y_lc dX8_init_32 zl_1 ?_
  replace F := F g20
  refine k_X8_23 Wκ17 dX8_init_33 rfl (Nat.le_of_ble_eq_true rfl) (Nat.le_of_ble_eq_true rfl) (Or.inl g20) F (fun  κ21 Wκ21 Mκ21 F => ?_) (fun _ _ h9 => False.elim h9)
  replace F := F Wκ21 Mκ21
  exact y_rv Wκ21 dX8_init_36 rfl F

theorem Ra_init_run {C : zC} {n0 : Nat} {Q : zS → Prop} {a0 : Nat} {a1 : Int32} {κ : zS} (W : zW C n0 κ) (Ta0 : zT κ a0 = 51) (F : w_Ra_init_0 C (zn κ) Q a0 a1 κ) : zRun C 2 mRa_init [.ref a0, .int a1] κ (oV Q noX) := z_run (m_ent _ 0) (t_Ra_init_0 (W.lo (Nat.le_trans W.1.2.1 W.1.2.2) (Nat.le_refl _)) Ta0 F)

theorem dX8_putOne_0 : decode cX8_putOne 0 = .ok (.aload_n 0, 1) := by decide +kernel
theorem dX8_putOne_1 : decode cX8_putOne 1 = .ok (.iconst 1, 1) := by decide +kernel
theorem dX8_putOne_2 : decode cX8_putOne 2 = .ok (.putfield 27, 3) := by decide +kernel
theorem dX8_putOne_5 : decode cX8_putOne 5 = .ok (.aload_n 0, 1) := by decide +kernel
theorem dX8_putOne_6 : decode cX8_putOne 6 = .ok (.getfield 14, 3) := by decide +kernel
theorem dX8_putOne_9 : decode cX8_putOne 9 = .ok (.lconst 1, 1) := by decide +kernel
theorem dX8_putOne_10 : decode cX8_putOne 10 = .ok (.invokevirtual 23, 3) := by decide +kernel
theorem dX8_putOne_13 : decode cX8_putOne 13 = .ok (.aload_n 0, 1) := by decide +kernel
theorem dX8_putOne_14 : decode cX8_putOne 14 = .ok (.getfield 20, 3) := by decide +kernel
theorem dX8_putOne_17 : decode cX8_putOne 17 = .ok (.lconst 1, 1) := by decide +kernel
theorem dX8_putOne_18 : decode cX8_putOne 18 = .ok (.invokevirtual 23, 3) := by decide +kernel
theorem dX8_putOne_21 : decode cX8_putOne 21 = .ok (.return_, 1) := by decide +kernel
def w_Ra_putOne_0 (C : zC) (n0 : Nat) (Q : zS → Prop)  (a0 : Nat) (κ : zS) : Prop :=
  ∀ κ1, κ1 = ui κ raSign a0 (1 : Int32) →
  ∀ _ : zW C n0 κ1,
  ∀ _ : zT κ1 (zR κ1 raTop a0) = 8,
  zRun C 0 mNu_put [.ref (zR κ1 raTop a0), .long (1 : Int64)] κ1 (oV (fun κ3 =>
    ∀ _ : zW C n0 κ3,
    ∀ _ : zM (zn κ1) κ1 κ3,
    ∀ _ : zT κ3 (zR κ3 raBottom a0) = 8,
    zRun C 0 mNu_put [.ref (zR κ3 raBottom a0), .long (1 : Int64)] κ3 (oV (fun κ7 =>
      ∀ _ : zW C n0 κ7,
      ∀ _ : zM (zn κ3) κ3 κ7,
      Q κ7) noX)) noX)
theorem t_Ra_putOne_0 {C : zC} {n0 : Nat} {Q : zS → Prop}   {a0 : Nat} {κ : zS} (W : zW C n0 κ) (Ta0 : zT κ a0 = 11) (F : w_Ra_putOne_0 C n0 Q  a0 κ) : zG C n0 1 mRa_putOne 0 [some (.ref a0)] [] κ (oV Q noX) := by
  unfold w_Ra_putOne_0 at F
  refine y_aln dX8_putOne_0 rfl ?_
  refine y_ic dX8_putOne_1 zi_1 ?_
  refine pf_X8_27 W dX8_putOne_2 rfl (Or.inl Ta0) (fun κ1 eκ1 => ?_)
  replace F := F κ1 eκ1
  have Wκ1 : zW C n0 κ1 := zW_ui W eκ1 (fun h => absurd h (by decide))
  have Mκ1 : zM (zn κ) κ κ1 := by rw [eκ1]; exact zM.of rfl rfl rfl
  replace F := F Wκ1
  refine y_aln dX8_putOne_5 rfl ?_
  have h2 := (ztm W Mκ1 Ta0)
  refine gf_X8_14 Wκ1 dX8_putOne_6 rfl h2 ?_
  refine y_lc dX8_putOne_9 zl_1 ?_
  replace F := F (ty_raTop Wκ1 h2)
  refine k_X8_23 Wκ1 dX8_putOne_10 rfl (Nat.le_of_ble_eq_true rfl) (Nat.le_of_ble_eq_true rfl) (Or.inl (ty_raTop Wκ1 h2)) F (fun  κ3 Wκ3 Mκ3 F => ?_) (fun _ _ h9 => False.elim h9)
  replace F := F Wκ3 Mκ3
  refine y_aln dX8_putOne_13 rfl ?_
  have h6 := (ztm Wκ1 Mκ3 h2)
  refine gf_X8_20 Wκ3 dX8_putOne_14 rfl h6 ?_
  refine y_lc dX8_putOne_17 zl_1 ?_
  replace F := F (ty_raBottom Wκ3 h6)
  refine k_X8_23 Wκ3 dX8_putOne_18 rfl (Nat.le_of_ble_eq_true rfl) (Nat.le_of_ble_eq_true rfl) (Or.inl (ty_raBottom Wκ3 h6)) F (fun  κ7 Wκ7 Mκ7 F => ?_) (fun _ _ h9 => False.elim h9)
  replace F := F Wκ7 Mκ7
  exact y_rv Wκ7 dX8_putOne_21 rfl F

theorem Ra_putOne_run {C : zC} {n0 : Nat} {Q : zS → Prop} {a0 : Nat} {κ : zS} (W : zW C n0 κ) (Ta0 : zT κ a0 = 11) (F : w_Ra_putOne_0 C (zn κ) Q a0 κ) : zRun C 1 mRa_putOne [.ref a0] κ (oV Q noX) := z_run (m_ent _ 0) (t_Ra_putOne_0 (W.lo (Nat.le_trans W.1.2.1 W.1.2.2) (Nat.le_refl _)) Ta0 F)

theorem dX8_fits_0 : decode cX8_fits 0 = .ok (.aload_n 0, 1) := by decide +kernel
theorem dX8_fits_1 : decode cX8_fits 1 = .ok (.getfield 14, 3) := by decide +kernel
theorem dX8_fits_4 : decode cX8_fits 4 = .ok (.invokevirtual 35, 3) := by decide +kernel
theorem dX8_fits_7 : decode cX8_fits 7 = .ok (.sipush 256, 3) := by decide +kernel
theorem dX8_fits_10 : decode cX8_fits 10 = .ok (.if_icmp .gt 20, 3) := by decide +kernel
theorem dX8_fits_13 : decode cX8_fits 13 = .ok (.aload_n 0, 1) := by decide +kernel
theorem dX8_fits_14 : decode cX8_fits 14 = .ok (.getfield 20, 3) := by decide +kernel
theorem dX8_fits_17 : decode cX8_fits 17 = .ok (.invokevirtual 35, 3) := by decide +kernel
theorem dX8_fits_20 : decode cX8_fits 20 = .ok (.sipush 256, 3) := by decide +kernel
theorem dX8_fits_23 : decode cX8_fits 23 = .ok (.if_icmp .gt 7, 3) := by decide +kernel
theorem dX8_fits_26 : decode cX8_fits 26 = .ok (.iconst 1, 1) := by decide +kernel
theorem dX8_fits_27 : decode cX8_fits 27 = .ok (.goto 4, 3) := by decide +kernel
theorem dX8_fits_30 : decode cX8_fits 30 = .ok (.iconst 0, 1) := by decide +kernel
theorem dX8_fits_31 : decode cX8_fits 31 = .ok (.ireturn, 1) := by decide +kernel
def w_Ra_fits_0 (C : zC) (n0 : Nat) (Q : Int32 → zS → Prop)  (a0 : Nat) (κ : zS) : Prop :=
  ∀ _ : zT κ (zR κ raTop a0) = 8,
  zRun C 0 mNu_bits [.ref (zR κ raTop a0)] κ (oI (fun r2 κ1 =>
    ∀ _ : zW C n0 κ1,
    ∀ _ : zM (zn κ) κ κ1,
    ((256 : Int32) < r2 →
      Q (0 : Int32) κ1) ∧
    (¬ (256 : Int32) < r2 →
      ∀ _ : zT κ1 (zR κ1 raBottom a0) = 8,
      zRun C 0 mNu_bits [.ref (zR κ1 raBottom a0)] κ1 (oI (fun r6 κ5 =>
        ∀ _ : zW C n0 κ5,
        ∀ _ : zM (zn κ1) κ1 κ5,
        ((256 : Int32) < r6 →
          Q (0 : Int32) κ5) ∧
        (¬ (256 : Int32) < r6 →
          Q (1 : Int32) κ5)) noX))) noX)
theorem t_Ra_fits_0 {C : zC} {n0 : Nat} {Q : Int32 → zS → Prop}   {a0 : Nat} {κ : zS} (W : zW C n0 κ) (Ta0 : zT κ a0 = 11) (F : w_Ra_fits_0 C n0 Q  a0 κ) : zG C n0 1 mRa_fits 0 [some (.ref a0)] [] κ (oI Q noX) := by
  unfold w_Ra_fits_0 at F
  refine y_aln dX8_fits_0 rfl ?_
  refine gf_X8_14 W dX8_fits_1 rfl Ta0 ?_
  replace F := F (ty_raTop W Ta0)
  refine k_X8_35 W dX8_fits_4 rfl (Nat.le_of_ble_eq_true rfl) (Nat.le_of_ble_eq_true rfl) (Or.inl (ty_raTop W Ta0)) F (fun r2 κ1 Wκ1 Mκ1 F => ?_) (fun _ _ h9 => False.elim h9)
  replace F := F Wκ1 Mκ1
  refine y_si dX8_fits_7 zs_256 ?_
  refine y_ii ((256 : Int32) < r2) dX8_fits_10 (t := 30) rfl rfl (fun c9 => ?_) (fun c9 => ?_)
  · replace F := F.1 c9
    refine y_ic dX8_fits_30 zi_0 ?_
    exact y_ri Wκ1 dX8_fits_31 rfl (nb_nar nb_0) F
  · replace F := F.2 c9
    refine y_aln dX8_fits_13 rfl ?_
    have h4 := (ztm W Mκ1 Ta0)
    refine gf_X8_20 Wκ1 dX8_fits_14 rfl h4 ?_
    replace F := F (ty_raBottom Wκ1 h4)
    refine k_X8_35 Wκ1 dX8_fits_17 rfl (Nat.le_of_ble_eq_true rfl) (Nat.le_of_ble_eq_true rfl) (Or.inl (ty_raBottom Wκ1 h4)) F (fun r6 κ5 Wκ5 Mκ5 F => ?_) (fun _ _ h9 => False.elim h9)
    replace F := F Wκ5 Mκ5
    refine y_si dX8_fits_20 zs_256 ?_
    refine y_ii ((256 : Int32) < r6) dX8_fits_23 (t := 30) rfl rfl (fun c9 => ?_) (fun c9 => ?_)
    · replace F := F.1 c9
      refine y_ic dX8_fits_30 zi_0 ?_
      exact y_ri Wκ5 dX8_fits_31 rfl (nb_nar nb_0) F
    · replace F := F.2 c9
      refine y_ic dX8_fits_26 zi_1 ?_
      refine y_goto dX8_fits_27 (t := 31) rfl ?_
      exact y_ri Wκ5 dX8_fits_31 rfl (nb_nar nb_1) F

theorem Ra_fits_run {C : zC} {n0 : Nat} {Q : Int32 → zS → Prop} {a0 : Nat} {κ : zS} (W : zW C n0 κ) (Ta0 : zT κ a0 = 11) (F : w_Ra_fits_0 C (zn κ) Q a0 κ) : zRun C 1 mRa_fits [.ref a0] κ (oI Q noX) := z_run (m_ent _ 0) (t_Ra_fits_0 (W.lo (Nat.le_trans W.1.2.1 W.1.2.2) (Nat.le_refl _)) Ta0 F)

theorem dX8_scale_0 : decode cX8_scale 0 = .ok (.iload_n 1, 1) := by decide +kernel
theorem dX8_scale_1 : decode cX8_scale 1 = .ok (.ifCond .le 14, 3) := by decide +kernel
theorem dX8_scale_4 : decode cX8_scale 4 = .ok (.iload_n 2, 1) := by decide +kernel
theorem dX8_scale_5 : decode cX8_scale 5 = .ok (.ifCond .le 10, 3) := by decide +kernel
theorem dX8_scale_8 : decode cX8_scale 8 = .ok (.aload_n 0, 1) := by decide +kernel
theorem dX8_scale_9 : decode cX8_scale 9 = .ok (.getfield 27, 3) := by decide +kernel
theorem dX8_scale_12 : decode cX8_scale 12 = .ok (.ifCond .ne 8, 3) := by decide +kernel
theorem dX8_scale_15 : decode cX8_scale 15 = .ok (.aload_n 0, 1) := by decide +kernel
theorem dX8_scale_16 : decode cX8_scale 16 = .ok (.invokevirtual 39, 3) := by decide +kernel
theorem dX8_scale_19 : decode cX8_scale 19 = .ok (.return_, 1) := by decide +kernel
theorem dX8_scale_20 : decode cX8_scale 20 = .ok (.iload_n 1, 1) := by decide +kernel
theorem dX8_scale_21 : decode cX8_scale 21 = .ok (.iload_n 2, 1) := by decide +kernel
theorem dX8_scale_22 : decode cX8_scale 22 = .ok (.invokestatic 42, 3) := by decide +kernel
theorem dX8_scale_25 : decode cX8_scale 25 = .ok (.istore_n 3, 1) := by decide +kernel
theorem dX8_scale_26 : decode cX8_scale 26 = .ok (.iload_n 1, 1) := by decide +kernel
theorem dX8_scale_27 : decode cX8_scale 27 = .ok (.iload_n 3, 1) := by decide +kernel
theorem dX8_scale_28 : decode cX8_scale 28 = .ok (.idiv, 1) := by decide +kernel
theorem dX8_scale_29 : decode cX8_scale 29 = .ok (.istore 4, 2) := by decide +kernel
theorem dX8_scale_31 : decode cX8_scale 31 = .ok (.iload_n 2, 1) := by decide +kernel
theorem dX8_scale_32 : decode cX8_scale 32 = .ok (.iload_n 3, 1) := by decide +kernel
theorem dX8_scale_33 : decode cX8_scale 33 = .ok (.idiv, 1) := by decide +kernel
theorem dX8_scale_34 : decode cX8_scale 34 = .ok (.istore 5, 2) := by decide +kernel
theorem dX8_scale_36 : decode cX8_scale 36 = .ok (.iload 5, 2) := by decide +kernel
theorem dX8_scale_38 : decode cX8_scale 38 = .ok (.aload_n 0, 1) := by decide +kernel
theorem dX8_scale_39 : decode cX8_scale 39 = .ok (.getfield 14, 3) := by decide +kernel
theorem dX8_scale_42 : decode cX8_scale 42 = .ok (.iload 5, 2) := by decide +kernel
theorem dX8_scale_44 : decode cX8_scale 44 = .ok (.invokevirtual 46, 3) := by decide +kernel
theorem dX8_scale_47 : decode cX8_scale 47 = .ok (.invokestatic 42, 3) := by decide +kernel
theorem dX8_scale_50 : decode cX8_scale 50 = .ok (.istore 6, 2) := by decide +kernel
theorem dX8_scale_52 : decode cX8_scale 52 = .ok (.iload 4, 2) := by decide +kernel
theorem dX8_scale_54 : decode cX8_scale 54 = .ok (.aload_n 0, 1) := by decide +kernel
theorem dX8_scale_55 : decode cX8_scale 55 = .ok (.getfield 20, 3) := by decide +kernel
theorem dX8_scale_58 : decode cX8_scale 58 = .ok (.iload 4, 2) := by decide +kernel
theorem dX8_scale_60 : decode cX8_scale 60 = .ok (.invokevirtual 46, 3) := by decide +kernel
theorem dX8_scale_63 : decode cX8_scale 63 = .ok (.invokestatic 42, 3) := by decide +kernel
theorem dX8_scale_66 : decode cX8_scale 66 = .ok (.istore 7, 2) := by decide +kernel
theorem dX8_scale_68 : decode cX8_scale 68 = .ok (.iload 6, 2) := by decide +kernel
theorem dX8_scale_70 : decode cX8_scale 70 = .ok (.iconst 1, 1) := by decide +kernel
theorem dX8_scale_71 : decode cX8_scale 71 = .ok (.if_icmp .le 13, 3) := by decide +kernel
theorem dX8_scale_74 : decode cX8_scale 74 = .ok (.aload_n 0, 1) := by decide +kernel
theorem dX8_scale_75 : decode cX8_scale 75 = .ok (.getfield 14, 3) := by decide +kernel
theorem dX8_scale_78 : decode cX8_scale 78 = .ok (.iload 6, 2) := by decide +kernel
theorem dX8_scale_80 : decode cX8_scale 80 = .ok (.invokevirtual 50, 3) := by decide +kernel
theorem dX8_scale_83 : decode cX8_scale 83 = .ok (.pop, 1) := by decide +kernel
theorem dX8_scale_84 : decode cX8_scale 84 = .ok (.iload 7, 2) := by decide +kernel
theorem dX8_scale_86 : decode cX8_scale 86 = .ok (.iconst 1, 1) := by decide +kernel
theorem dX8_scale_87 : decode cX8_scale 87 = .ok (.if_icmp .le 13, 3) := by decide +kernel
theorem dX8_scale_90 : decode cX8_scale 90 = .ok (.aload_n 0, 1) := by decide +kernel
theorem dX8_scale_91 : decode cX8_scale 91 = .ok (.getfield 20, 3) := by decide +kernel
theorem dX8_scale_94 : decode cX8_scale 94 = .ok (.iload 7, 2) := by decide +kernel
theorem dX8_scale_96 : decode cX8_scale 96 = .ok (.invokevirtual 50, 3) := by decide +kernel
theorem dX8_scale_99 : decode cX8_scale 99 = .ok (.pop, 1) := by decide +kernel
theorem dX8_scale_100 : decode cX8_scale 100 = .ok (.aload_n 0, 1) := by decide +kernel
theorem dX8_scale_101 : decode cX8_scale 101 = .ok (.getfield 14, 3) := by decide +kernel
theorem dX8_scale_104 : decode cX8_scale 104 = .ok (.iload 4, 2) := by decide +kernel
theorem dX8_scale_106 : decode cX8_scale 106 = .ok (.iload 7, 2) := by decide +kernel
theorem dX8_scale_108 : decode cX8_scale 108 = .ok (.idiv, 1) := by decide +kernel
theorem dX8_scale_109 : decode cX8_scale 109 = .ok (.i2l, 1) := by decide +kernel
theorem dX8_scale_110 : decode cX8_scale 110 = .ok (.invokevirtual 53, 3) := by decide +kernel
theorem dX8_scale_113 : decode cX8_scale 113 = .ok (.aload_n 0, 1) := by decide +kernel
theorem dX8_scale_114 : decode cX8_scale 114 = .ok (.getfield 20, 3) := by decide +kernel
theorem dX8_scale_117 : decode cX8_scale 117 = .ok (.iload 5, 2) := by decide +kernel
theorem dX8_scale_119 : decode cX8_scale 119 = .ok (.iload 6, 2) := by decide +kernel
theorem dX8_scale_121 : decode cX8_scale 121 = .ok (.idiv, 1) := by decide +kernel
theorem dX8_scale_122 : decode cX8_scale 122 = .ok (.i2l, 1) := by decide +kernel
theorem dX8_scale_123 : decode cX8_scale 123 = .ok (.invokevirtual 53, 3) := by decide +kernel
theorem dX8_scale_126 : decode cX8_scale 126 = .ok (.return_, 1) := by decide +kernel
def w_Ra_scale_100 (C : zC) (n0 : Nat) (Q : zS → Prop)  (a0 : Nat) (a4 : Int32) (a5 : Int32) (a6 : Int32) (a7 : Int32) (κ : zS) : Prop :=
  ¬ a7 = 0 ∧
  ∀ _ : zT κ (zR κ raTop a0) = 8,
  zRun C 3 mNu_times [.ref (zR κ raTop a0), .long (Int32.toInt64 (a4 / a7))] κ (oV (fun κ1 =>
    ∀ _ : zW C n0 κ1,
    ∀ _ : zM (zn κ) κ κ1,
    ¬ a6 = 0 ∧
    ∀ _ : zT κ1 (zR κ1 raBottom a0) = 8,
    zRun C 3 mNu_times [.ref (zR κ1 raBottom a0), .long (Int32.toInt64 (a5 / a6))] κ1 (oV (fun κ5 =>
      ∀ _ : zW C n0 κ5,
      ∀ _ : zM (zn κ1) κ1 κ5,
      Q κ5) noX)) noX)
theorem t_Ra_scale_100 {C : zC} {n0 : Nat} {Q : zS → Prop}   {a0 : Nat} {a4 : Int32} {a5 : Int32} {a6 : Int32} {a7 : Int32} {κ : zS} (W : zW C n0 κ) (Ta0 : zT κ a0 = 11) (F : w_Ra_scale_100 C n0 Q  a0 a4 a5 a6 a7 κ) : zG C n0 4 mRa_scale 100 [some (.ref a0), none, none, none, some (.int a4), some (.int a5), some (.int a6), some (.int a7)] [] κ (oV Q noX) := by
  unfold w_Ra_scale_100 at F
  refine y_aln dX8_scale_100 rfl ?_
  refine gf_X8_14 W dX8_scale_101 rfl Ta0 ?_
  refine y_il dX8_scale_104 rfl ?_
  refine y_il dX8_scale_106 rfl ?_
  refine y_div dX8_scale_108 F.1 ?_
  replace F := F.2
  refine y_i2l dX8_scale_109 ?_
  replace F := F (ty_raTop W Ta0)
  refine k_X8_53 W dX8_scale_110 rfl (Nat.le_of_ble_eq_true rfl) (Nat.le_of_ble_eq_true rfl) (Or.inl (ty_raTop W Ta0)) F (fun  κ1 Wκ1 Mκ1 F => ?_) (fun _ _ h9 => False.elim h9)
  replace F := F Wκ1 Mκ1
  refine y_aln dX8_scale_113 rfl ?_
  have h4 := (ztm W Mκ1 Ta0)
  refine gf_X8_20 Wκ1 dX8_scale_114 rfl h4 ?_
  refine y_il dX8_scale_117 rfl ?_
  refine y_il dX8_scale_119 rfl ?_
  refine y_div dX8_scale_121 F.1 ?_
  replace F := F.2
  refine y_i2l dX8_scale_122 ?_
  replace F := F (ty_raBottom Wκ1 h4)
  refine k_X8_53 Wκ1 dX8_scale_123 rfl (Nat.le_of_ble_eq_true rfl) (Nat.le_of_ble_eq_true rfl) (Or.inl (ty_raBottom Wκ1 h4)) F (fun  κ5 Wκ5 Mκ5 F => ?_) (fun _ _ h9 => False.elim h9)
  replace F := F Wκ5 Mκ5
  exact y_rv Wκ5 dX8_scale_126 rfl F

def w_Ra_scale_84 (C : zC) (n0 : Nat) (Q : zS → Prop)  (a0 : Nat) (a4 : Int32) (a5 : Int32) (a6 : Int32) (a7 : Int32) (κ : zS) : Prop :=
  (a7 ≤ (1 : Int32) →
    w_Ra_scale_100 C n0 Q  a0 a4 a5 a6 a7 κ) ∧
  (¬ a7 ≤ (1 : Int32) →
    ∀ _ : zT κ (zR κ raBottom a0) = 8,
    zRun C 0 mNu_over [.ref (zR κ raBottom a0), .int a7] κ (oI (fun r2 κ1 =>
      ∀ _ : zW C n0 κ1,
      ∀ _ : zM (zn κ) κ κ1,
      w_Ra_scale_100 C n0 Q  a0 a4 a5 a6 a7 κ1) noX))
theorem t_Ra_scale_84 {C : zC} {n0 : Nat} {Q : zS → Prop}   {a0 : Nat} {a4 : Int32} {a5 : Int32} {a6 : Int32} {a7 : Int32} {κ : zS} (W : zW C n0 κ) (Ta0 : zT κ a0 = 11) (F : w_Ra_scale_84 C n0 Q  a0 a4 a5 a6 a7 κ) : zG C n0 4 mRa_scale 84 [some (.ref a0), none, none, none, some (.int a4), some (.int a5), some (.int a6), some (.int a7)] [] κ (oV Q noX) := by
  unfold w_Ra_scale_84 at F
  refine y_il dX8_scale_84 rfl ?_
  refine y_ic dX8_scale_86 zi_1 ?_
  refine y_ii (a7 ≤ (1 : Int32)) dX8_scale_87 (t := 100) rfl rfl (fun c9 => ?_) (fun c9 => ?_)
  · replace F := F.1 c9
    exact y_k (t_Ra_scale_100  W Ta0 F) ⟨rfl, rfl, rfl, rfl, rfl, trivial⟩
  · replace F := F.2 c9
    refine y_aln dX8_scale_90 rfl ?_
    refine gf_X8_20 W dX8_scale_91 rfl Ta0 ?_
    refine y_il dX8_scale_94 rfl ?_
    replace F := F (ty_raBottom W Ta0)
    refine k_X8_50 W dX8_scale_96 rfl (Nat.le_of_ble_eq_true rfl) (Nat.le_of_ble_eq_true rfl) (Or.inl (ty_raBottom W Ta0)) F (fun r2 κ1 Wκ1 Mκ1 F => ?_) (fun _ _ h9 => False.elim h9)
    replace F := F Wκ1 Mκ1
    refine y_pop dX8_scale_99 rfl ?_
    have h4 := (ztm W Mκ1 Ta0)
    exact y_k (t_Ra_scale_100  Wκ1 h4 F) ⟨rfl, rfl, rfl, rfl, rfl, trivial⟩

def w_Ra_scale_0 (C : zC) (n0 : Nat) (Q : zS → Prop)  (a0 : Nat) (a1 : Int32) (a2 : Int32) (κ : zS) : Prop :=
  (a1 ≤ (0 : Int32) →
    ∀ _ : zT κ a0 = 11,
    zRun C 1 mRa_putZero [.ref a0] κ (oV (fun κ1 =>
      ∀ _ : zW C n0 κ1,
      ∀ _ : zM (zn κ) κ κ1,
      Q κ1) noX)) ∧
  (¬ a1 ≤ (0 : Int32) →
    (a2 ≤ (0 : Int32) →
      ∀ _ : zT κ a0 = 11,
      zRun C 1 mRa_putZero [.ref a0] κ (oV (fun κ4 =>
        ∀ _ : zW C n0 κ4,
        ∀ _ : zM (zn κ) κ κ4,
        Q κ4) noX)) ∧
    (¬ a2 ≤ (0 : Int32) →
      (¬ (zI κ raSign a0) = (0 : Int32) →
        zRun C 1 mCh_commonInt [.int a1, .int a2] κ (oI (fun r8 κ7 =>
          ∀ _ : zW C n0 κ7,
          ∀ _ : zM (zn κ) κ κ7,
          ¬ r8 = 0 ∧
          ∀ v4_10 : Int32, v4_10 = (a1 / r8) →
          ¬ r8 = 0 ∧
          ∀ v5_11 : Int32, v5_11 = (a2 / r8) →
          ∀ _ : zT κ7 (zR κ7 raTop a0) = 8,
          zRun C 0 mNu_rest [.ref (zR κ7 raTop a0), .int v5_11] κ7 (oI (fun r14 κ13 =>
            ∀ _ : zW C n0 κ13,
            ∀ _ : zM (zn κ7) κ7 κ13,
            zRun C 1 mCh_commonInt [.int v5_11, .int r14] κ13 (oI (fun r17 κ16 =>
              ∀ _ : zW C n0 κ16,
              ∀ _ : zM (zn κ13) κ13 κ16,
              ∀ _ : zT κ16 (zR κ16 raBottom a0) = 8,
              zRun C 0 mNu_rest [.ref (zR κ16 raBottom a0), .int v4_10] κ16 (oI (fun r21 κ20 =>
                ∀ _ : zW C n0 κ20,
                ∀ _ : zM (zn κ16) κ16 κ20,
                zRun C 1 mCh_commonInt [.int v4_10, .int r21] κ20 (oI (fun r24 κ23 =>
                  ∀ _ : zW C n0 κ23,
                  ∀ _ : zM (zn κ20) κ20 κ23,
                  (r17 ≤ (1 : Int32) →
                    w_Ra_scale_84 C n0 Q  a0 v4_10 v5_11 r17 r24 κ23) ∧
                  (¬ r17 ≤ (1 : Int32) →
                    ∀ _ : zT κ23 (zR κ23 raTop a0) = 8,
                    zRun C 0 mNu_over [.ref (zR κ23 raTop a0), .int r17] κ23 (oI (fun r29 κ28 =>
                      ∀ _ : zW C n0 κ28,
                      ∀ _ : zM (zn κ23) κ23 κ28,
                      w_Ra_scale_84 C n0 Q  a0 v4_10 v5_11 r17 r24 κ28) noX))) noX)) noX)) noX)) noX)) noX)) ∧
      ((zI κ raSign a0) = (0 : Int32) →
        ∀ _ : zT κ a0 = 11,
        zRun C 1 mRa_putZero [.ref a0] κ (oV (fun κ32 =>
          ∀ _ : zW C n0 κ32,
          ∀ _ : zM (zn κ) κ κ32,
          Q κ32) noX))))
theorem t_Ra_scale_0 {C : zC} {n0 : Nat} {Q : zS → Prop}   {a0 : Nat} {a1 : Int32} {a2 : Int32} {κ : zS} (W : zW C n0 κ) (Ta0 : zT κ a0 = 11) (F : w_Ra_scale_0 C n0 Q  a0 a1 a2 κ) : zG C n0 4 mRa_scale 0 [some (.ref a0), some (.int a1), some (.int a2), none, none, none, none, none] [] κ (oV Q noX) := by
  unfold w_Ra_scale_0 at F
  refine y_iln dX8_scale_0 rfl ?_
  refine y_i (a1 ≤ (0 : Int32)) dX8_scale_1 (t := 15) rfl rfl (fun c9 => ?_) (fun c9 => ?_)
  · replace F := F.1 c9
    refine y_aln dX8_scale_15 rfl ?_
    replace F := F Ta0
    refine k_X8_39 W dX8_scale_16 rfl (Nat.le_of_ble_eq_true rfl) (Nat.le_of_ble_eq_true rfl) (Or.inl Ta0) F (fun  κ1 Wκ1 Mκ1 F => ?_) (fun _ _ h9 => False.elim h9)
    replace F := F Wκ1 Mκ1
    exact y_rv Wκ1 dX8_scale_19 rfl F
  · replace F := F.2 c9
    refine y_iln dX8_scale_4 rfl ?_
    refine y_i (a2 ≤ (0 : Int32)) dX8_scale_5 (t := 15) rfl rfl (fun c9 => ?_) (fun c9 => ?_)
    · replace F := F.1 c9
      refine y_aln dX8_scale_15 rfl ?_
      replace F := F Ta0
      refine k_X8_39 W dX8_scale_16 rfl (Nat.le_of_ble_eq_true rfl) (Nat.le_of_ble_eq_true rfl) (Or.inl Ta0) F (fun  κ4 Wκ4 Mκ4 F => ?_) (fun _ _ h9 => False.elim h9)
      replace F := F Wκ4 Mκ4
      exact y_rv Wκ4 dX8_scale_19 rfl F
    · replace F := F.2 c9
      refine y_aln dX8_scale_8 rfl ?_
      refine gf_X8_27 dX8_scale_9 rfl (Or.inl Ta0) ?_
      refine y_in ((zI κ raSign a0) = (0 : Int32)) dX8_scale_12 (t := 20) rfl rfl (fun c9 => ?_) (fun c9 => ?_)
      · replace F := F.1 c9
        refine y_iln dX8_scale_20 rfl ?_
        refine y_iln dX8_scale_21 rfl ?_
        refine k_X8_42 W dX8_scale_22 rfl (Nat.le_of_ble_eq_true rfl) (Nat.le_of_ble_eq_true rfl)  F (fun r8 κ7 Wκ7 Mκ7 F => ?_) (fun _ _ h9 => False.elim h9)
        replace F := F Wκ7 Mκ7
        refine y_isn dX8_scale_25 (Nat.le_of_ble_eq_true rfl) rfl ?_
        show zG _ _ _ _ _ [some (.ref a0), some (.int a1), some (.int a2), some (.int r8), none, none, none, none] _ _ _
        refine y_iln dX8_scale_26 rfl ?_
        refine y_iln dX8_scale_27 rfl ?_
        refine y_div dX8_scale_28 F.1 ?_
        replace F := F.2
        refine y_isb dX8_scale_29 (Nat.le_of_ble_eq_true rfl) (fun v4_10 ev4_10 => ?_)
        replace F := F v4_10 ev4_10
        show zG _ _ _ _ _ [some (.ref a0), some (.int a1), some (.int a2), some (.int r8), some (.int v4_10), none, none, none] _ _ _
        refine y_iln dX8_scale_31 rfl ?_
        refine y_iln dX8_scale_32 rfl ?_
        refine y_div dX8_scale_33 F.1 ?_
        replace F := F.2
        refine y_isb dX8_scale_34 (Nat.le_of_ble_eq_true rfl) (fun v5_11 ev5_11 => ?_)
        replace F := F v5_11 ev5_11
        show zG _ _ _ _ _ [some (.ref a0), some (.int a1), some (.int a2), some (.int r8), some (.int v4_10), some (.int v5_11), none, none] _ _ _
        refine y_il dX8_scale_36 rfl ?_
        refine y_aln dX8_scale_38 rfl ?_
        have h12 := (ztm W Mκ7 Ta0)
        refine gf_X8_14 Wκ7 dX8_scale_39 rfl h12 ?_
        refine y_il dX8_scale_42 rfl ?_
        replace F := F (ty_raTop Wκ7 h12)
        refine k_X8_46 Wκ7 dX8_scale_44 rfl (Nat.le_of_ble_eq_true rfl) (Nat.le_of_ble_eq_true rfl) (Or.inl (ty_raTop Wκ7 h12)) F (fun r14 κ13 Wκ13 Mκ13 F => ?_) (fun _ _ h9 => False.elim h9)
        replace F := F Wκ13 Mκ13
        refine k_X8_42 Wκ13 dX8_scale_47 rfl (Nat.le_of_ble_eq_true rfl) (Nat.le_of_ble_eq_true rfl)  F (fun r17 κ16 Wκ16 Mκ16 F => ?_) (fun _ _ h9 => False.elim h9)
        replace F := F Wκ16 Mκ16
        refine y_is dX8_scale_50 (Nat.le_of_ble_eq_true rfl) rfl ?_
        show zG _ _ _ _ _ [some (.ref a0), some (.int a1), some (.int a2), some (.int r8), some (.int v4_10), some (.int v5_11), some (.int r17), none] _ _ _
        refine y_il dX8_scale_52 rfl ?_
        refine y_aln dX8_scale_54 rfl ?_
        have h19 := (ztm Wκ13 Mκ16 (ztm Wκ7 Mκ13 h12))
        refine gf_X8_20 Wκ16 dX8_scale_55 rfl h19 ?_
        refine y_il dX8_scale_58 rfl ?_
        replace F := F (ty_raBottom Wκ16 h19)
        refine k_X8_46 Wκ16 dX8_scale_60 rfl (Nat.le_of_ble_eq_true rfl) (Nat.le_of_ble_eq_true rfl) (Or.inl (ty_raBottom Wκ16 h19)) F (fun r21 κ20 Wκ20 Mκ20 F => ?_) (fun _ _ h9 => False.elim h9)
        replace F := F Wκ20 Mκ20
        refine k_X8_42 Wκ20 dX8_scale_63 rfl (Nat.le_of_ble_eq_true rfl) (Nat.le_of_ble_eq_true rfl)  F (fun r24 κ23 Wκ23 Mκ23 F => ?_) (fun _ _ h9 => False.elim h9)
        replace F := F Wκ23 Mκ23
        refine y_is dX8_scale_66 (Nat.le_of_ble_eq_true rfl) rfl ?_
        show zG _ _ _ _ _ [some (.ref a0), some (.int a1), some (.int a2), some (.int r8), some (.int v4_10), some (.int v5_11), some (.int r17), some (.int r24)] _ _ _
        refine y_il dX8_scale_68 rfl ?_
        refine y_ic dX8_scale_70 zi_1 ?_
        refine y_ii (r17 ≤ (1 : Int32)) dX8_scale_71 (t := 84) rfl rfl (fun c9 => ?_) (fun c9 => ?_)
        · replace F := F.1 c9
          have h26 := (ztm Wκ20 Mκ23 (ztm Wκ16 Mκ20 h19))
          exact y_k (t_Ra_scale_84  Wκ23 h26 F) ⟨rfl, rfl, rfl, rfl, rfl, trivial⟩
        · replace F := F.2 c9
          refine y_aln dX8_scale_74 rfl ?_
          have h27 := (ztm Wκ20 Mκ23 (ztm Wκ16 Mκ20 h19))
          refine gf_X8_14 Wκ23 dX8_scale_75 rfl h27 ?_
          refine y_il dX8_scale_78 rfl ?_
          replace F := F (ty_raTop Wκ23 h27)
          refine k_X8_50 Wκ23 dX8_scale_80 rfl (Nat.le_of_ble_eq_true rfl) (Nat.le_of_ble_eq_true rfl) (Or.inl (ty_raTop Wκ23 h27)) F (fun r29 κ28 Wκ28 Mκ28 F => ?_) (fun _ _ h9 => False.elim h9)
          replace F := F Wκ28 Mκ28
          refine y_pop dX8_scale_83 rfl ?_
          have h31 := (ztm Wκ23 Mκ28 h27)
          exact y_k (t_Ra_scale_84  Wκ28 h31 F) ⟨rfl, rfl, rfl, rfl, rfl, trivial⟩
      · replace F := F.2 c9
        refine y_aln dX8_scale_15 rfl ?_
        replace F := F Ta0
        refine k_X8_39 W dX8_scale_16 rfl (Nat.le_of_ble_eq_true rfl) (Nat.le_of_ble_eq_true rfl) (Or.inl Ta0) F (fun  κ32 Wκ32 Mκ32 F => ?_) (fun _ _ h9 => False.elim h9)
        replace F := F Wκ32 Mκ32
        exact y_rv Wκ32 dX8_scale_19 rfl F

theorem Ra_scale_run {C : zC} {n0 : Nat} {Q : zS → Prop} {a0 : Nat} {a1 : Int32} {a2 : Int32} {κ : zS} (W : zW C n0 κ) (Ta0 : zT κ a0 = 11) (F : w_Ra_scale_0 C (zn κ) Q a0 a1 a2 κ) : zRun C 4 mRa_scale [.ref a0, .int a1, .int a2] κ (oV Q noX) := z_run (m_ent _ 5) (t_Ra_scale_0 (W.lo (Nat.le_trans W.1.2.1 W.1.2.2) (Nat.le_refl _)) Ta0 F)

theorem dX8_addWhole_0 : decode cX8_addWhole 0 = .ok (.iload_n 1, 1) := by decide +kernel
theorem dX8_addWhole_1 : decode cX8_addWhole 1 = .ok (.ifCond .ne 4, 3) := by decide +kernel
theorem dX8_addWhole_4 : decode cX8_addWhole 4 = .ok (.return_, 1) := by decide +kernel
theorem dX8_addWhole_5 : decode cX8_addWhole 5 = .ok (.aload_n 2, 1) := by decide +kernel
theorem dX8_addWhole_6 : decode cX8_addWhole 6 = .ok (.aload_n 0, 1) := by decide +kernel
theorem dX8_addWhole_7 : decode cX8_addWhole 7 = .ok (.getfield 20, 3) := by decide +kernel
theorem dX8_addWhole_10 : decode cX8_addWhole 10 = .ok (.invokevirtual 31, 3) := by decide +kernel
theorem dX8_addWhole_13 : decode cX8_addWhole 13 = .ok (.aload_n 2, 1) := by decide +kernel
theorem dX8_addWhole_14 : decode cX8_addWhole 14 = .ok (.iload_n 1, 1) := by decide +kernel
theorem dX8_addWhole_15 : decode cX8_addWhole 15 = .ok (.i2l, 1) := by decide +kernel
theorem dX8_addWhole_16 : decode cX8_addWhole 16 = .ok (.invokestatic 56, 3) := by decide +kernel
theorem dX8_addWhole_19 : decode cX8_addWhole 19 = .ok (.invokevirtual 53, 3) := by decide +kernel
theorem dX8_addWhole_22 : decode cX8_addWhole 22 = .ok (.iload_n 1, 1) := by decide +kernel
theorem dX8_addWhole_23 : decode cX8_addWhole 23 = .ok (.ifCond .le 7, 3) := by decide +kernel
theorem dX8_addWhole_26 : decode cX8_addWhole 26 = .ok (.iconst 1, 1) := by decide +kernel
theorem dX8_addWhole_27 : decode cX8_addWhole 27 = .ok (.goto 4, 3) := by decide +kernel
theorem dX8_addWhole_30 : decode cX8_addWhole 30 = .ok (.iconst (-1), 1) := by decide +kernel
theorem dX8_addWhole_31 : decode cX8_addWhole 31 = .ok (.istore_n 3, 1) := by decide +kernel
theorem dX8_addWhole_32 : decode cX8_addWhole 32 = .ok (.aload_n 0, 1) := by decide +kernel
theorem dX8_addWhole_33 : decode cX8_addWhole 33 = .ok (.getfield 27, 3) := by decide +kernel
theorem dX8_addWhole_36 : decode cX8_addWhole 36 = .ok (.iload_n 3, 1) := by decide +kernel
theorem dX8_addWhole_37 : decode cX8_addWhole 37 = .ok (.ineg, 1) := by decide +kernel
theorem dX8_addWhole_38 : decode cX8_addWhole 38 = .ok (.if_icmp .ne 60, 3) := by decide +kernel
theorem dX8_addWhole_41 : decode cX8_addWhole 41 = .ok (.aload_n 2, 1) := by decide +kernel
theorem dX8_addWhole_42 : decode cX8_addWhole 42 = .ok (.aload_n 0, 1) := by decide +kernel
theorem dX8_addWhole_43 : decode cX8_addWhole 43 = .ok (.getfield 14, 3) := by decide +kernel
theorem dX8_addWhole_46 : decode cX8_addWhole 46 = .ok (.invokevirtual 62, 3) := by decide +kernel
theorem dX8_addWhole_49 : decode cX8_addWhole 49 = .ok (.istore 4, 2) := by decide +kernel
theorem dX8_addWhole_51 : decode cX8_addWhole 51 = .ok (.iload 4, 2) := by decide +kernel
theorem dX8_addWhole_53 : decode cX8_addWhole 53 = .ok (.ifCond .ge 12, 3) := by decide +kernel
theorem dX8_addWhole_56 : decode cX8_addWhole 56 = .ok (.aload_n 0, 1) := by decide +kernel
theorem dX8_addWhole_57 : decode cX8_addWhole 57 = .ok (.getfield 14, 3) := by decide +kernel
theorem dX8_addWhole_60 : decode cX8_addWhole 60 = .ok (.aload_n 2, 1) := by decide +kernel
theorem dX8_addWhole_61 : decode cX8_addWhole 61 = .ok (.invokevirtual 66, 3) := by decide +kernel
theorem dX8_addWhole_64 : decode cX8_addWhole 64 = .ok (.return_, 1) := by decide +kernel
theorem dX8_addWhole_65 : decode cX8_addWhole 65 = .ok (.aload_n 2, 1) := by decide +kernel
theorem dX8_addWhole_66 : decode cX8_addWhole 66 = .ok (.aload_n 0, 1) := by decide +kernel
theorem dX8_addWhole_67 : decode cX8_addWhole 67 = .ok (.getfield 14, 3) := by decide +kernel
theorem dX8_addWhole_70 : decode cX8_addWhole 70 = .ok (.invokevirtual 66, 3) := by decide +kernel
theorem dX8_addWhole_73 : decode cX8_addWhole 73 = .ok (.aload_n 0, 1) := by decide +kernel
theorem dX8_addWhole_74 : decode cX8_addWhole 74 = .ok (.getfield 14, 3) := by decide +kernel
theorem dX8_addWhole_77 : decode cX8_addWhole 77 = .ok (.aload_n 2, 1) := by decide +kernel
theorem dX8_addWhole_78 : decode cX8_addWhole 78 = .ok (.invokevirtual 31, 3) := by decide +kernel
theorem dX8_addWhole_81 : decode cX8_addWhole 81 = .ok (.aload_n 0, 1) := by decide +kernel
theorem dX8_addWhole_82 : decode cX8_addWhole 82 = .ok (.iload 4, 2) := by decide +kernel
theorem dX8_addWhole_84 : decode cX8_addWhole 84 = .ok (.ifCond .ne 7, 3) := by decide +kernel
theorem dX8_addWhole_87 : decode cX8_addWhole 87 = .ok (.iconst 0, 1) := by decide +kernel
theorem dX8_addWhole_88 : decode cX8_addWhole 88 = .ok (.goto 4, 3) := by decide +kernel
theorem dX8_addWhole_91 : decode cX8_addWhole 91 = .ok (.iload_n 3, 1) := by decide +kernel
theorem dX8_addWhole_92 : decode cX8_addWhole 92 = .ok (.putfield 27, 3) := by decide +kernel
theorem dX8_addWhole_95 : decode cX8_addWhole 95 = .ok (.goto 16, 3) := by decide +kernel
theorem dX8_addWhole_98 : decode cX8_addWhole 98 = .ok (.aload_n 0, 1) := by decide +kernel
theorem dX8_addWhole_99 : decode cX8_addWhole 99 = .ok (.getfield 14, 3) := by decide +kernel
theorem dX8_addWhole_102 : decode cX8_addWhole 102 = .ok (.aload_n 2, 1) := by decide +kernel
theorem dX8_addWhole_103 : decode cX8_addWhole 103 = .ok (.invokevirtual 69, 3) := by decide +kernel
theorem dX8_addWhole_106 : decode cX8_addWhole 106 = .ok (.aload_n 0, 1) := by decide +kernel
theorem dX8_addWhole_107 : decode cX8_addWhole 107 = .ok (.iload_n 3, 1) := by decide +kernel
theorem dX8_addWhole_108 : decode cX8_addWhole 108 = .ok (.putfield 27, 3) := by decide +kernel
theorem dX8_addWhole_111 : decode cX8_addWhole 111 = .ok (.return_, 1) := by decide +kernel
def w_Ra_addWhole_31 (C : zC) (n0 : Nat) (Q : zS → Prop)  (a0 : Nat) (a2 : Nat) (s0 : Int32) (κ : zS) : Prop :=
  (¬ (zI κ raSign a0) = (-s0) →
    ∀ _ : zT κ (zR κ raTop a0) = 8,
    ∀ _ : zT κ a2 = 8,
    zRun C 3 mNu_plus [.ref (zR κ raTop a0), .ref a2] κ (oV (fun κ1 =>
      ∀ _ : zW C n0 κ1,
      ∀ _ : zM (zn κ) κ κ1,
      ∀ κ4, κ4 = ui κ1 raSign a0 s0 →
      ∀ _ : zW C n0 κ4,
      Q κ4) noX)) ∧
  ((zI κ raSign a0) = (-s0) →
    ∀ _ : zT κ a2 = 8,
    ∀ _ : zT κ (zR κ raTop a0) = 8,
    zRun C 0 mNu_compare [.ref a2, .ref (zR κ raTop a0)] κ (oI (fun r7 κ6 =>
      ∀ _ : zW C n0 κ6,
      ∀ _ : zM (zn κ) κ κ6,
      ((0 : Int32) ≤ r7 →
        ∀ _ : zT κ6 a2 = 8,
        ∀ _ : zT κ6 (zR κ6 raTop a0) = 8,
        zRun C 1 mNu_minus [.ref a2, .ref (zR κ6 raTop a0)] κ6 (oV (fun κ10 =>
          ∀ _ : zW C n0 κ10,
          ∀ _ : zM (zn κ6) κ6 κ10,
          ∀ _ : zT κ10 (zR κ10 raTop a0) = 8,
          ∀ _ : zT κ10 a2 = 8,
          zRun C 1 mNu_copy [.ref (zR κ10 raTop a0), .ref a2] κ10 (oV (fun κ15 =>
            ∀ _ : zW C n0 κ15,
            ∀ _ : zM (zn κ10) κ10 κ15,
            (¬ r7 = (0 : Int32) →
              ∀ κ19, κ19 = ui κ15 raSign a0 s0 →
              ∀ _ : zW C n0 κ19,
              Q κ19) ∧
            (r7 = (0 : Int32) →
              ∀ κ21, κ21 = ui κ15 raSign a0 (0 : Int32) →
              ∀ _ : zW C n0 κ21,
              Q κ21)) noX)) noX)) ∧
      (¬ (0 : Int32) ≤ r7 →
        ∀ _ : zT κ6 (zR κ6 raTop a0) = 8,
        ∀ _ : zT κ6 a2 = 8,
        zRun C 1 mNu_minus [.ref (zR κ6 raTop a0), .ref a2] κ6 (oV (fun κ24 =>
          ∀ _ : zW C n0 κ24,
          ∀ _ : zM (zn κ6) κ6 κ24,
          Q κ24) noX))) noX))
theorem t_Ra_addWhole_31 {C : zC} {n0 : Nat} {Q : zS → Prop}   {a0 : Nat} {a2 : Nat} {s0 : Int32} {κ : zS} (W : zW C n0 κ) (Ta0 : zT κ a0 = 11) (Ta2 : zT κ a2 = 8) (F : w_Ra_addWhole_31 C n0 Q  a0 a2 s0 κ) : zG C n0 4 mRa_addWhole 31 [some (.ref a0), none, some (.ref a2), none, none] [.int s0] κ (oV Q noX) := by
  unfold w_Ra_addWhole_31 at F
  refine y_isn dX8_addWhole_31 (Nat.le_of_ble_eq_true rfl) rfl ?_
  show zG _ _ _ _ _ [some (.ref a0), none, some (.ref a2), some (.int s0), none] _ _ _
  refine y_aln dX8_addWhole_32 rfl ?_
  refine gf_X8_27 dX8_addWhole_33 rfl (Or.inl Ta0) ?_
  refine y_iln dX8_addWhole_36 rfl ?_
  refine y_ineg dX8_addWhole_37 ?_
  refine y_iin ((zI κ raSign a0) = (-s0)) dX8_addWhole_38 (t := 98) rfl rfl (fun c9 => ?_) (fun c9 => ?_)
  · replace F := F.1 c9
    refine y_aln dX8_addWhole_98 rfl ?_
    refine gf_X8_14 W dX8_addWhole_99 rfl Ta0 ?_
    refine y_aln dX8_addWhole_102 rfl ?_
    replace F := F (ty_raTop W Ta0)
    replace F := F Ta2
    refine k_X8_69 W dX8_addWhole_103 rfl (Nat.le_of_ble_eq_true rfl) (Nat.le_of_ble_eq_true rfl) (Or.inl (ty_raTop W Ta0)) F (fun  κ1 Wκ1 Mκ1 F => ?_) (fun _ _ h9 => False.elim h9)
    replace F := F Wκ1 Mκ1
    refine y_aln dX8_addWhole_106 rfl ?_
    refine y_iln dX8_addWhole_107 rfl ?_
    have h5 := (ztm W Mκ1 Ta0)
    refine pf_X8_27 Wκ1 dX8_addWhole_108 rfl (Or.inl h5) (fun κ4 eκ4 => ?_)
    replace F := F κ4 eκ4
    have Wκ4 : zW C n0 κ4 := zW_ui Wκ1 eκ4 (fun h => absurd h (by decide))
    have Mκ4 : zM (zn κ1) κ1 κ4 := by rw [eκ4]; exact zM.of rfl rfl rfl
    replace F := F Wκ4
    exact y_rv Wκ4 dX8_addWhole_111 rfl F
  · replace F := F.2 c9
    refine y_aln dX8_addWhole_41 rfl ?_
    refine y_aln dX8_addWhole_42 rfl ?_
    refine gf_X8_14 W dX8_addWhole_43 rfl Ta0 ?_
    replace F := F Ta2
    replace F := F (ty_raTop W Ta0)
    refine k_X8_62 W dX8_addWhole_46 rfl (Nat.le_of_ble_eq_true rfl) (Nat.le_of_ble_eq_true rfl) (Or.inl Ta2) F (fun r7 κ6 Wκ6 Mκ6 F => ?_) (fun _ _ h9 => False.elim h9)
    replace F := F Wκ6 Mκ6
    refine y_is dX8_addWhole_49 (Nat.le_of_ble_eq_true rfl) rfl ?_
    show zG _ _ _ _ _ [some (.ref a0), none, some (.ref a2), some (.int s0), some (.int r7)] _ _ _
    refine y_il dX8_addWhole_51 rfl ?_
    refine y_i ((0 : Int32) ≤ r7) dX8_addWhole_53 (t := 65) rfl rfl (fun c9 => ?_) (fun c9 => ?_)
    · replace F := F.1 c9
      refine y_aln dX8_addWhole_65 rfl ?_
      refine y_aln dX8_addWhole_66 rfl ?_
      have h9 := (ztm W Mκ6 Ta0)
      refine gf_X8_14 Wκ6 dX8_addWhole_67 rfl h9 ?_
      have h12 := (ztm W Mκ6 Ta2)
      replace F := F h12
      replace F := F (ty_raTop Wκ6 h9)
      refine k_X8_66 Wκ6 dX8_addWhole_70 rfl (Nat.le_of_ble_eq_true rfl) (Nat.le_of_ble_eq_true rfl) (Or.inl h12) F (fun  κ10 Wκ10 Mκ10 F => ?_) (fun _ _ h9 => False.elim h9)
      replace F := F Wκ10 Mκ10
      refine y_aln dX8_addWhole_73 rfl ?_
      have h14 := (ztm Wκ6 Mκ10 h9)
      refine gf_X8_14 Wκ10 dX8_addWhole_74 rfl h14 ?_
      refine y_aln dX8_addWhole_77 rfl ?_
      replace F := F (ty_raTop Wκ10 h14)
      have h17 := (ztm Wκ6 Mκ10 h12)
      replace F := F h17
      refine k_X8_31 Wκ10 dX8_addWhole_78 rfl (Nat.le_of_ble_eq_true rfl) (Nat.le_of_ble_eq_true rfl) (Or.inl (ty_raTop Wκ10 h14)) F (fun  κ15 Wκ15 Mκ15 F => ?_) (fun _ _ h9 => False.elim h9)
      replace F := F Wκ15 Mκ15
      refine y_aln dX8_addWhole_81 rfl ?_
      refine y_il dX8_addWhole_82 rfl ?_
      refine y_in (r7 = (0 : Int32)) dX8_addWhole_84 (t := 91) rfl rfl (fun c9 => ?_) (fun c9 => ?_)
      · replace F := F.1 c9
        refine y_iln dX8_addWhole_91 rfl ?_
        have h20 := (ztm Wκ10 Mκ15 h14)
        refine pf_X8_27 Wκ15 dX8_addWhole_92 rfl (Or.inl h20) (fun κ19 eκ19 => ?_)
        replace F := F κ19 eκ19
        have Wκ19 : zW C n0 κ19 := zW_ui Wκ15 eκ19 (fun h => absurd h (by decide))
        have Mκ19 : zM (zn κ15) κ15 κ19 := by rw [eκ19]; exact zM.of rfl rfl rfl
        replace F := F Wκ19
        refine y_goto dX8_addWhole_95 (t := 111) rfl ?_
        exact y_rv Wκ19 dX8_addWhole_111 rfl F
      · replace F := F.2 c9
        refine y_ic dX8_addWhole_87 zi_0 ?_
        refine y_goto dX8_addWhole_88 (t := 92) rfl ?_
        have h22 := (ztm Wκ10 Mκ15 h14)
        refine pf_X8_27 Wκ15 dX8_addWhole_92 rfl (Or.inl h22) (fun κ21 eκ21 => ?_)
        replace F := F κ21 eκ21
        have Wκ21 : zW C n0 κ21 := zW_ui Wκ15 eκ21 (fun h => absurd h (by decide))
        have Mκ21 : zM (zn κ15) κ15 κ21 := by rw [eκ21]; exact zM.of rfl rfl rfl
        replace F := F Wκ21
        refine y_goto dX8_addWhole_95 (t := 111) rfl ?_
        exact y_rv Wκ21 dX8_addWhole_111 rfl F
    · replace F := F.2 c9
      refine y_aln dX8_addWhole_56 rfl ?_
      have h23 := (ztm W Mκ6 Ta0)
      refine gf_X8_14 Wκ6 dX8_addWhole_57 rfl h23 ?_
      refine y_aln dX8_addWhole_60 rfl ?_
      replace F := F (ty_raTop Wκ6 h23)
      have h26 := (ztm W Mκ6 Ta2)
      replace F := F h26
      refine k_X8_66 Wκ6 dX8_addWhole_61 rfl (Nat.le_of_ble_eq_true rfl) (Nat.le_of_ble_eq_true rfl) (Or.inl (ty_raTop Wκ6 h23)) F (fun  κ24 Wκ24 Mκ24 F => ?_) (fun _ _ h9 => False.elim h9)
      replace F := F Wκ24 Mκ24
      exact y_rv Wκ24 dX8_addWhole_64 rfl F

def w_Ra_addWhole_0 (C : zC) (n0 : Nat) (Q : zS → Prop)  (a0 : Nat) (a1 : Int32) (a2 : Nat) (κ : zS) : Prop :=
  (¬ a1 = (0 : Int32) →
    ∀ _ : zT κ a2 = 8,
    ∀ _ : zT κ (zR κ raBottom a0) = 8,
    zRun C 1 mNu_copy [.ref a2, .ref (zR κ raBottom a0)] κ (oV (fun κ1 =>
      ∀ _ : zW C n0 κ1,
      ∀ _ : zM (zn κ) κ κ1,
      ∀ _ : zT κ1 a2 = 8,
      zRun C 3 mNu_times [.ref a2, .long (if 0 < (Int32.toInt64 a1) then (Int32.toInt64 a1) else -(Int32.toInt64 a1))] κ1 (oV (fun κ4 =>
        ∀ _ : zW C n0 κ4,
        ∀ _ : zM (zn κ1) κ1 κ4,
        (a1 ≤ (0 : Int32) →
          w_Ra_addWhole_31 C n0 Q  a0 a2 (-1 : Int32) κ4) ∧
        (¬ a1 ≤ (0 : Int32) →
          w_Ra_addWhole_31 C n0 Q  a0 a2 (1 : Int32) κ4)) noX)) noX)) ∧
  (a1 = (0 : Int32) →
    Q κ)
theorem t_Ra_addWhole_0 {C : zC} {n0 : Nat} {Q : zS → Prop}   {a0 : Nat} {a1 : Int32} {a2 : Nat} {κ : zS} (W : zW C n0 κ) (Ta0 : zT κ a0 = 11) (Ta2 : zT κ a2 = 8) (F : w_Ra_addWhole_0 C n0 Q  a0 a1 a2 κ) : zG C n0 4 mRa_addWhole 0 [some (.ref a0), some (.int a1), some (.ref a2), none, none] [] κ (oV Q noX) := by
  unfold w_Ra_addWhole_0 at F
  refine y_iln dX8_addWhole_0 rfl ?_
  refine y_in (a1 = (0 : Int32)) dX8_addWhole_1 (t := 5) rfl rfl (fun c9 => ?_) (fun c9 => ?_)
  · replace F := F.1 c9
    refine y_aln dX8_addWhole_5 rfl ?_
    refine y_aln dX8_addWhole_6 rfl ?_
    refine gf_X8_20 W dX8_addWhole_7 rfl Ta0 ?_
    replace F := F Ta2
    replace F := F (ty_raBottom W Ta0)
    refine k_X8_31 W dX8_addWhole_10 rfl (Nat.le_of_ble_eq_true rfl) (Nat.le_of_ble_eq_true rfl) (Or.inl Ta2) F (fun  κ1 Wκ1 Mκ1 F => ?_) (fun _ _ h9 => False.elim h9)
    replace F := F Wκ1 Mκ1
    refine y_aln dX8_addWhole_13 rfl ?_
    refine y_iln dX8_addWhole_14 rfl ?_
    refine y_i2l dX8_addWhole_15 ?_
    refine y_absL dX8_addWhole_16 rfl zbi_X8_56 (Nat.le_of_ble_eq_true rfl) (Nat.le_of_ble_eq_true rfl) ?_
    have h6 := (ztm W Mκ1 Ta2)
    replace F := F h6
    refine k_X8_53 Wκ1 dX8_addWhole_19 rfl (Nat.le_of_ble_eq_true rfl) (Nat.le_of_ble_eq_true rfl) (Or.inl h6) F (fun  κ4 Wκ4 Mκ4 F => ?_) (fun _ _ h9 => False.elim h9)
    replace F := F Wκ4 Mκ4
    refine y_iln dX8_addWhole_22 rfl ?_
    refine y_i (a1 ≤ (0 : Int32)) dX8_addWhole_23 (t := 30) rfl rfl (fun c9 => ?_) (fun c9 => ?_)
    · replace F := F.1 c9
      refine y_ic dX8_addWhole_30 zi_m1 ?_
      have h8 := (ztm Wκ1 Mκ4 (ztm W Mκ1 Ta0))
      have h9 := (ztm Wκ1 Mκ4 h6)
      exact y_k (t_Ra_addWhole_31  Wκ4 h8 h9 F) ⟨rfl, rfl, trivial⟩
    · replace F := F.2 c9
      refine y_ic dX8_addWhole_26 zi_1 ?_
      refine y_goto dX8_addWhole_27 (t := 31) rfl ?_
      have h10 := (ztm Wκ1 Mκ4 (ztm W Mκ1 Ta0))
      have h11 := (ztm Wκ1 Mκ4 h6)
      exact y_k (t_Ra_addWhole_31  Wκ4 h10 h11 F) ⟨rfl, rfl, trivial⟩
  · replace F := F.2 c9
    exact y_rv W dX8_addWhole_4 rfl F

theorem Ra_addWhole_run {C : zC} {n0 : Nat} {Q : zS → Prop} {a0 : Nat} {a1 : Int32} {a2 : Nat} {κ : zS} (W : zW C n0 κ) (Ta0 : zT κ a0 = 11) (Ta2 : zT κ a2 = 8) (F : w_Ra_addWhole_0 C (zn κ) Q a0 a1 a2 κ) : zRun C 4 mRa_addWhole [.ref a0, .int a1, .ref a2] κ (oV Q noX) := z_run (m_ent _ 2) (t_Ra_addWhole_0 (W.lo (Nat.le_trans W.1.2.1 W.1.2.2) (Nat.le_refl _)) Ta0 Ta2 F)

theorem dX9_init_0 : decode cX9_init 0 = .ok (.aload_n 0, 1) := by decide +kernel
theorem dX9_init_1 : decode cX9_init 1 = .ok (.invokespecial 3, 3) := by decide +kernel
theorem dX9_init_4 : decode cX9_init 4 = .ok (.aload_n 0, 1) := by decide +kernel
theorem dX9_init_5 : decode cX9_init 5 = .ok (.aload_n 1, 1) := by decide +kernel
theorem dX9_init_6 : decode cX9_init 6 = .ok (.putfield 9, 3) := by decide +kernel
theorem dX9_init_9 : decode cX9_init 9 = .ok (.aload_n 0, 1) := by decide +kernel
theorem dX9_init_10 : decode cX9_init 10 = .ok (.aload_n 2, 1) := by decide +kernel
theorem dX9_init_11 : decode cX9_init 11 = .ok (.putfield 15, 3) := by decide +kernel
theorem dX9_init_14 : decode cX9_init 14 = .ok (.aload_n 0, 1) := by decide +kernel
theorem dX9_init_15 : decode cX9_init 15 = .ok (.aload_n 1, 1) := by decide +kernel
theorem dX9_init_16 : decode cX9_init 16 = .ok (.getfield 19, 3) := by decide +kernel
theorem dX9_init_19 : decode cX9_init 19 = .ok (.putfield 25, 3) := by decide +kernel
theorem dX9_init_22 : decode cX9_init 22 = .ok (.aload_n 0, 1) := by decide +kernel
theorem dX9_init_23 : decode cX9_init 23 = .ok (.iconst 0, 1) := by decide +kernel
theorem dX9_init_24 : decode cX9_init 24 = .ok (.anewarray 26, 3) := by decide +kernel
theorem dX9_init_27 : decode cX9_init 27 = .ok (.putfield 28, 3) := by decide +kernel
theorem dX9_init_30 : decode cX9_init 30 = .ok (.aload_n 0, 1) := by decide +kernel
theorem dX9_init_31 : decode cX9_init 31 = .ok (.iconst 0, 1) := by decide +kernel
theorem dX9_init_32 : decode cX9_init 32 = .ok (.anewarray 26, 3) := by decide +kernel
theorem dX9_init_35 : decode cX9_init 35 = .ok (.putfield 32, 3) := by decide +kernel
theorem dX9_init_38 : decode cX9_init 38 = .ok (.aload_n 0, 1) := by decide +kernel
theorem dX9_init_39 : decode cX9_init 39 = .ok (.new 35, 3) := by decide +kernel
theorem dX9_init_42 : decode cX9_init 42 = .ok (.dup, 1) := by decide +kernel
theorem dX9_init_43 : decode cX9_init 43 = .ok (.iconst 4, 1) := by decide +kernel
theorem dX9_init_44 : decode cX9_init 44 = .ok (.invokespecial 37, 3) := by decide +kernel
theorem dX9_init_47 : decode cX9_init 47 = .ok (.putfield 40, 3) := by decide +kernel
theorem dX9_init_50 : decode cX9_init 50 = .ok (.aload_n 0, 1) := by decide +kernel
theorem dX9_init_51 : decode cX9_init 51 = .ok (.new 26, 3) := by decide +kernel
theorem dX9_init_54 : decode cX9_init 54 = .ok (.dup, 1) := by decide +kernel
theorem dX9_init_55 : decode cX9_init 55 = .ok (.iconst 4, 1) := by decide +kernel
theorem dX9_init_56 : decode cX9_init 56 = .ok (.invokespecial 44, 3) := by decide +kernel
theorem dX9_init_59 : decode cX9_init 59 = .ok (.putfield 45, 3) := by decide +kernel
theorem dX9_init_62 : decode cX9_init 62 = .ok (.aload_n 0, 1) := by decide +kernel
theorem dX9_init_63 : decode cX9_init 63 = .ok (.new 35, 3) := by decide +kernel
theorem dX9_init_66 : decode cX9_init 66 = .ok (.dup, 1) := by decide +kernel
theorem dX9_init_67 : decode cX9_init 67 = .ok (.iconst 2, 1) := by decide +kernel
theorem dX9_init_68 : decode cX9_init 68 = .ok (.invokespecial 37, 3) := by decide +kernel
theorem dX9_init_71 : decode cX9_init 71 = .ok (.putfield 49, 3) := by decide +kernel
theorem dX9_init_74 : decode cX9_init 74 = .ok (.aload_n 0, 1) := by decide +kernel
theorem dX9_init_75 : decode cX9_init 75 = .ok (.new 35, 3) := by decide +kernel
theorem dX9_init_78 : decode cX9_init 78 = .ok (.dup, 1) := by decide +kernel
theorem dX9_init_79 : decode cX9_init 79 = .ok (.iconst 4, 1) := by decide +kernel
theorem dX9_init_80 : decode cX9_init 80 = .ok (.invokespecial 37, 3) := by decide +kernel
theorem dX9_init_83 : decode cX9_init 83 = .ok (.putfield 52, 3) := by decide +kernel
theorem dX9_init_86 : decode cX9_init 86 = .ok (.aload_n 0, 1) := by decide +kernel
theorem dX9_init_87 : decode cX9_init 87 = .ok (.new 35, 3) := by decide +kernel
theorem dX9_init_90 : decode cX9_init 90 = .ok (.dup, 1) := by decide +kernel
theorem dX9_init_91 : decode cX9_init 91 = .ok (.iconst 4, 1) := by decide +kernel
theorem dX9_init_92 : decode cX9_init 92 = .ok (.invokespecial 37, 3) := by decide +kernel
theorem dX9_init_95 : decode cX9_init 95 = .ok (.putfield 55, 3) := by decide +kernel
theorem dX9_init_98 : decode cX9_init 98 = .ok (.aload_n 0, 1) := by decide +kernel
theorem dX9_init_99 : decode cX9_init 99 = .ok (.new 35, 3) := by decide +kernel
theorem dX9_init_102 : decode cX9_init 102 = .ok (.dup, 1) := by decide +kernel
theorem dX9_init_103 : decode cX9_init 103 = .ok (.iconst 4, 1) := by decide +kernel
theorem dX9_init_104 : decode cX9_init 104 = .ok (.invokespecial 37, 3) := by decide +kernel
theorem dX9_init_107 : decode cX9_init 107 = .ok (.putfield 58, 3) := by decide +kernel
theorem dX9_init_110 : decode cX9_init 110 = .ok (.aload_n 0, 1) := by decide +kernel
theorem dX9_init_111 : decode cX9_init 111 = .ok (.new 35, 3) := by decide +kernel
theorem dX9_init_114 : decode cX9_init 114 = .ok (.dup, 1) := by decide +kernel
theorem dX9_init_115 : decode cX9_init 115 = .ok (.iconst 4, 1) := by decide +kernel
theorem dX9_init_116 : decode cX9_init 116 = .ok (.invokespecial 37, 3) := by decide +kernel
theorem dX9_init_119 : decode cX9_init 119 = .ok (.putfield 61, 3) := by decide +kernel
theorem dX9_init_122 : decode cX9_init 122 = .ok (.aload_n 0, 1) := by decide +kernel
theorem dX9_init_123 : decode cX9_init 123 = .ok (.iconst 0, 1) := by decide +kernel
theorem dX9_init_124 : decode cX9_init 124 = .ok (.anewarray 35, 3) := by decide +kernel
theorem dX9_init_127 : decode cX9_init 127 = .ok (.putfield 64, 3) := by decide +kernel
theorem dX9_init_130 : decode cX9_init 130 = .ok (.aload_n 0, 1) := by decide +kernel
theorem dX9_init_131 : decode cX9_init 131 = .ok (.iconst 0, 1) := by decide +kernel
theorem dX9_init_132 : decode cX9_init 132 = .ok (.newarray .int, 2) := by decide +kernel
theorem dX9_init_134 : decode cX9_init 134 = .ok (.putfield 68, 3) := by decide +kernel
theorem dX9_init_137 : decode cX9_init 137 = .ok (.aload_n 0, 1) := by decide +kernel
theorem dX9_init_138 : decode cX9_init 138 = .ok (.iconst 0, 1) := by decide +kernel
theorem dX9_init_139 : decode cX9_init 139 = .ok (.newarray .int, 2) := by decide +kernel
theorem dX9_init_141 : decode cX9_init 141 = .ok (.putfield 72, 3) := by decide +kernel
theorem dX9_init_144 : decode cX9_init 144 = .ok (.return_, 1) := by decide +kernel
def w_So_init_0 (C : zC) (n0 : Nat) (Q : zS → Prop)  (a0 : Nat) (a1 : Nat) (a2 : Nat) (κ : zS) : Prop :=
  ∀ κ1, κ1 = ur κ soAtlas a0 a1 →
  ∀ _ : zW C n0 κ1,
  ∀ κ2, κ2 = ur κ1 soCalc a0 a2 →
  ∀ _ : zW C n0 κ2,
  ∀ κ6, κ6 = ur κ2 soWeb a0 (zR κ2 atWeb a1) →
  ∀ _ : zW C n0 κ6,
  nsz (0 : Int32) ∧
  ∀ κ8, κ8 = na κ6 25 ((0 : Int32)).toNatClampNeg →
  ∀ _ : zW C n0 κ8,
  zO κ8 (zn κ6) = (0, 0) ∧
  ∀ κ11, κ11 = uo κ8 soVisits a0 (zn κ6) →
  ∀ _ : zW C n0 κ11,
  nsz (0 : Int32) ∧
  ∀ κ14, κ14 = na κ11 25 ((0 : Int32)).toNatClampNeg →
  ∀ _ : zW C n0 κ14,
  zO κ14 (zn κ11) = (0, 0) ∧
  ∀ κ17, κ17 = uo κ14 soWorths a0 (zn κ11) →
  ∀ _ : zW C n0 κ17,
  ∀ κ20, κ20 = noo κ17 8 →
  ∀ _ : zW C n0 κ20,
  ∀ _ : zT κ20 (zn κ17) = 48,
  zRun C 1 mNu_init [.ref (zn κ17), .int (4 : Int32)] κ20 (oV (fun κ22 =>
    ∀ _ : zW C n0 κ22,
    ∀ _ : zM (zn κ20) κ20 κ22,
    zOk κ22 (zn κ17) 8 ∧
    ∀ κ25, κ25 = nff κ22 (zn κ17) →
    ∀ _ : zW C n0 κ25,
    ∀ κ27, κ27 = ur κ25 soWhole a0 (zn κ17) →
    ∀ _ : zW C n0 κ27,
    ∀ κ29, κ29 = noo κ27 11 →
    ∀ _ : zW C n0 κ29,
    ∀ _ : zT κ29 (zn κ27) = 51,
    zRun C 2 mRa_init [.ref (zn κ27), .int (4 : Int32)] κ29 (oV (fun κ31 =>
      ∀ _ : zW C n0 κ31,
      ∀ _ : zM (zn κ29) κ29 κ31,
      zOk κ31 (zn κ27) 11 ∧
      ∀ κ34, κ34 = nff κ31 (zn κ27) →
      ∀ _ : zW C n0 κ34,
      ∀ κ36, κ36 = ur κ34 soPart a0 (zn κ27) →
      ∀ _ : zW C n0 κ36,
      ∀ κ38, κ38 = noo κ36 8 →
      ∀ _ : zW C n0 κ38,
      ∀ _ : zT κ38 (zn κ36) = 48,
      zRun C 1 mNu_init [.ref (zn κ36), .int (2 : Int32)] κ38 (oV (fun κ40 =>
        ∀ _ : zW C n0 κ40,
        ∀ _ : zM (zn κ38) κ38 κ40,
        zOk κ40 (zn κ36) 8 ∧
        ∀ κ43, κ43 = nff κ40 (zn κ36) →
        ∀ _ : zW C n0 κ43,
        ∀ κ45, κ45 = ur κ43 soFactor a0 (zn κ36) →
        ∀ _ : zW C n0 κ45,
        ∀ κ47, κ47 = noo κ45 8 →
        ∀ _ : zW C n0 κ47,
        ∀ _ : zT κ47 (zn κ45) = 48,
        zRun C 1 mNu_init [.ref (zn κ45), .int (4 : Int32)] κ47 (oV (fun κ49 =>
          ∀ _ : zW C n0 κ49,
          ∀ _ : zM (zn κ47) κ47 κ49,
          zOk κ49 (zn κ45) 8 ∧
          ∀ κ52, κ52 = nff κ49 (zn κ45) →
          ∀ _ : zW C n0 κ52,
          ∀ κ54, κ54 = ur κ52 soScaled a0 (zn κ45) →
          ∀ _ : zW C n0 κ54,
          ∀ κ56, κ56 = noo κ54 8 →
          ∀ _ : zW C n0 κ56,
          ∀ _ : zT κ56 (zn κ54) = 48,
          zRun C 1 mNu_init [.ref (zn κ54), .int (4 : Int32)] κ56 (oV (fun κ58 =>
            ∀ _ : zW C n0 κ58,
            ∀ _ : zM (zn κ56) κ56 κ58,
            zOk κ58 (zn κ54) 8 ∧
            ∀ κ61, κ61 = nff κ58 (zn κ54) →
            ∀ _ : zW C n0 κ61,
            ∀ κ63, κ63 = ur κ61 soTerm a0 (zn κ54) →
            ∀ _ : zW C n0 κ63,
            ∀ κ65, κ65 = noo κ63 8 →
            ∀ _ : zW C n0 κ65,
            ∀ _ : zT κ65 (zn κ63) = 48,
            zRun C 1 mNu_init [.ref (zn κ63), .int (4 : Int32)] κ65 (oV (fun κ67 =>
              ∀ _ : zW C n0 κ67,
              ∀ _ : zM (zn κ65) κ65 κ67,
              zOk κ67 (zn κ63) 8 ∧
              ∀ κ70, κ70 = nff κ67 (zn κ63) →
              ∀ _ : zW C n0 κ70,
              ∀ κ72, κ72 = ur κ70 soSum a0 (zn κ63) →
              ∀ _ : zW C n0 κ72,
              ∀ κ74, κ74 = noo κ72 8 →
              ∀ _ : zW C n0 κ74,
              ∀ _ : zT κ74 (zn κ72) = 48,
              zRun C 1 mNu_init [.ref (zn κ72), .int (4 : Int32)] κ74 (oV (fun κ76 =>
                ∀ _ : zW C n0 κ76,
                ∀ _ : zM (zn κ74) κ74 κ76,
                zOk κ76 (zn κ72) 8 ∧
                ∀ κ79, κ79 = nff κ76 (zn κ72) →
                ∀ _ : zW C n0 κ79,
                ∀ κ81, κ81 = ur κ79 soLess a0 (zn κ72) →
                ∀ _ : zW C n0 κ81,
                nsz (0 : Int32) ∧
                ∀ κ83, κ83 = na κ81 24 ((0 : Int32)).toNatClampNeg →
                ∀ _ : zW C n0 κ83,
                zO κ83 (zn κ81) = (0, 0) ∧
                ∀ κ86, κ86 = uo κ83 soCells a0 (zn κ81) →
                ∀ _ : zW C n0 κ86,
                nsz (0 : Int32) ∧
                ∀ κ89, κ89 = na κ86 20 ((0 : Int32)).toNatClampNeg →
                ∀ _ : zW C n0 κ89,
                zO κ89 (zn κ86) = (0, 0) ∧
                ∀ κ92, κ92 = uo κ89 soRows a0 (zn κ86) →
                ∀ _ : zW C n0 κ92,
                nsz (0 : Int32) ∧
                ∀ κ95, κ95 = na κ92 20 ((0 : Int32)).toNatClampNeg →
                ∀ _ : zW C n0 κ95,
                zO κ95 (zn κ92) = (0, 0) ∧
                ∀ κ98, κ98 = uo κ95 soTaken a0 (zn κ92) →
                ∀ _ : zW C n0 κ98,
                Q κ98) noX)) noX)) noX)) noX)) noX)) noX)) noX)
theorem t_So_init_0 {C : zC} {n0 : Nat} {Q : zS → Prop}   {a0 : Nat} {a1 : Nat} {a2 : Nat} {κ : zS} (W : zW C n0 κ) (Ta0 : zT κ a0 = 52) (Ta1 : zT κ a1 = 3) (Ta2 : zT κ a2 = 4) (F : w_So_init_0 C n0 Q  a0 a1 a2 κ) : zG C n0 3 mSo_init 0 [some (.ref a0), some (.ref a1), some (.ref a2)] [] κ (oV Q noX) := by
  unfold w_So_init_0 at F
  refine y_aln dX9_init_0 rfl ?_
  refine y_oinit dX9_init_1 rfl zbi_X9_3 (Nat.le_of_ble_eq_true rfl) (Nat.le_of_ble_eq_true rfl) ?_
  refine y_aln dX9_init_4 rfl ?_
  refine y_aln dX9_init_5 rfl ?_
  refine pf_X9_9 W dX9_init_6 rfl rfl (Or.inr Ta0) Ta1 (fun κ1 eκ1 => ?_)
  replace F := F κ1 eκ1
  have Wκ1 : zW C n0 κ1 := zW_ur W eκ1 (fun t ht => by cases ht; exact ⟨by decide, Ta1⟩)
  have Mκ1 : zM (zn κ) κ κ1 := by rw [eκ1]; exact zM.of rfl rfl rfl
  replace F := F Wκ1
  refine y_aln dX9_init_9 rfl ?_
  refine y_aln dX9_init_10 rfl ?_
  have h3 := (ztm W Mκ1 Ta2)
  have h4 := (ztm W Mκ1 Ta0)
  refine pf_X9_15 Wκ1 dX9_init_11 rfl rfl (Or.inr h4) h3 (fun κ2 eκ2 => ?_)
  replace F := F κ2 eκ2
  have Wκ2 : zW C n0 κ2 := zW_ur Wκ1 eκ2 (fun t ht => by cases ht; exact ⟨by decide, h3⟩)
  have Mκ2 : zM (zn κ1) κ1 κ2 := by rw [eκ2]; exact zM.of rfl rfl rfl
  replace F := F Wκ2
  refine y_aln dX9_init_14 rfl ?_
  refine y_aln dX9_init_15 rfl ?_
  have h5 := (ztm Wκ1 Mκ2 (ztm W Mκ1 Ta1))
  refine gf_X9_19 Wκ2 dX9_init_16 rfl h5 ?_
  have h7 := (ztm Wκ1 Mκ2 h4)
  refine pf_X9_25 Wκ2 dX9_init_19 rfl rfl (Or.inr h7) (ty_atWeb Wκ2 h5) (fun κ6 eκ6 => ?_)
  replace F := F κ6 eκ6
  have Wκ6 : zW C n0 κ6 := zW_ur Wκ2 eκ6 (fun t ht => by cases ht; exact ⟨by decide, (ty_atWeb Wκ2 h5)⟩)
  have Mκ6 : zM (zn κ2) κ2 κ6 := by rw [eκ6]; exact zM.of rfl rfl rfl
  replace F := F Wκ6
  refine y_aln dX9_init_22 rfl ?_
  refine y_ic dX9_init_23 zi_0 ?_
  have b9 := F.1
  refine y_newq (t := 5) Wκ6 dX9_init_24 rfl zan_X9_26 (by decide) b9 (fun κ8 eκ8 => ?_)
  replace F := F.2 κ8 eκ8
  have Wκ8 : zW C n0 κ8 := zW_na Wκ6 eκ8 (by decide) (by decide) b9.2
  have Mκ8 : zM (zn κ6) κ6 κ8 := zM_na (Wκ6.lo (Nat.le_trans Wκ6.1.2.1 Wκ6.1.2.2) (Nat.le_refl _)) eκ8
  replace F := F Wκ8
  have g10 : zT κ8 (zn κ6) = 25 := by rw [eκ8]; exact if_pos rfl
  have b12 := F.1
  replace F := F.2
  have h13 := (ztm Wκ6 Mκ8 (ztm Wκ2 Mκ6 h7))
  refine pf_X9_28 Wκ8 dX9_init_27 rfl (Or.inr h13) g10 (fun κ11 eκ11 => ?_)
  replace F := F κ11 eκ11
  have Wκ11 : zW C n0 κ11 := zW_uo Wκ8 eκ11 (fun t ht => by cases ht; exact g10) b12
  have Mκ11 : zM (zn κ8) κ8 κ11 := by rw [eκ11]; exact zM.of rfl rfl rfl
  replace F := F Wκ11
  refine y_aln dX9_init_30 rfl ?_
  refine y_ic dX9_init_31 zi_0 ?_
  have b15 := F.1
  refine y_newq (t := 5) Wκ11 dX9_init_32 rfl zan_X9_26 (by decide) b15 (fun κ14 eκ14 => ?_)
  replace F := F.2 κ14 eκ14
  have Wκ14 : zW C n0 κ14 := zW_na Wκ11 eκ14 (by decide) (by decide) b15.2
  have Mκ14 : zM (zn κ11) κ11 κ14 := zM_na (Wκ11.lo (Nat.le_trans Wκ11.1.2.1 Wκ11.1.2.2) (Nat.le_refl _)) eκ14
  replace F := F Wκ14
  have g16 : zT κ14 (zn κ11) = 25 := by rw [eκ14]; exact if_pos rfl
  have b18 := F.1
  replace F := F.2
  have h19 := (ztm Wκ11 Mκ14 (ztm Wκ8 Mκ11 h13))
  refine pf_X9_32 Wκ14 dX9_init_35 rfl (Or.inr h19) g16 (fun κ17 eκ17 => ?_)
  replace F := F κ17 eκ17
  have Wκ17 : zW C n0 κ17 := zW_uo Wκ14 eκ17 (fun t ht => by cases ht; exact g16) b18
  have Mκ17 : zM (zn κ14) κ14 κ17 := by rw [eκ17]; exact zM.of rfl rfl rfl
  replace F := F Wκ17
  refine y_aln dX9_init_38 rfl ?_
  refine y_newo Wκ17 dX9_init_39 rfl znw_X9_35 znx_X9_35 (by decide) (fun κ20 eκ20 => ?_)
  replace F := F κ20 eκ20
  have Wκ20 : zW C n0 κ20 := zW_no Wκ17 eκ20
  have Mκ20 : zM (zn κ17) κ17 κ20 := zM_no (Wκ17.lo (Nat.le_trans Wκ17.1.2.1 Wκ17.1.2.2) (Nat.le_refl _)) eκ20
  replace F := F Wκ20
  have g21 : zT κ20 (zn κ17) = 48 := by rw [eκ20]; exact if_pos rfl
  refine y_dup dX9_init_42 rfl ?_
  refine y_ic dX9_init_43 zi_4 ?_
  replace F := F g21
  refine k_X9_37 Wκ20 dX9_init_44 rfl (Nat.le_of_ble_eq_true rfl) (Nat.le_of_ble_eq_true rfl)  F (fun  κ22 Wκ22 Mκ22 F => ?_) (fun _ _ h9 => False.elim h9)
  replace F := F Wκ22 Mκ22
  have h26 := (ztm Wκ20 Mκ22 g21)
  have Rκ25 := h26
  refine y_flip (ci := 8) Rκ25 (by decide) (Nat.le_trans Wκ17.1.2.2 (Nat.le_refl _)) (fun κ25 eκ25 => ?_)
  have Wκ25 : zW C n0 κ25 := zW_nf Wκ22 eκ25 Rκ25 (by decide) (by decide) F.1
  replace F := F.2 κ25 eκ25 Wκ25
  have Gκ25 : zT κ25 (zn κ17) = 8 := zth eκ25 Rκ25 (by decide)
  have h28 := (ztg eκ25 (Wκ17.nw (ztm Wκ14 Mκ17 h19)) (ztm Wκ20 Mκ22 (ztm Wκ17 Mκ20 (ztm Wκ14 Mκ17 h19))))
  refine pf_X9_40 Wκ25 dX9_init_47 rfl rfl (Or.inr h28) Gκ25 (fun κ27 eκ27 => ?_)
  replace F := F κ27 eκ27
  have Wκ27 : zW C n0 κ27 := zW_ur Wκ25 eκ27 (fun t ht => by cases ht; exact ⟨by decide, Gκ25⟩)
  have Mκ27 : zM (zn κ25) κ25 κ27 := by rw [eκ27]; exact zM.of rfl rfl rfl
  replace F := F Wκ27
  refine y_aln dX9_init_50 rfl ?_
  refine y_newo Wκ27 dX9_init_51 rfl znw_X9_26 znx_X9_26 (by decide) (fun κ29 eκ29 => ?_)
  replace F := F κ29 eκ29
  have Wκ29 : zW C n0 κ29 := zW_no Wκ27 eκ29
  have Mκ29 : zM (zn κ27) κ27 κ29 := zM_no (Wκ27.lo (Nat.le_trans Wκ27.1.2.1 Wκ27.1.2.2) (Nat.le_refl _)) eκ29
  replace F := F Wκ29
  have g30 : zT κ29 (zn κ27) = 51 := by rw [eκ29]; exact if_pos rfl
  refine y_dup dX9_init_54 rfl ?_
  refine y_ic dX9_init_55 zi_4 ?_
  replace F := F g30
  refine k_X9_44 Wκ29 dX9_init_56 rfl (Nat.le_of_ble_eq_true rfl) (Nat.le_of_ble_eq_true rfl)  F (fun  κ31 Wκ31 Mκ31 F => ?_) (fun _ _ h9 => False.elim h9)
  replace F := F Wκ31 Mκ31
  have h35 := (ztm Wκ29 Mκ31 g30)
  have Rκ34 := h35
  refine y_flip (ci := 11) Rκ34 (by decide) (Nat.le_trans Wκ27.1.2.2 (Nat.le_refl _)) (fun κ34 eκ34 => ?_)
  have Wκ34 : zW C n0 κ34 := zW_nf Wκ31 eκ34 Rκ34 (by decide) (by decide) F.1
  replace F := F.2 κ34 eκ34 Wκ34
  have Gκ34 : zT κ34 (zn κ27) = 11 := zth eκ34 Rκ34 (by decide)
  have h37 := (ztg eκ34 (Wκ27.nw (ztm Wκ25 Mκ27 h28)) (ztm Wκ29 Mκ31 (ztm Wκ27 Mκ29 (ztm Wκ25 Mκ27 h28))))
  refine pf_X9_45 Wκ34 dX9_init_59 rfl rfl (Or.inr h37) Gκ34 (fun κ36 eκ36 => ?_)
  replace F := F κ36 eκ36
  have Wκ36 : zW C n0 κ36 := zW_ur Wκ34 eκ36 (fun t ht => by cases ht; exact ⟨by decide, Gκ34⟩)
  have Mκ36 : zM (zn κ34) κ34 κ36 := by rw [eκ36]; exact zM.of rfl rfl rfl
  replace F := F Wκ36
  refine y_aln dX9_init_62 rfl ?_
  refine y_newo Wκ36 dX9_init_63 rfl znw_X9_35 znx_X9_35 (by decide) (fun κ38 eκ38 => ?_)
  replace F := F κ38 eκ38
  have Wκ38 : zW C n0 κ38 := zW_no Wκ36 eκ38
  have Mκ38 : zM (zn κ36) κ36 κ38 := zM_no (Wκ36.lo (Nat.le_trans Wκ36.1.2.1 Wκ36.1.2.2) (Nat.le_refl _)) eκ38
  replace F := F Wκ38
  have g39 : zT κ38 (zn κ36) = 48 := by rw [eκ38]; exact if_pos rfl
  refine y_dup dX9_init_66 rfl ?_
  refine y_ic dX9_init_67 zi_2 ?_
  replace F := F g39
  refine k_X9_37 Wκ38 dX9_init_68 rfl (Nat.le_of_ble_eq_true rfl) (Nat.le_of_ble_eq_true rfl)  F (fun  κ40 Wκ40 Mκ40 F => ?_) (fun _ _ h9 => False.elim h9)
  replace F := F Wκ40 Mκ40
  have h44 := (ztm Wκ38 Mκ40 g39)
  have Rκ43 := h44
  refine y_flip (ci := 8) Rκ43 (by decide) (Nat.le_trans Wκ36.1.2.2 (Nat.le_refl _)) (fun κ43 eκ43 => ?_)
  have Wκ43 : zW C n0 κ43 := zW_nf Wκ40 eκ43 Rκ43 (by decide) (by decide) F.1
  replace F := F.2 κ43 eκ43 Wκ43
  have Gκ43 : zT κ43 (zn κ36) = 8 := zth eκ43 Rκ43 (by decide)
  have h46 := (ztg eκ43 (Wκ36.nw (ztm Wκ34 Mκ36 h37)) (ztm Wκ38 Mκ40 (ztm Wκ36 Mκ38 (ztm Wκ34 Mκ36 h37))))
  refine pf_X9_49 Wκ43 dX9_init_71 rfl rfl (Or.inr h46) Gκ43 (fun κ45 eκ45 => ?_)
  replace F := F κ45 eκ45
  have Wκ45 : zW C n0 κ45 := zW_ur Wκ43 eκ45 (fun t ht => by cases ht; exact ⟨by decide, Gκ43⟩)
  have Mκ45 : zM (zn κ43) κ43 κ45 := by rw [eκ45]; exact zM.of rfl rfl rfl
  replace F := F Wκ45
  refine y_aln dX9_init_74 rfl ?_
  refine y_newo Wκ45 dX9_init_75 rfl znw_X9_35 znx_X9_35 (by decide) (fun κ47 eκ47 => ?_)
  replace F := F κ47 eκ47
  have Wκ47 : zW C n0 κ47 := zW_no Wκ45 eκ47
  have Mκ47 : zM (zn κ45) κ45 κ47 := zM_no (Wκ45.lo (Nat.le_trans Wκ45.1.2.1 Wκ45.1.2.2) (Nat.le_refl _)) eκ47
  replace F := F Wκ47
  have g48 : zT κ47 (zn κ45) = 48 := by rw [eκ47]; exact if_pos rfl
  refine y_dup dX9_init_78 rfl ?_
  refine y_ic dX9_init_79 zi_4 ?_
  replace F := F g48
  refine k_X9_37 Wκ47 dX9_init_80 rfl (Nat.le_of_ble_eq_true rfl) (Nat.le_of_ble_eq_true rfl)  F (fun  κ49 Wκ49 Mκ49 F => ?_) (fun _ _ h9 => False.elim h9)
  replace F := F Wκ49 Mκ49
  have h53 := (ztm Wκ47 Mκ49 g48)
  have Rκ52 := h53
  refine y_flip (ci := 8) Rκ52 (by decide) (Nat.le_trans Wκ45.1.2.2 (Nat.le_refl _)) (fun κ52 eκ52 => ?_)
  have Wκ52 : zW C n0 κ52 := zW_nf Wκ49 eκ52 Rκ52 (by decide) (by decide) F.1
  replace F := F.2 κ52 eκ52 Wκ52
  have Gκ52 : zT κ52 (zn κ45) = 8 := zth eκ52 Rκ52 (by decide)
  have h55 := (ztg eκ52 (Wκ45.nw (ztm Wκ43 Mκ45 h46)) (ztm Wκ47 Mκ49 (ztm Wκ45 Mκ47 (ztm Wκ43 Mκ45 h46))))
  refine pf_X9_52 Wκ52 dX9_init_83 rfl rfl (Or.inr h55) Gκ52 (fun κ54 eκ54 => ?_)
  replace F := F κ54 eκ54
  have Wκ54 : zW C n0 κ54 := zW_ur Wκ52 eκ54 (fun t ht => by cases ht; exact ⟨by decide, Gκ52⟩)
  have Mκ54 : zM (zn κ52) κ52 κ54 := by rw [eκ54]; exact zM.of rfl rfl rfl
  replace F := F Wκ54
  refine y_aln dX9_init_86 rfl ?_
  refine y_newo Wκ54 dX9_init_87 rfl znw_X9_35 znx_X9_35 (by decide) (fun κ56 eκ56 => ?_)
  replace F := F κ56 eκ56
  have Wκ56 : zW C n0 κ56 := zW_no Wκ54 eκ56
  have Mκ56 : zM (zn κ54) κ54 κ56 := zM_no (Wκ54.lo (Nat.le_trans Wκ54.1.2.1 Wκ54.1.2.2) (Nat.le_refl _)) eκ56
  replace F := F Wκ56
  have g57 : zT κ56 (zn κ54) = 48 := by rw [eκ56]; exact if_pos rfl
  refine y_dup dX9_init_90 rfl ?_
  refine y_ic dX9_init_91 zi_4 ?_
  replace F := F g57
  refine k_X9_37 Wκ56 dX9_init_92 rfl (Nat.le_of_ble_eq_true rfl) (Nat.le_of_ble_eq_true rfl)  F (fun  κ58 Wκ58 Mκ58 F => ?_) (fun _ _ h9 => False.elim h9)
  replace F := F Wκ58 Mκ58
  have h62 := (ztm Wκ56 Mκ58 g57)
  have Rκ61 := h62
  refine y_flip (ci := 8) Rκ61 (by decide) (Nat.le_trans Wκ54.1.2.2 (Nat.le_refl _)) (fun κ61 eκ61 => ?_)
  have Wκ61 : zW C n0 κ61 := zW_nf Wκ58 eκ61 Rκ61 (by decide) (by decide) F.1
  replace F := F.2 κ61 eκ61 Wκ61
  have Gκ61 : zT κ61 (zn κ54) = 8 := zth eκ61 Rκ61 (by decide)
  have h64 := (ztg eκ61 (Wκ54.nw (ztm Wκ52 Mκ54 h55)) (ztm Wκ56 Mκ58 (ztm Wκ54 Mκ56 (ztm Wκ52 Mκ54 h55))))
  refine pf_X9_55 Wκ61 dX9_init_95 rfl rfl (Or.inr h64) Gκ61 (fun κ63 eκ63 => ?_)
  replace F := F κ63 eκ63
  have Wκ63 : zW C n0 κ63 := zW_ur Wκ61 eκ63 (fun t ht => by cases ht; exact ⟨by decide, Gκ61⟩)
  have Mκ63 : zM (zn κ61) κ61 κ63 := by rw [eκ63]; exact zM.of rfl rfl rfl
  replace F := F Wκ63
  refine y_aln dX9_init_98 rfl ?_
  refine y_newo Wκ63 dX9_init_99 rfl znw_X9_35 znx_X9_35 (by decide) (fun κ65 eκ65 => ?_)
  replace F := F κ65 eκ65
  have Wκ65 : zW C n0 κ65 := zW_no Wκ63 eκ65
  have Mκ65 : zM (zn κ63) κ63 κ65 := zM_no (Wκ63.lo (Nat.le_trans Wκ63.1.2.1 Wκ63.1.2.2) (Nat.le_refl _)) eκ65
  replace F := F Wκ65
  have g66 : zT κ65 (zn κ63) = 48 := by rw [eκ65]; exact if_pos rfl
  refine y_dup dX9_init_102 rfl ?_
  refine y_ic dX9_init_103 zi_4 ?_
  replace F := F g66
  refine k_X9_37 Wκ65 dX9_init_104 rfl (Nat.le_of_ble_eq_true rfl) (Nat.le_of_ble_eq_true rfl)  F (fun  κ67 Wκ67 Mκ67 F => ?_) (fun _ _ h9 => False.elim h9)
  replace F := F Wκ67 Mκ67
  have h71 := (ztm Wκ65 Mκ67 g66)
  have Rκ70 := h71
  refine y_flip (ci := 8) Rκ70 (by decide) (Nat.le_trans Wκ63.1.2.2 (Nat.le_refl _)) (fun κ70 eκ70 => ?_)
  have Wκ70 : zW C n0 κ70 := zW_nf Wκ67 eκ70 Rκ70 (by decide) (by decide) F.1
  replace F := F.2 κ70 eκ70 Wκ70
  have Gκ70 : zT κ70 (zn κ63) = 8 := zth eκ70 Rκ70 (by decide)
  have h73 := (ztg eκ70 (Wκ63.nw (ztm Wκ61 Mκ63 h64)) (ztm Wκ65 Mκ67 (ztm Wκ63 Mκ65 (ztm Wκ61 Mκ63 h64))))
  refine pf_X9_58 Wκ70 dX9_init_107 rfl rfl (Or.inr h73) Gκ70 (fun κ72 eκ72 => ?_)
  replace F := F κ72 eκ72
  have Wκ72 : zW C n0 κ72 := zW_ur Wκ70 eκ72 (fun t ht => by cases ht; exact ⟨by decide, Gκ70⟩)
  have Mκ72 : zM (zn κ70) κ70 κ72 := by rw [eκ72]; exact zM.of rfl rfl rfl
  replace F := F Wκ72
  refine y_aln dX9_init_110 rfl ?_
  refine y_newo Wκ72 dX9_init_111 rfl znw_X9_35 znx_X9_35 (by decide) (fun κ74 eκ74 => ?_)
  replace F := F κ74 eκ74
  have Wκ74 : zW C n0 κ74 := zW_no Wκ72 eκ74
  have Mκ74 : zM (zn κ72) κ72 κ74 := zM_no (Wκ72.lo (Nat.le_trans Wκ72.1.2.1 Wκ72.1.2.2) (Nat.le_refl _)) eκ74
  replace F := F Wκ74
  have g75 : zT κ74 (zn κ72) = 48 := by rw [eκ74]; exact if_pos rfl
  refine y_dup dX9_init_114 rfl ?_
  refine y_ic dX9_init_115 zi_4 ?_
  replace F := F g75
  refine k_X9_37 Wκ74 dX9_init_116 rfl (Nat.le_of_ble_eq_true rfl) (Nat.le_of_ble_eq_true rfl)  F (fun  κ76 Wκ76 Mκ76 F => ?_) (fun _ _ h9 => False.elim h9)
  replace F := F Wκ76 Mκ76
  have h80 := (ztm Wκ74 Mκ76 g75)
  have Rκ79 := h80
  refine y_flip (ci := 8) Rκ79 (by decide) (Nat.le_trans Wκ72.1.2.2 (Nat.le_refl _)) (fun κ79 eκ79 => ?_)
  have Wκ79 : zW C n0 κ79 := zW_nf Wκ76 eκ79 Rκ79 (by decide) (by decide) F.1
  replace F := F.2 κ79 eκ79 Wκ79
  have Gκ79 : zT κ79 (zn κ72) = 8 := zth eκ79 Rκ79 (by decide)
  have h82 := (ztg eκ79 (Wκ72.nw (ztm Wκ70 Mκ72 h73)) (ztm Wκ74 Mκ76 (ztm Wκ72 Mκ74 (ztm Wκ70 Mκ72 h73))))
  refine pf_X9_61 Wκ79 dX9_init_119 rfl rfl (Or.inr h82) Gκ79 (fun κ81 eκ81 => ?_)
  replace F := F κ81 eκ81
  have Wκ81 : zW C n0 κ81 := zW_ur Wκ79 eκ81 (fun t ht => by cases ht; exact ⟨by decide, Gκ79⟩)
  have Mκ81 : zM (zn κ79) κ79 κ81 := by rw [eκ81]; exact zM.of rfl rfl rfl
  replace F := F Wκ81
  refine y_aln dX9_init_122 rfl ?_
  refine y_ic dX9_init_123 zi_0 ?_
  have b84 := F.1
  refine y_newq (t := 4) Wκ81 dX9_init_124 rfl zan_X9_35 (by decide) b84 (fun κ83 eκ83 => ?_)
  replace F := F.2 κ83 eκ83
  have Wκ83 : zW C n0 κ83 := zW_na Wκ81 eκ83 (by decide) (by decide) b84.2
  have Mκ83 : zM (zn κ81) κ81 κ83 := zM_na (Wκ81.lo (Nat.le_trans Wκ81.1.2.1 Wκ81.1.2.2) (Nat.le_refl _)) eκ83
  replace F := F Wκ83
  have g85 : zT κ83 (zn κ81) = 24 := by rw [eκ83]; exact if_pos rfl
  have b87 := F.1
  replace F := F.2
  have h88 := (ztm Wκ81 Mκ83 (ztm Wκ79 Mκ81 h82))
  refine pf_X9_64 Wκ83 dX9_init_127 rfl (Or.inr h88) g85 (fun κ86 eκ86 => ?_)
  replace F := F κ86 eκ86
  have Wκ86 : zW C n0 κ86 := zW_uo Wκ83 eκ86 (fun t ht => by cases ht; exact g85) b87
  have Mκ86 : zM (zn κ83) κ83 κ86 := by rw [eκ86]; exact zM.of rfl rfl rfl
  replace F := F Wκ86
  refine y_aln dX9_init_130 rfl ?_
  refine y_ic dX9_init_131 zi_0 ?_
  have b90 := F.1
  refine y_newa (t := 0) Wκ86 dX9_init_132 (by decide) b90 (fun κ89 eκ89 => ?_)
  replace F := F.2 κ89 eκ89
  have Wκ89 : zW C n0 κ89 := zW_na Wκ86 eκ89 (by decide) (by decide) b90.2
  have Mκ89 : zM (zn κ86) κ86 κ89 := zM_na (Wκ86.lo (Nat.le_trans Wκ86.1.2.1 Wκ86.1.2.2) (Nat.le_refl _)) eκ89
  replace F := F Wκ89
  have g91 : zT κ89 (zn κ86) = 20 := by rw [eκ89]; exact if_pos rfl
  have b93 := F.1
  replace F := F.2
  have h94 := (ztm Wκ86 Mκ89 (ztm Wκ83 Mκ86 h88))
  refine pf_X9_68 Wκ89 dX9_init_134 rfl (Or.inr h94) g91 (fun κ92 eκ92 => ?_)
  replace F := F κ92 eκ92
  have Wκ92 : zW C n0 κ92 := zW_uo Wκ89 eκ92 (fun t ht => by cases ht; exact g91) b93
  have Mκ92 : zM (zn κ89) κ89 κ92 := by rw [eκ92]; exact zM.of rfl rfl rfl
  replace F := F Wκ92
  refine y_aln dX9_init_137 rfl ?_
  refine y_ic dX9_init_138 zi_0 ?_
  have b96 := F.1
  refine y_newa (t := 0) Wκ92 dX9_init_139 (by decide) b96 (fun κ95 eκ95 => ?_)
  replace F := F.2 κ95 eκ95
  have Wκ95 : zW C n0 κ95 := zW_na Wκ92 eκ95 (by decide) (by decide) b96.2
  have Mκ95 : zM (zn κ92) κ92 κ95 := zM_na (Wκ92.lo (Nat.le_trans Wκ92.1.2.1 Wκ92.1.2.2) (Nat.le_refl _)) eκ95
  replace F := F Wκ95
  have g97 : zT κ95 (zn κ92) = 20 := by rw [eκ95]; exact if_pos rfl
  have b99 := F.1
  replace F := F.2
  have h100 := (ztm Wκ92 Mκ95 (ztm Wκ89 Mκ92 h94))
  refine pf_X9_72 Wκ95 dX9_init_141 rfl (Or.inr h100) g97 (fun κ98 eκ98 => ?_)
  replace F := F κ98 eκ98
  have Wκ98 : zW C n0 κ98 := zW_uo Wκ95 eκ98 (fun t ht => by cases ht; exact g97) b99
  have Mκ98 : zM (zn κ95) κ95 κ98 := by rw [eκ98]; exact zM.of rfl rfl rfl
  replace F := F Wκ98
  exact y_rv Wκ98 dX9_init_144 rfl F

theorem So_init_run {C : zC} {n0 : Nat} {Q : zS → Prop} {a0 : Nat} {a1 : Nat} {a2 : Nat} {κ : zS} (W : zW C n0 κ) (Ta0 : zT κ a0 = 52) (Ta1 : zT κ a1 = 3) (Ta2 : zT κ a2 = 4) (F : w_So_init_0 C (zn κ) Q a0 a1 a2 κ) : zRun C 3 mSo_init [.ref a0, .ref a1, .ref a2] κ (oV Q noX) := z_run (m_ent _ 0) (t_So_init_0 (W.lo (Nat.le_trans W.1.2.1 W.1.2.2) (Nat.le_refl _)) Ta0 Ta1 Ta2 F)

theorem dX9_fresh_0 : decode cX9_fresh 0 = .ok (.aload_n 0, 1) := by decide +kernel
theorem dX9_fresh_1 : decode cX9_fresh 1 = .ok (.astore_n 2, 1) := by decide +kernel
theorem dX9_fresh_2 : decode cX9_fresh 2 = .ok (.aload_n 2, 1) := by decide +kernel
theorem dX9_fresh_3 : decode cX9_fresh 3 = .ok (.arraylength, 1) := by decide +kernel
theorem dX9_fresh_4 : decode cX9_fresh 4 = .ok (.iload_n 1, 1) := by decide +kernel
theorem dX9_fresh_5 : decode cX9_fresh 5 = .ok (.if_icmp .ge 16, 3) := by decide +kernel
theorem dX9_fresh_8 : decode cX9_fresh 8 = .ok (.iconst 2, 1) := by decide +kernel
theorem dX9_fresh_9 : decode cX9_fresh 9 = .ok (.iload_n 1, 1) := by decide +kernel
theorem dX9_fresh_10 : decode cX9_fresh 10 = .ok (.imul, 1) := by decide +kernel
theorem dX9_fresh_11 : decode cX9_fresh 11 = .ok (.sipush 1000, 3) := by decide +kernel
theorem dX9_fresh_14 : decode cX9_fresh 14 = .ok (.invokestatic 75, 3) := by decide +kernel
theorem dX9_fresh_17 : decode cX9_fresh 17 = .ok (.anewarray 26, 3) := by decide +kernel
theorem dX9_fresh_20 : decode cX9_fresh 20 = .ok (.astore_n 2, 1) := by decide +kernel
theorem dX9_fresh_21 : decode cX9_fresh 21 = .ok (.iconst 0, 1) := by decide +kernel
theorem dX9_fresh_22 : decode cX9_fresh 22 = .ok (.istore_n 3, 1) := by decide +kernel
theorem dX9_fresh_23 : decode cX9_fresh 23 = .ok (.iload_n 3, 1) := by decide +kernel
theorem dX9_fresh_24 : decode cX9_fresh 24 = .ok (.iload_n 1, 1) := by decide +kernel
theorem dX9_fresh_25 : decode cX9_fresh 25 = .ok (.if_icmp .ge 51, 3) := by decide +kernel
theorem dX9_fresh_28 : decode cX9_fresh 28 = .ok (.iload_n 3, 1) := by decide +kernel
theorem dX9_fresh_29 : decode cX9_fresh 29 = .ok (.aload_n 2, 1) := by decide +kernel
theorem dX9_fresh_30 : decode cX9_fresh 30 = .ok (.arraylength, 1) := by decide +kernel
theorem dX9_fresh_31 : decode cX9_fresh 31 = .ok (.if_icmp .ge 45, 3) := by decide +kernel
theorem dX9_fresh_34 : decode cX9_fresh 34 = .ok (.aload_n 2, 1) := by decide +kernel
theorem dX9_fresh_35 : decode cX9_fresh 35 = .ok (.iload_n 3, 1) := by decide +kernel
theorem dX9_fresh_36 : decode cX9_fresh 36 = .ok (.iload_n 3, 1) := by decide +kernel
theorem dX9_fresh_37 : decode cX9_fresh 37 = .ok (.aload_n 0, 1) := by decide +kernel
theorem dX9_fresh_38 : decode cX9_fresh 38 = .ok (.arraylength, 1) := by decide +kernel
theorem dX9_fresh_39 : decode cX9_fresh 39 = .ok (.if_icmp .ge 15, 3) := by decide +kernel
theorem dX9_fresh_42 : decode cX9_fresh 42 = .ok (.aload_n 0, 1) := by decide +kernel
theorem dX9_fresh_43 : decode cX9_fresh 43 = .ok (.iload_n 3, 1) := by decide +kernel
theorem dX9_fresh_44 : decode cX9_fresh 44 = .ok (.aaload, 1) := by decide +kernel
theorem dX9_fresh_45 : decode cX9_fresh 45 = .ok (.ifnull 9, 3) := by decide +kernel
theorem dX9_fresh_48 : decode cX9_fresh 48 = .ok (.aload_n 0, 1) := by decide +kernel
theorem dX9_fresh_49 : decode cX9_fresh 49 = .ok (.iload_n 3, 1) := by decide +kernel
theorem dX9_fresh_50 : decode cX9_fresh 50 = .ok (.aaload, 1) := by decide +kernel
theorem dX9_fresh_51 : decode cX9_fresh 51 = .ok (.goto 12, 3) := by decide +kernel
theorem dX9_fresh_54 : decode cX9_fresh 54 = .ok (.new 26, 3) := by decide +kernel
theorem dX9_fresh_57 : decode cX9_fresh 57 = .ok (.dup, 1) := by decide +kernel
theorem dX9_fresh_58 : decode cX9_fresh 58 = .ok (.bipush 11, 2) := by decide +kernel
theorem dX9_fresh_60 : decode cX9_fresh 60 = .ok (.invokespecial 44, 3) := by decide +kernel
theorem dX9_fresh_63 : decode cX9_fresh 63 = .ok (.aastore, 1) := by decide +kernel
theorem dX9_fresh_64 : decode cX9_fresh 64 = .ok (.aload_n 2, 1) := by decide +kernel
theorem dX9_fresh_65 : decode cX9_fresh 65 = .ok (.iload_n 3, 1) := by decide +kernel
theorem dX9_fresh_66 : decode cX9_fresh 66 = .ok (.aaload, 1) := by decide +kernel
theorem dX9_fresh_67 : decode cX9_fresh 67 = .ok (.invokevirtual 81, 3) := by decide +kernel
theorem dX9_fresh_70 : decode cX9_fresh 70 = .ok (.iinc 3 1, 3) := by decide +kernel
theorem dX9_fresh_73 : decode cX9_fresh 73 = .ok (.goto (-50), 3) := by decide +kernel
theorem dX9_fresh_76 : decode cX9_fresh 76 = .ok (.aload_n 2, 1) := by decide +kernel
theorem dX9_fresh_77 : decode cX9_fresh 77 = .ok (.areturn, 1) := by decide +kernel
def w_So_fresh_63 (C : zC) (n0 : Nat) (Q : Nat → zS → Prop) (B23 : Nat → Int32 → Nat → Int32 → zS → Prop) (a0 : Nat) (a1 : Int32) (a2 : Nat) (a3 : Int32) (s0 : Nat) (s1 : Int32) (s2 : Option Nat) (κ : zS) : Prop :=
  ∃ u1, s2 = some u1 ∧
  inb s1 (zN κ s0) ∧
  ∀ κ2, κ2 = uq κ s0 (s1).toNatClampNeg (some u1) →
  ∀ _ : zW C n0 κ2,
  inb a3 (zN κ2 a2) ∧
  ∃ u4, (zQ κ2 a2 (a3).toNatClampNeg) = some u4 ∧
  ∀ _ : zT κ2 u4 = 11,
  zRun C 1 mRa_putZero [.ref u4] κ2 (oV (fun κ5 =>
    ∀ _ : zW C n0 κ5,
    ∀ _ : zM (zn κ2) κ2 κ5,
    ∀ v3_8 : Int32, v3_8 = a3 + (1 : Int32) →
    B23 a0 a1 a2 v3_8 κ5) noX)
theorem t_So_fresh_63 {C : zC} {n0 : Nat} {Q : Nat → zS → Prop} {B23 : Nat → Int32 → Nat → Int32 → zS → Prop} (hB23 : ∀ a0' a1' a2' a3' τ, zW C n0 τ → zT τ a0' = 25 → zT τ a2' = 25 → B23 a0' a1' a2' a3' τ → zG C n0 3 mSo_fresh 23 [some (.ref a0'), some (.int a1'), some (.ref a2'), some (.int a3')] [] τ (oR 25 Q noX)) {a0 : Nat} {a1 : Int32} {a2 : Nat} {a3 : Int32} {s0 : Nat} {s1 : Int32} {s2 : Option Nat} {κ : zS} (W : zW C n0 κ) (Ta0 : zT κ a0 = 25) (Ta2 : zT κ a2 = 25) (Ts0 : zT κ s0 = 25) (Ts2 : ∀ v, s2 = some v → zT κ v = 11) (F : w_So_fresh_63 C n0 Q B23 a0 a1 a2 a3 s0 s1 s2 κ) : zG C n0 3 mSo_fresh 63 [some (.ref a0), some (.int a1), some (.ref a2), some (.int a3)] [va_rf s2, .int s1, .ref s0] κ (oR 25 Q noX) := by
  unfold w_So_fresh_63 at F
  obtain ⟨u1, Eu1, F⟩ := F
  have Tu1 : zT κ u1 = 11 := Ts2 u1 Eu1
  refine y_uq0 Eu1 ?_
  refine y_qst (t := 5) W dX9_fresh_63 Ts0 (by decide) Tu1 F.1 (fun κ2 eκ2 => ?_)
  replace F := F.2 κ2 eκ2
  have Wκ2 : zW C n0 κ2 := zW_uq W eκ2 (fun h => absurd (h.symm.trans Ts0) (by decide)) (fun _ => Tu1)
  have Mκ2 : zM (zn κ) κ κ2 := by rw [eκ2]; exact zM.of rfl rfl rfl
  replace F := F Wκ2
  refine y_aln dX9_fresh_64 rfl ?_
  refine y_iln dX9_fresh_65 rfl ?_
  have h3 := (ztm W Mκ2 Ta2)
  refine y_qld (t := 5) dX9_fresh_66 h3 (by decide) F.1 ?_
  replace F := F.2
  obtain ⟨u4, Eu4, F⟩ := F
  have Tu4 : zT κ2 u4 = 11 := (fun v hv => Wκ2.2.2.2.2.1 _ _ v h3 hv) u4 Eu4
  refine y_uq0 Eu4 ?_
  replace F := F Tu4
  refine k_X9_81 Wκ2 dX9_fresh_67 rfl (Nat.le_of_ble_eq_true rfl) (Nat.le_of_ble_eq_true rfl) (Or.inl Tu4) F (fun  κ5 Wκ5 Mκ5 F => ?_) (fun _ _ h9 => False.elim h9)
  replace F := F Wκ5 Mκ5
  refine y_incb dX9_fresh_70 zi_1 rfl (Nat.le_of_ble_eq_true rfl) (fun v3_8 ev3_8 => ?_)
  replace F := F v3_8 ev3_8
  show zG _ _ _ _ _ [some (.ref a0), some (.int a1), some (.ref a2), some (.int v3_8)] _ _ _
  refine y_goto dX9_fresh_73 (t := 23) rfl ?_
  have h9 := (ztm Wκ2 Mκ5 (ztm W Mκ2 Ta0))
  have h10 := (ztm Wκ2 Mκ5 h3)
  exact y_k (hB23 _ _ _ _ _ Wκ5 h9 h10 F) ⟨rfl, rfl, rfl, rfl, trivial⟩

def w_So_fresh_54 (C : zC) (n0 : Nat) (Q : Nat → zS → Prop) (B23 : Nat → Int32 → Nat → Int32 → zS → Prop) (a0 : Nat) (a1 : Int32) (a2 : Nat) (a3 : Int32) (s0 : Nat) (s1 : Int32) (κ : zS) : Prop :=
  ∀ κ1, κ1 = noo κ 11 →
  ∀ _ : zW C n0 κ1,
  ∀ _ : zT κ1 (zn κ) = 51,
  zRun C 2 mRa_init [.ref (zn κ), .int (11 : Int32)] κ1 (oV (fun κ3 =>
    ∀ _ : zW C n0 κ3,
    ∀ _ : zM (zn κ1) κ1 κ3,
    zOk κ3 (zn κ) 11 ∧
    ∀ κ6, κ6 = nff κ3 (zn κ) →
    ∀ _ : zW C n0 κ6,
    w_So_fresh_63 C n0 Q B23 a0 a1 a2 a3 s0 s1 (some (zn κ)) κ6) noX)
theorem t_So_fresh_54 {C : zC} {n0 : Nat} {Q : Nat → zS → Prop} {B23 : Nat → Int32 → Nat → Int32 → zS → Prop} (hB23 : ∀ a0' a1' a2' a3' τ, zW C n0 τ → zT τ a0' = 25 → zT τ a2' = 25 → B23 a0' a1' a2' a3' τ → zG C n0 3 mSo_fresh 23 [some (.ref a0'), some (.int a1'), some (.ref a2'), some (.int a3')] [] τ (oR 25 Q noX)) {a0 : Nat} {a1 : Int32} {a2 : Nat} {a3 : Int32} {s0 : Nat} {s1 : Int32} {κ : zS} (W : zW C n0 κ) (Ta0 : zT κ a0 = 25) (Ta2 : zT κ a2 = 25) (Ts0 : zT κ s0 = 25) (F : w_So_fresh_54 C n0 Q B23 a0 a1 a2 a3 s0 s1 κ) : zG C n0 3 mSo_fresh 54 [some (.ref a0), some (.int a1), some (.ref a2), some (.int a3)] [.int s1, .ref s0] κ (oR 25 Q noX) := by
  unfold w_So_fresh_54 at F
  refine y_newo W dX9_fresh_54 rfl znw_X9_26 znx_X9_26 (by decide) (fun κ1 eκ1 => ?_)
  replace F := F κ1 eκ1
  have Wκ1 : zW C n0 κ1 := zW_no W eκ1
  have Mκ1 : zM (zn κ) κ κ1 := zM_no (W.lo (Nat.le_trans W.1.2.1 W.1.2.2) (Nat.le_refl _)) eκ1
  replace F := F Wκ1
  have g2 : zT κ1 (zn κ) = 51 := by rw [eκ1]; exact if_pos rfl
  refine y_dup dX9_fresh_57 rfl ?_
  refine y_bi1 dX9_fresh_58 zb_11 ?_
  replace F := F g2
  refine k_X9_44 Wκ1 dX9_fresh_60 rfl (Nat.le_of_ble_eq_true rfl) (Nat.le_of_ble_eq_true rfl)  F (fun  κ3 Wκ3 Mκ3 F => ?_) (fun _ _ h9 => False.elim h9)
  replace F := F Wκ3 Mκ3
  have h7 := (ztm Wκ1 Mκ3 g2)
  have Rκ6 := h7
  refine y_flip (ci := 11) Rκ6 (by decide) (Nat.le_trans W.1.2.2 (Nat.le_refl _)) (fun κ6 eκ6 => ?_)
  have Wκ6 : zW C n0 κ6 := zW_nf Wκ3 eκ6 Rκ6 (by decide) (by decide) F.1
  replace F := F.2 κ6 eκ6 Wκ6
  have Gκ6 : zT κ6 (zn κ) = 11 := zth eκ6 Rκ6 (by decide)
  have h8 := (ztf eκ6 Rκ6 (by decide) (ztm Wκ1 Mκ3 (ztm W Mκ1 Ta0)) (by decide))
  have h9 := (ztf eκ6 Rκ6 (by decide) (ztm Wκ1 Mκ3 (ztm W Mκ1 Ta2)) (by decide))
  have h10 := (ztf eκ6 Rκ6 (by decide) (ztm Wκ1 Mκ3 (ztm W Mκ1 Ts0)) (by decide))
  exact y_k (t_So_fresh_63 (s2 := (some (zn κ))) hB23 Wκ6 h8 h9 h10 (fun v hv => by cases hv; exact Gκ6) F) ⟨rfl, rfl, rfl, rfl, trivial⟩

def w_So_fresh_23 (C : zC) (n0 : Nat) (Q : Nat → zS → Prop)  (a0 : Nat) (a1 : Int32) (a2 : Nat) (a3 : Int32) (κ : zS) : Prop :=
  ∃ I : Nat → Nat → Int32 → Nat → Int32 → zS → Prop, (∃ n, I n a0 a1 a2 a3 κ) ∧ ∀ n a0 a1 a2 a3 κ, zW C n0 κ → zT κ a0 = 25 → zT κ a2 = 25 → I n a0 a1 a2 a3 κ →
    (a1 ≤ a3 →
      Q a2 κ) ∧
    (¬ a1 ≤ a3 →
      ((Int32.ofNat (zN κ a2)) ≤ a3 →
        Q a2 κ) ∧
      (¬ (Int32.ofNat (zN κ a2)) ≤ a3 →
        ((Int32.ofNat (zN κ a0)) ≤ a3 →
          w_So_fresh_54 C n0 Q (fun a0' a1' a2' a3' τ => ∃ k < n, I k a0' a1' a2' a3' τ) a0 a1 a2 a3 a2 a3 κ) ∧
        (¬ (Int32.ofNat (zN κ a0)) ≤ a3 →
          inb a3 (zN κ a0) ∧
          ((zQ κ a0 (a3).toNatClampNeg) = none →
            w_So_fresh_54 C n0 Q (fun a0' a1' a2' a3' τ => ∃ k < n, I k a0' a1' a2' a3' τ) a0 a1 a2 a3 a2 a3 κ) ∧
          (∀ u1, (zQ κ a0 (a3).toNatClampNeg) = some u1 →
            inb a3 (zN κ a0) ∧
            w_So_fresh_63 C n0 Q (fun a0' a1' a2' a3' τ => ∃ k < n, I k a0' a1' a2' a3' τ) a0 a1 a2 a3 a2 a3 (zQ κ a0 (a3).toNatClampNeg) κ))))
theorem t_So_fresh_23 {C : zC} {n0 : Nat} {Q : Nat → zS → Prop}   {a0 : Nat} {a1 : Int32} {a2 : Nat} {a3 : Int32} {κ : zS} (W : zW C n0 κ) (Ta0 : zT κ a0 = 25) (Ta2 : zT κ a2 = 25) (F : w_So_fresh_23 C n0 Q  a0 a1 a2 a3 κ) : zG C n0 3 mSo_fresh 23 [some (.ref a0), some (.int a1), some (.ref a2), some (.int a3)] [] κ (oR 25 Q noX) := by
  obtain ⟨I, ⟨m0, hI0⟩, F0⟩ := F
  have key : ∀ n a0 a1 a2 a3 κ, zW C n0 κ → zT κ a0 = 25 → zT κ a2 = 25 → I n a0 a1 a2 a3 κ → zG C n0 3 mSo_fresh 23 [some (.ref a0), some (.int a1), some (.ref a2), some (.int a3)] [] κ (oR 25 Q noX) := by
    intro n
    induction n using Nat.strongRecOn with
    | _ n ih =>
      intro a0 a1 a2 a3 κ W Ta0 Ta2 hI
      have F := F0 n a0 a1 a2 a3 κ W Ta0 Ta2 hI
      clear hI hI0
      refine y_iln dX9_fresh_23 rfl ?_
      refine y_iln dX9_fresh_24 rfl ?_
      refine y_ii (a1 ≤ a3) dX9_fresh_25 (t := 76) rfl rfl (fun c9 => ?_) (fun c9 => ?_)
      · replace F := F.1 c9
        refine y_aln dX9_fresh_76 rfl ?_
        exact y_ra W dX9_fresh_77 rfl Ta2 F
      · replace F := F.2 c9
        refine y_iln dX9_fresh_28 rfl ?_
        refine y_aln dX9_fresh_29 rfl ?_
        refine y_alen (t := 5) dX9_fresh_30 Ta2 (by decide) ?_
        refine y_ii ((Int32.ofNat (zN κ a2)) ≤ a3) dX9_fresh_31 (t := 76) rfl rfl (fun c9 => ?_) (fun c9 => ?_)
        · replace F := F.1 c9
          refine y_aln dX9_fresh_76 rfl ?_
          exact y_ra W dX9_fresh_77 rfl Ta2 F
        · replace F := F.2 c9
          refine y_aln dX9_fresh_34 rfl ?_
          refine y_iln dX9_fresh_35 rfl ?_
          refine y_iln dX9_fresh_36 rfl ?_
          refine y_aln dX9_fresh_37 rfl ?_
          refine y_alen (t := 5) dX9_fresh_38 Ta0 (by decide) ?_
          refine y_ii ((Int32.ofNat (zN κ a0)) ≤ a3) dX9_fresh_39 (t := 54) rfl rfl (fun c9 => ?_) (fun c9 => ?_)
          · replace F := F.1 c9
            exact y_k (t_So_fresh_54 (fun a0' a1' a2' a3' τ w9 f09 f19 hb => by obtain ⟨k, hk, hI⟩ := hb; exact ih k hk a0' a1' a2' a3' τ w9 f09 f19 hI) W Ta0 Ta2 Ta2 F) ⟨rfl, rfl, rfl, rfl, trivial⟩
          · replace F := F.2 c9
            refine y_aln dX9_fresh_42 rfl ?_
            refine y_iln dX9_fresh_43 rfl ?_
            refine y_qld (t := 5) dX9_fresh_44 Ta0 (by decide) F.1 ?_
            replace F := F.2
            refine y_nl dX9_fresh_45 (t := 54) rfl (fun c9 => ?_) (fun u1 c9 => ?_)
            · replace F := F.1 c9
              exact y_k (t_So_fresh_54 (fun a0' a1' a2' a3' τ w9 f09 f19 hb => by obtain ⟨k, hk, hI⟩ := hb; exact ih k hk a0' a1' a2' a3' τ w9 f09 f19 hI) W Ta0 Ta2 Ta2 F) ⟨rfl, rfl, rfl, rfl, trivial⟩
            · replace F := F.2 u1 c9
              refine y_aln dX9_fresh_48 rfl ?_
              refine y_iln dX9_fresh_49 rfl ?_
              refine y_qld (t := 5) dX9_fresh_50 Ta0 (by decide) F.1 ?_
              replace F := F.2
              refine y_goto dX9_fresh_51 (t := 63) rfl ?_
              exact y_k (t_So_fresh_63 (fun a0' a1' a2' a3' τ w9 f09 f19 hb => by obtain ⟨k, hk, hI⟩ := hb; exact ih k hk a0' a1' a2' a3' τ w9 f09 f19 hI) W Ta0 Ta2 Ta2 (fun v hv => W.2.2.2.2.1 _ _ v Ta0 hv) F) ⟨rfl, rfl, rfl, rfl, trivial⟩
  exact key m0 a0 a1 a2 a3 κ W Ta0 Ta2 hI0

def w_So_fresh_0 (C : zC) (n0 : Nat) (Q : Nat → zS → Prop)  (a0 : Nat) (a1 : Int32) (κ : zS) : Prop :=
  (a1 ≤ (Int32.ofNat (zN κ a0)) →
    w_So_fresh_23 C n0 Q  a0 a1 a0 (0 : Int32) κ) ∧
  (¬ a1 ≤ (Int32.ofNat (zN κ a0)) →
    nsz (if (1000 : Int32) < ((2 : Int32) * a1) then (1000 : Int32) else ((2 : Int32) * a1)) ∧
    ∀ κ1, κ1 = na κ 25 ((if (1000 : Int32) < ((2 : Int32) * a1) then (1000 : Int32) else ((2 : Int32) * a1))).toNatClampNeg →
    ∀ _ : zW C n0 κ1,
    ∀ v2_4 : Nat, v2_4 = (zn κ) →
    w_So_fresh_23 C n0 Q  a0 a1 v2_4 (0 : Int32) κ1)
theorem t_So_fresh_0 {C : zC} {n0 : Nat} {Q : Nat → zS → Prop}   {a0 : Nat} {a1 : Int32} {κ : zS} (W : zW C n0 κ) (Ta0 : zT κ a0 = 25) (F : w_So_fresh_0 C n0 Q  a0 a1 κ) : zG C n0 3 mSo_fresh 0 [some (.ref a0), some (.int a1), none, none] [] κ (oR 25 Q noX) := by
  unfold w_So_fresh_0 at F
  refine y_aln dX9_fresh_0 rfl ?_
  refine y_asn dX9_fresh_1 (Nat.le_of_ble_eq_true rfl) rfl ?_
  show zG _ _ _ _ _ [some (.ref a0), some (.int a1), some (.ref a0), none] _ _ _
  refine y_aln dX9_fresh_2 rfl ?_
  refine y_alen (t := 5) dX9_fresh_3 Ta0 (by decide) ?_
  refine y_iln dX9_fresh_4 rfl ?_
  refine y_ii (a1 ≤ (Int32.ofNat (zN κ a0))) dX9_fresh_5 (t := 21) rfl rfl (fun c9 => ?_) (fun c9 => ?_)
  · replace F := F.1 c9
    refine y_ic dX9_fresh_21 zi_0 ?_
    refine y_isn dX9_fresh_22 (Nat.le_of_ble_eq_true rfl) rfl ?_
    show zG _ _ _ _ _ [some (.ref a0), some (.int a1), some (.ref a0), some (.int (0 : Int32))] _ _ _
    exact y_k (t_So_fresh_23  W Ta0 Ta0 F) ⟨rfl, rfl, rfl, rfl, trivial⟩
  · replace F := F.2 c9
    refine y_ic dX9_fresh_8 zi_2 ?_
    refine y_iln dX9_fresh_9 rfl ?_
    refine y_imul dX9_fresh_10 ?_
    refine y_si dX9_fresh_11 zs_1000 ?_
    refine y_min dX9_fresh_14 rfl zbi_X9_75 (Nat.le_of_ble_eq_true rfl) (Nat.le_of_ble_eq_true rfl) ?_
    have b2 := F.1
    refine y_newq (t := 5) W dX9_fresh_17 rfl zan_X9_26 (by decide) b2 (fun κ1 eκ1 => ?_)
    replace F := F.2 κ1 eκ1
    have Wκ1 : zW C n0 κ1 := zW_na W eκ1 (by decide) (by decide) b2.2
    have Mκ1 : zM (zn κ) κ κ1 := zM_na (W.lo (Nat.le_trans W.1.2.1 W.1.2.2) (Nat.le_refl _)) eκ1
    replace F := F Wκ1
    have g3 : zT κ1 (zn κ) = 25 := by rw [eκ1]; exact if_pos rfl
    refine y_asnb dX9_fresh_20 (Nat.le_of_ble_eq_true rfl) (fun v2_4 ev2_4 => ?_)
    replace F := F v2_4 ev2_4
    have Tv2_4 : zT κ1 v2_4 = 25 := by rw [ev2_4]; exact g3
    show zG _ _ _ _ _ [some (.ref a0), some (.int a1), some (.ref v2_4), none] _ _ _
    refine y_ic dX9_fresh_21 zi_0 ?_
    refine y_isn dX9_fresh_22 (Nat.le_of_ble_eq_true rfl) rfl ?_
    show zG _ _ _ _ _ [some (.ref a0), some (.int a1), some (.ref v2_4), some (.int (0 : Int32))] _ _ _
    have h5 := (ztm W Mκ1 Ta0)
    exact y_k (t_So_fresh_23  Wκ1 h5 Tv2_4 F) ⟨rfl, rfl, rfl, rfl, trivial⟩

theorem So_fresh_run {C : zC} {n0 : Nat} {Q : Nat → zS → Prop} {a0 : Nat} {a1 : Int32} {κ : zS} (W : zW C n0 κ) (Ta0 : zT κ a0 = 25) (F : w_So_fresh_0 C (zn κ) Q a0 a1 κ) : zRun C 3 mSo_fresh [.ref a0, .int a1] κ (oR 25 Q noX) := z_run (m_ent _ 2) (t_So_fresh_0 (W.lo (Nat.le_trans W.1.2.1 W.1.2.2) (Nat.le_refl _)) Ta0 F)

theorem dX9_comesIn_0 : decode cX9_comesIn 0 = .ok (.aload_n 0, 1) := by decide +kernel
theorem dX9_comesIn_1 : decode cX9_comesIn 1 = .ok (.getfield 25, 3) := by decide +kernel
theorem dX9_comesIn_4 : decode cX9_comesIn 4 = .ok (.getfield 158, 3) := by decide +kernel
theorem dX9_comesIn_7 : decode cX9_comesIn 7 = .ok (.iload_n 1, 1) := by decide +kernel
theorem dX9_comesIn_8 : decode cX9_comesIn 8 = .ok (.iaload, 1) := by decide +kernel
theorem dX9_comesIn_9 : decode cX9_comesIn 9 = .ok (.istore_n 3, 1) := by decide +kernel
theorem dX9_comesIn_10 : decode cX9_comesIn 10 = .ok (.aload_n 0, 1) := by decide +kernel
theorem dX9_comesIn_11 : decode cX9_comesIn 11 = .ok (.getfield 25, 3) := by decide +kernel
theorem dX9_comesIn_14 : decode cX9_comesIn 14 = .ok (.getfield 161, 3) := by decide +kernel
theorem dX9_comesIn_17 : decode cX9_comesIn 17 = .ok (.iload_n 3, 1) := by decide +kernel
theorem dX9_comesIn_18 : decode cX9_comesIn 18 = .ok (.iaload, 1) := by decide +kernel
theorem dX9_comesIn_19 : decode cX9_comesIn 19 = .ok (.aload_n 0, 1) := by decide +kernel
theorem dX9_comesIn_20 : decode cX9_comesIn 20 = .ok (.getfield 25, 3) := by decide +kernel
theorem dX9_comesIn_23 : decode cX9_comesIn 23 = .ok (.getfield 161, 3) := by decide +kernel
theorem dX9_comesIn_26 : decode cX9_comesIn 26 = .ok (.iload_n 2, 1) := by decide +kernel
theorem dX9_comesIn_27 : decode cX9_comesIn 27 = .ok (.iaload, 1) := by decide +kernel
theorem dX9_comesIn_28 : decode cX9_comesIn 28 = .ok (.if_icmp .eq 19, 3) := by decide +kernel
theorem dX9_comesIn_31 : decode cX9_comesIn 31 = .ok (.aload_n 0, 1) := by decide +kernel
theorem dX9_comesIn_32 : decode cX9_comesIn 32 = .ok (.getfield 28, 3) := by decide +kernel
theorem dX9_comesIn_35 : decode cX9_comesIn 35 = .ok (.iload_n 3, 1) := by decide +kernel
theorem dX9_comesIn_36 : decode cX9_comesIn 36 = .ok (.aaload, 1) := by decide +kernel
theorem dX9_comesIn_37 : decode cX9_comesIn 37 = .ok (.getfield 164, 3) := by decide +kernel
theorem dX9_comesIn_40 : decode cX9_comesIn 40 = .ok (.ifCond .eq 7, 3) := by decide +kernel
theorem dX9_comesIn_43 : decode cX9_comesIn 43 = .ok (.iconst 1, 1) := by decide +kernel
theorem dX9_comesIn_44 : decode cX9_comesIn 44 = .ok (.goto 4, 3) := by decide +kernel
theorem dX9_comesIn_47 : decode cX9_comesIn 47 = .ok (.iconst 0, 1) := by decide +kernel
theorem dX9_comesIn_48 : decode cX9_comesIn 48 = .ok (.ireturn, 1) := by decide +kernel
def w_So_comesIn_0 (C : zC) (n0 : Nat) (Q : Int32 → zS → Prop)  (a0 : Nat) (a1 : Int32) (a2 : Int32) (κ : zS) : Prop :=
  inb a1 (zN κ (zR κ weSources (zR κ soWeb a0))) ∧
  ∀ v3_1 : Int32, v3_1 = (zA κ (zR κ weSources (zR κ soWeb a0)) (a1).toNatClampNeg) →
  inb v3_1 (zN κ (zR κ weKnotOf (zR κ soWeb a0))) ∧
  inb a2 (zN κ (zR κ weKnotOf (zR κ soWeb a0))) ∧
  ((zA κ (zR κ weKnotOf (zR κ soWeb a0)) (v3_1).toNatClampNeg) = (zA κ (zR κ weKnotOf (zR κ soWeb a0)) (a2).toNatClampNeg) →
    Q (0 : Int32) κ) ∧
  (¬ (zA κ (zR κ weKnotOf (zR κ soWeb a0)) (v3_1).toNatClampNeg) = (zA κ (zR κ weKnotOf (zR κ soWeb a0)) (a2).toNatClampNeg) →
    inb v3_1 (zN κ (zR κ soVisits a0)) ∧
    ∃ u2, (zQ κ (zR κ soVisits a0) (v3_1).toNatClampNeg) = some u2 ∧
    ((zI κ raSign u2) = (0 : Int32) →
      Q (0 : Int32) κ) ∧
    (¬ (zI κ raSign u2) = (0 : Int32) →
      Q (1 : Int32) κ))
theorem t_So_comesIn_0 {C : zC} {n0 : Nat} {Q : Int32 → zS → Prop}   {a0 : Nat} {a1 : Int32} {a2 : Int32} {κ : zS} (W : zW C n0 κ) (Ta0 : zT κ a0 = 12) (F : w_So_comesIn_0 C n0 Q  a0 a1 a2 κ) : zG C n0 0 mSo_comesIn 0 [some (.ref a0), some (.int a1), some (.int a2), none] [] κ (oI Q noX) := by
  unfold w_So_comesIn_0 at F
  refine y_aln dX9_comesIn_0 rfl ?_
  refine gf_X9_25 W dX9_comesIn_1 rfl Ta0 ?_
  refine gf_X9_158 W dX9_comesIn_4 rfl (ty_soWeb W Ta0) ?_
  refine y_iln dX9_comesIn_7 rfl ?_
  refine y_ald dX9_comesIn_8 (ty_weSources W (ty_soWeb W Ta0)) F.1 ?_
  replace F := F.2
  refine y_isnb dX9_comesIn_9 (Nat.le_of_ble_eq_true rfl) (fun v3_1 ev3_1 => ?_)
  replace F := F v3_1 ev3_1
  show zG _ _ _ _ _ [some (.ref a0), some (.int a1), some (.int a2), some (.int v3_1)] _ _ _
  refine y_aln dX9_comesIn_10 rfl ?_
  refine gf_X9_25 W dX9_comesIn_11 rfl Ta0 ?_
  refine gf_X9_161 W dX9_comesIn_14 rfl (ty_soWeb W Ta0) ?_
  refine y_iln dX9_comesIn_17 rfl ?_
  refine y_ald dX9_comesIn_18 (ty_weKnotOf W (ty_soWeb W Ta0)) F.1 ?_
  replace F := F.2
  refine y_aln dX9_comesIn_19 rfl ?_
  refine gf_X9_25 W dX9_comesIn_20 rfl Ta0 ?_
  refine gf_X9_161 W dX9_comesIn_23 rfl (ty_soWeb W Ta0) ?_
  refine y_iln dX9_comesIn_26 rfl ?_
  refine y_ald dX9_comesIn_27 (ty_weKnotOf W (ty_soWeb W Ta0)) F.1 ?_
  replace F := F.2
  refine y_ii ((zA κ (zR κ weKnotOf (zR κ soWeb a0)) (v3_1).toNatClampNeg) = (zA κ (zR κ weKnotOf (zR κ soWeb a0)) (a2).toNatClampNeg)) dX9_comesIn_28 (t := 47) rfl rfl (fun c9 => ?_) (fun c9 => ?_)
  · replace F := F.1 c9
    refine y_ic dX9_comesIn_47 zi_0 ?_
    exact y_ri W dX9_comesIn_48 rfl (nb_nar nb_0) F
  · replace F := F.2 c9
    refine y_aln dX9_comesIn_31 rfl ?_
    refine gf_X9_28 W dX9_comesIn_32 rfl Ta0 ?_
    refine y_iln dX9_comesIn_35 rfl ?_
    refine y_qld (t := 5) dX9_comesIn_36 (ty_soVisits W Ta0) (by decide) F.1 ?_
    replace F := F.2
    obtain ⟨u2, Eu2, F⟩ := F
    have Tu2 : zT κ u2 = 11 := (fun v hv => W.2.2.2.2.1 _ _ v (ty_soVisits W Ta0) hv) u2 Eu2
    refine y_uq0 Eu2 ?_
    refine gf_X9_164 dX9_comesIn_37 rfl (Or.inl Tu2) ?_
    refine y_i ((zI κ raSign u2) = (0 : Int32)) dX9_comesIn_40 (t := 47) rfl rfl (fun c9 => ?_) (fun c9 => ?_)
    · replace F := F.1 c9
      refine y_ic dX9_comesIn_47 zi_0 ?_
      exact y_ri W dX9_comesIn_48 rfl (nb_nar nb_0) F
    · replace F := F.2 c9
      refine y_ic dX9_comesIn_43 zi_1 ?_
      refine y_goto dX9_comesIn_44 (t := 48) rfl ?_
      exact y_ri W dX9_comesIn_48 rfl (nb_nar nb_1) F

theorem So_comesIn_run {C : zC} {n0 : Nat} {Q : Int32 → zS → Prop} {a0 : Nat} {a1 : Int32} {a2 : Int32} {κ : zS} (W : zW C n0 κ) (Ta0 : zT κ a0 = 12) (F : w_So_comesIn_0 C (zn κ) Q a0 a1 a2 κ) : zRun C 0 mSo_comesIn [.ref a0, .int a1, .int a2] κ (oI Q noX) := z_run (m_ent _ 1) (t_So_comesIn_0 (W.lo (Nat.le_trans W.1.2.1 W.1.2.2) (Nat.le_refl _)) Ta0 F)

theorem dX9_joinInflow_0 : decode cX9_joinInflow 0 = .ok (.aload_n 0, 1) := by decide +kernel
theorem dX9_joinInflow_1 : decode cX9_joinInflow 1 = .ok (.getfield 25, 3) := by decide +kernel
theorem dX9_joinInflow_4 : decode cX9_joinInflow 4 = .ok (.getfield 167, 3) := by decide +kernel
theorem dX9_joinInflow_7 : decode cX9_joinInflow 7 = .ok (.iload_n 1, 1) := by decide +kernel
theorem dX9_joinInflow_8 : decode cX9_joinInflow 8 = .ok (.iaload, 1) := by decide +kernel
theorem dX9_joinInflow_9 : decode cX9_joinInflow 9 = .ok (.istore_n 2, 1) := by decide +kernel
theorem dX9_joinInflow_10 : decode cX9_joinInflow 10 = .ok (.iload_n 2, 1) := by decide +kernel
theorem dX9_joinInflow_11 : decode cX9_joinInflow 11 = .ok (.aload_n 0, 1) := by decide +kernel
theorem dX9_joinInflow_12 : decode cX9_joinInflow 12 = .ok (.getfield 25, 3) := by decide +kernel
theorem dX9_joinInflow_15 : decode cX9_joinInflow 15 = .ok (.getfield 167, 3) := by decide +kernel
theorem dX9_joinInflow_18 : decode cX9_joinInflow 18 = .ok (.iload_n 1, 1) := by decide +kernel
theorem dX9_joinInflow_19 : decode cX9_joinInflow 19 = .ok (.iconst 1, 1) := by decide +kernel
theorem dX9_joinInflow_20 : decode cX9_joinInflow 20 = .ok (.iadd, 1) := by decide +kernel
theorem dX9_joinInflow_21 : decode cX9_joinInflow 21 = .ok (.iaload, 1) := by decide +kernel
theorem dX9_joinInflow_22 : decode cX9_joinInflow 22 = .ok (.if_icmp .ge 49, 3) := by decide +kernel
theorem dX9_joinInflow_25 : decode cX9_joinInflow 25 = .ok (.aload_n 0, 1) := by decide +kernel
theorem dX9_joinInflow_26 : decode cX9_joinInflow 26 = .ok (.iload_n 2, 1) := by decide +kernel
theorem dX9_joinInflow_27 : decode cX9_joinInflow 27 = .ok (.iload_n 1, 1) := by decide +kernel
theorem dX9_joinInflow_28 : decode cX9_joinInflow 28 = .ok (.invokevirtual 170, 3) := by decide +kernel
theorem dX9_joinInflow_31 : decode cX9_joinInflow 31 = .ok (.ifCond .eq 34, 3) := by decide +kernel
theorem dX9_joinInflow_34 : decode cX9_joinInflow 34 = .ok (.aload_n 0, 1) := by decide +kernel
theorem dX9_joinInflow_35 : decode cX9_joinInflow 35 = .ok (.aload_n 0, 1) := by decide +kernel
theorem dX9_joinInflow_36 : decode cX9_joinInflow 36 = .ok (.getfield 25, 3) := by decide +kernel
theorem dX9_joinInflow_39 : decode cX9_joinInflow 39 = .ok (.getfield 158, 3) := by decide +kernel
theorem dX9_joinInflow_42 : decode cX9_joinInflow 42 = .ok (.iload_n 2, 1) := by decide +kernel
theorem dX9_joinInflow_43 : decode cX9_joinInflow 43 = .ok (.iaload, 1) := by decide +kernel
theorem dX9_joinInflow_44 : decode cX9_joinInflow 44 = .ok (.invokevirtual 204, 3) := by decide +kernel
theorem dX9_joinInflow_47 : decode cX9_joinInflow 47 = .ok (.aload_n 0, 1) := by decide +kernel
theorem dX9_joinInflow_48 : decode cX9_joinInflow 48 = .ok (.getfield 15, 3) := by decide +kernel
theorem dX9_joinInflow_51 : decode cX9_joinInflow 51 = .ok (.aload_n 0, 1) := by decide +kernel
theorem dX9_joinInflow_52 : decode cX9_joinInflow 52 = .ok (.getfield 40, 3) := by decide +kernel
theorem dX9_joinInflow_55 : decode cX9_joinInflow 55 = .ok (.aload_n 0, 1) := by decide +kernel
theorem dX9_joinInflow_56 : decode cX9_joinInflow 56 = .ok (.getfield 45, 3) := by decide +kernel
theorem dX9_joinInflow_59 : decode cX9_joinInflow 59 = .ok (.getfield 151, 3) := by decide +kernel
theorem dX9_joinInflow_62 : decode cX9_joinInflow 62 = .ok (.invokevirtual 207, 3) := by decide +kernel
theorem dX9_joinInflow_65 : decode cX9_joinInflow 65 = .ok (.iinc 2 1, 3) := by decide +kernel
theorem dX9_joinInflow_68 : decode cX9_joinInflow 68 = .ok (.goto (-58), 3) := by decide +kernel
theorem dX9_joinInflow_71 : decode cX9_joinInflow 71 = .ok (.return_, 1) := by decide +kernel
def w_So_joinInflow_10 (C : zC) (n0 : Nat) (Q : zS → Prop)  (a0 : Nat) (a1 : Int32) (a2 : Int32) (κ : zS) : Prop :=
  ∃ I : Nat → Nat → Int32 → Int32 → zS → Prop, (∃ n, I n a0 a1 a2 κ) ∧ ∀ n a0 a1 a2 κ, zW C n0 κ → zT κ a0 = 12 → I n a0 a1 a2 κ →
    inb (a1 + (1 : Int32)) (zN κ (zR κ weBackFirsts (zR κ soWeb a0))) ∧
    ((zA κ (zR κ weBackFirsts (zR κ soWeb a0)) ((a1 + (1 : Int32))).toNatClampNeg) ≤ a2 →
      Q κ) ∧
    (¬ (zA κ (zR κ weBackFirsts (zR κ soWeb a0)) ((a1 + (1 : Int32))).toNatClampNeg) ≤ a2 →
      ∀ _ : zT κ a0 = 12,
      zRun C 0 mSo_comesIn [.ref a0, .int a2, .int a1] κ (oI (fun r2 κ1 =>
        ∀ _ : zW C n0 κ1,
        ∀ _ : zM (zn κ) κ κ1,
        (r2 = (0 : Int32) →
          ∀ v2_4 : Int32, v2_4 = a2 + (1 : Int32) →
          ∃ k < n, I k a0 a1 v2_4 κ1) ∧
        (¬ r2 = (0 : Int32) →
          inb a2 (zN κ1 (zR κ1 weSources (zR κ1 soWeb a0))) ∧
          ∀ _ : zT κ1 a0 = 12,
          zRun C 4 mSo_unit [.ref a0, .int (zA κ1 (zR κ1 weSources (zR κ1 soWeb a0)) (a2).toNatClampNeg)] κ1 (oV (fun κ7 =>
            ∀ _ : zW C n0 κ7,
            ∀ _ : zM (zn κ1) κ1 κ7,
            ∀ _ : zT κ7 (zR κ7 soCalc a0) = 4,
            ∀ _ : zT κ7 (zR κ7 soWhole a0) = 8,
            ∀ _ : zT κ7 (zR κ7 raBottom (zR κ7 soPart a0)) = 8,
            zRun C 5 mCa_join [.ref (zR κ7 soCalc a0), .ref (zR κ7 soWhole a0), .ref (zR κ7 raBottom (zR κ7 soPart a0))] κ7 (oV (fun κ11 =>
              ∀ _ : zW C n0 κ11,
              ∀ _ : zM (zn κ7) κ7 κ11,
              ∀ v2_14 : Int32, v2_14 = a2 + (1 : Int32) →
              ∃ k < n, I k a0 a1 v2_14 κ11) noX)) noX))) noX))
theorem t_So_joinInflow_10 {C : zC} {n0 : Nat} {Q : zS → Prop}   {a0 : Nat} {a1 : Int32} {a2 : Int32} {κ : zS} (W : zW C n0 κ) (Ta0 : zT κ a0 = 12) (F : w_So_joinInflow_10 C n0 Q  a0 a1 a2 κ) : zG C n0 6 mSo_joinInflow 10 [some (.ref a0), some (.int a1), some (.int a2)] [] κ (oV Q noX) := by
  obtain ⟨I, ⟨m0, hI0⟩, F0⟩ := F
  have key : ∀ n a0 a1 a2 κ, zW C n0 κ → zT κ a0 = 12 → I n a0 a1 a2 κ → zG C n0 6 mSo_joinInflow 10 [some (.ref a0), some (.int a1), some (.int a2)] [] κ (oV Q noX) := by
    intro n
    induction n using Nat.strongRecOn with
    | _ n ih =>
      intro a0 a1 a2 κ W Ta0 hI
      have F := F0 n a0 a1 a2 κ W Ta0 hI
      clear hI hI0
      refine y_iln dX9_joinInflow_10 rfl ?_
      refine y_aln dX9_joinInflow_11 rfl ?_
      refine gf_X9_25 W dX9_joinInflow_12 rfl Ta0 ?_
      refine gf_X9_167 W dX9_joinInflow_15 rfl (ty_soWeb W Ta0) ?_
      refine y_iln dX9_joinInflow_18 rfl ?_
      refine y_ic dX9_joinInflow_19 zi_1 ?_
      refine y_iadd dX9_joinInflow_20 ?_
      refine y_ald dX9_joinInflow_21 (ty_weBackFirsts W (ty_soWeb W Ta0)) F.1 ?_
      replace F := F.2
      refine y_ii ((zA κ (zR κ weBackFirsts (zR κ soWeb a0)) ((a1 + (1 : Int32))).toNatClampNeg) ≤ a2) dX9_joinInflow_22 (t := 71) rfl rfl (fun c9 => ?_) (fun c9 => ?_)
      · replace F := F.1 c9
        exact y_rv W dX9_joinInflow_71 rfl F
      · replace F := F.2 c9
        refine y_aln dX9_joinInflow_25 rfl ?_
        refine y_iln dX9_joinInflow_26 rfl ?_
        refine y_iln dX9_joinInflow_27 rfl ?_
        replace F := F Ta0
        refine k_X9_170 W dX9_joinInflow_28 rfl (Nat.le_of_ble_eq_true rfl) (Nat.le_of_ble_eq_true rfl) (Or.inl Ta0) F (fun r2 κ1 Wκ1 Mκ1 F => ?_) (fun _ _ h9 => False.elim h9)
        replace F := F Wκ1 Mκ1
        refine y_i (r2 = (0 : Int32)) dX9_joinInflow_31 (t := 65) rfl rfl (fun c9 => ?_) (fun c9 => ?_)
        · replace F := F.1 c9
          refine y_incb dX9_joinInflow_65 zi_1 rfl (Nat.le_of_ble_eq_true rfl) (fun v2_4 ev2_4 => ?_)
          replace F := F v2_4 ev2_4
          show zG _ _ _ _ _ [some (.ref a0), some (.int a1), some (.int v2_4)] _ _ _
          refine y_goto dX9_joinInflow_68 (t := 10) rfl ?_
          have h5 := (ztm W Mκ1 Ta0)
          obtain ⟨k, hk, hI⟩ := F
          exact y_k (ih k hk _ _ _ _ Wκ1 h5 hI) ⟨rfl, rfl, rfl, trivial⟩
        · replace F := F.2 c9
          refine y_aln dX9_joinInflow_34 rfl ?_
          refine y_aln dX9_joinInflow_35 rfl ?_
          have h6 := (ztm W Mκ1 Ta0)
          refine gf_X9_25 Wκ1 dX9_joinInflow_36 rfl h6 ?_
          refine gf_X9_158 Wκ1 dX9_joinInflow_39 rfl (ty_soWeb Wκ1 h6) ?_
          refine y_iln dX9_joinInflow_42 rfl ?_
          refine y_ald dX9_joinInflow_43 (ty_weSources Wκ1 (ty_soWeb Wκ1 h6)) F.1 ?_
          replace F := F.2
          replace F := F h6
          refine k_X9_204 Wκ1 dX9_joinInflow_44 rfl (Nat.le_of_ble_eq_true rfl) (Nat.le_of_ble_eq_true rfl) (Or.inl h6) F (fun  κ7 Wκ7 Mκ7 F => ?_) (fun _ _ h9 => False.elim h9)
          replace F := F Wκ7 Mκ7
          refine y_aln dX9_joinInflow_47 rfl ?_
          have h10 := (ztm Wκ1 Mκ7 h6)
          refine gf_X9_15 Wκ7 dX9_joinInflow_48 rfl h10 ?_
          refine y_aln dX9_joinInflow_51 rfl ?_
          refine gf_X9_40 Wκ7 dX9_joinInflow_52 rfl h10 ?_
          refine y_aln dX9_joinInflow_55 rfl ?_
          refine gf_X9_45 Wκ7 dX9_joinInflow_56 rfl h10 ?_
          refine gf_X9_151 Wκ7 dX9_joinInflow_59 rfl (ty_soPart Wκ7 h10) ?_
          replace F := F (ty_soCalc Wκ7 h10)
          replace F := F (ty_soWhole Wκ7 h10)
          replace F := F (ty_raBottom Wκ7 (ty_soPart Wκ7 h10))
          refine k_X9_207 Wκ7 dX9_joinInflow_62 rfl (Nat.le_of_ble_eq_true rfl) (Nat.le_of_ble_eq_true rfl) (Or.inl (ty_soCalc Wκ7 h10)) F (fun  κ11 Wκ11 Mκ11 F => ?_) (fun _ _ h9 => False.elim h9)
          replace F := F Wκ11 Mκ11
          refine y_incb dX9_joinInflow_65 zi_1 rfl (Nat.le_of_ble_eq_true rfl) (fun v2_14 ev2_14 => ?_)
          replace F := F v2_14 ev2_14
          show zG _ _ _ _ _ [some (.ref a0), some (.int a1), some (.int v2_14)] _ _ _
          refine y_goto dX9_joinInflow_68 (t := 10) rfl ?_
          have h15 := (ztm Wκ7 Mκ11 h10)
          obtain ⟨k, hk, hI⟩ := F
          exact y_k (ih k hk _ _ _ _ Wκ11 h15 hI) ⟨rfl, rfl, rfl, trivial⟩
  exact key m0 a0 a1 a2 κ W Ta0 hI0

def w_So_joinInflow_0 (C : zC) (n0 : Nat) (Q : zS → Prop)  (a0 : Nat) (a1 : Int32) (κ : zS) : Prop :=
  inb a1 (zN κ (zR κ weBackFirsts (zR κ soWeb a0))) ∧
  ∀ v2_1 : Int32, v2_1 = (zA κ (zR κ weBackFirsts (zR κ soWeb a0)) (a1).toNatClampNeg) →
  w_So_joinInflow_10 C n0 Q  a0 a1 v2_1 κ
theorem t_So_joinInflow_0 {C : zC} {n0 : Nat} {Q : zS → Prop}   {a0 : Nat} {a1 : Int32} {κ : zS} (W : zW C n0 κ) (Ta0 : zT κ a0 = 12) (F : w_So_joinInflow_0 C n0 Q  a0 a1 κ) : zG C n0 6 mSo_joinInflow 0 [some (.ref a0), some (.int a1), none] [] κ (oV Q noX) := by
  unfold w_So_joinInflow_0 at F
  refine y_aln dX9_joinInflow_0 rfl ?_
  refine gf_X9_25 W dX9_joinInflow_1 rfl Ta0 ?_
  refine gf_X9_167 W dX9_joinInflow_4 rfl (ty_soWeb W Ta0) ?_
  refine y_iln dX9_joinInflow_7 rfl ?_
  refine y_ald dX9_joinInflow_8 (ty_weBackFirsts W (ty_soWeb W Ta0)) F.1 ?_
  replace F := F.2
  refine y_isnb dX9_joinInflow_9 (Nat.le_of_ble_eq_true rfl) (fun v2_1 ev2_1 => ?_)
  replace F := F v2_1 ev2_1
  show zG _ _ _ _ _ [some (.ref a0), some (.int a1), some (.int v2_1)] _ _ _
  exact y_k (t_So_joinInflow_10  W Ta0 F) ⟨rfl, rfl, rfl, trivial⟩

theorem So_joinInflow_run {C : zC} {n0 : Nat} {Q : zS → Prop} {a0 : Nat} {a1 : Int32} {κ : zS} (W : zW C n0 κ) (Ta0 : zT κ a0 = 12) (F : w_So_joinInflow_0 C (zn κ) Q a0 a1 κ) : zRun C 6 mSo_joinInflow [.ref a0, .int a1] κ (oV Q noX) := z_run (m_ent _ 1) (t_So_joinInflow_0 (W.lo (Nat.le_trans W.1.2.1 W.1.2.2) (Nat.le_refl _)) Ta0 F)

theorem dX9_sumInflow_0 : decode cX9_sumInflow 0 = .ok (.aload_n 0, 1) := by decide +kernel
theorem dX9_sumInflow_1 : decode cX9_sumInflow 1 = .ok (.getfield 58, 3) := by decide +kernel
theorem dX9_sumInflow_4 : decode cX9_sumInflow 4 = .ok (.lconst 0, 1) := by decide +kernel
theorem dX9_sumInflow_5 : decode cX9_sumInflow 5 = .ok (.invokevirtual 191, 3) := by decide +kernel
theorem dX9_sumInflow_8 : decode cX9_sumInflow 8 = .ok (.iload_n 1, 1) := by decide +kernel
theorem dX9_sumInflow_9 : decode cX9_sumInflow 9 = .ok (.ifCond .ne 14, 3) := by decide +kernel
theorem dX9_sumInflow_12 : decode cX9_sumInflow 12 = .ok (.aload_n 0, 1) := by decide +kernel
theorem dX9_sumInflow_13 : decode cX9_sumInflow 13 = .ok (.getfield 58, 3) := by decide +kernel
theorem dX9_sumInflow_16 : decode cX9_sumInflow 16 = .ok (.aload_n 0, 1) := by decide +kernel
theorem dX9_sumInflow_17 : decode cX9_sumInflow 17 = .ok (.getfield 40, 3) := by decide +kernel
theorem dX9_sumInflow_20 : decode cX9_sumInflow 20 = .ok (.invokevirtual 213, 3) := by decide +kernel
theorem dX9_sumInflow_23 : decode cX9_sumInflow 23 = .ok (.aload_n 0, 1) := by decide +kernel
theorem dX9_sumInflow_24 : decode cX9_sumInflow 24 = .ok (.getfield 25, 3) := by decide +kernel
theorem dX9_sumInflow_27 : decode cX9_sumInflow 27 = .ok (.getfield 167, 3) := by decide +kernel
theorem dX9_sumInflow_30 : decode cX9_sumInflow 30 = .ok (.iload_n 1, 1) := by decide +kernel
theorem dX9_sumInflow_31 : decode cX9_sumInflow 31 = .ok (.iaload, 1) := by decide +kernel
theorem dX9_sumInflow_32 : decode cX9_sumInflow 32 = .ok (.istore_n 2, 1) := by decide +kernel
theorem dX9_sumInflow_33 : decode cX9_sumInflow 33 = .ok (.iload_n 2, 1) := by decide +kernel
theorem dX9_sumInflow_34 : decode cX9_sumInflow 34 = .ok (.aload_n 0, 1) := by decide +kernel
theorem dX9_sumInflow_35 : decode cX9_sumInflow 35 = .ok (.getfield 25, 3) := by decide +kernel
theorem dX9_sumInflow_38 : decode cX9_sumInflow 38 = .ok (.getfield 167, 3) := by decide +kernel
theorem dX9_sumInflow_41 : decode cX9_sumInflow 41 = .ok (.iload_n 1, 1) := by decide +kernel
theorem dX9_sumInflow_42 : decode cX9_sumInflow 42 = .ok (.iconst 1, 1) := by decide +kernel
theorem dX9_sumInflow_43 : decode cX9_sumInflow 43 = .ok (.iadd, 1) := by decide +kernel
theorem dX9_sumInflow_44 : decode cX9_sumInflow 44 = .ok (.iaload, 1) := by decide +kernel
theorem dX9_sumInflow_45 : decode cX9_sumInflow 45 = .ok (.if_icmp .ge 53, 3) := by decide +kernel
theorem dX9_sumInflow_48 : decode cX9_sumInflow 48 = .ok (.aload_n 0, 1) := by decide +kernel
theorem dX9_sumInflow_49 : decode cX9_sumInflow 49 = .ok (.iload_n 2, 1) := by decide +kernel
theorem dX9_sumInflow_50 : decode cX9_sumInflow 50 = .ok (.iload_n 1, 1) := by decide +kernel
theorem dX9_sumInflow_51 : decode cX9_sumInflow 51 = .ok (.invokevirtual 170, 3) := by decide +kernel
theorem dX9_sumInflow_54 : decode cX9_sumInflow 54 = .ok (.ifCond .eq 38, 3) := by decide +kernel
theorem dX9_sumInflow_57 : decode cX9_sumInflow 57 = .ok (.aload_n 0, 1) := by decide +kernel
theorem dX9_sumInflow_58 : decode cX9_sumInflow 58 = .ok (.aload_n 0, 1) := by decide +kernel
theorem dX9_sumInflow_59 : decode cX9_sumInflow 59 = .ok (.getfield 25, 3) := by decide +kernel
theorem dX9_sumInflow_62 : decode cX9_sumInflow 62 = .ok (.getfield 158, 3) := by decide +kernel
theorem dX9_sumInflow_65 : decode cX9_sumInflow 65 = .ok (.iload_n 2, 1) := by decide +kernel
theorem dX9_sumInflow_66 : decode cX9_sumInflow 66 = .ok (.iaload, 1) := by decide +kernel
theorem dX9_sumInflow_67 : decode cX9_sumInflow 67 = .ok (.invokevirtual 204, 3) := by decide +kernel
theorem dX9_sumInflow_70 : decode cX9_sumInflow 70 = .ok (.aload_n 0, 1) := by decide +kernel
theorem dX9_sumInflow_71 : decode cX9_sumInflow 71 = .ok (.aload_n 0, 1) := by decide +kernel
theorem dX9_sumInflow_72 : decode cX9_sumInflow 72 = .ok (.getfield 9, 3) := by decide +kernel
theorem dX9_sumInflow_75 : decode cX9_sumInflow 75 = .ok (.getfield 174, 3) := by decide +kernel
theorem dX9_sumInflow_78 : decode cX9_sumInflow 78 = .ok (.aload_n 0, 1) := by decide +kernel
theorem dX9_sumInflow_79 : decode cX9_sumInflow 79 = .ok (.getfield 25, 3) := by decide +kernel
theorem dX9_sumInflow_82 : decode cX9_sumInflow 82 = .ok (.getfield 177, 3) := by decide +kernel
theorem dX9_sumInflow_85 : decode cX9_sumInflow 85 = .ok (.iload_n 2, 1) := by decide +kernel
theorem dX9_sumInflow_86 : decode cX9_sumInflow 86 = .ok (.iaload, 1) := by decide +kernel
theorem dX9_sumInflow_87 : decode cX9_sumInflow 87 = .ok (.iaload, 1) := by decide +kernel
theorem dX9_sumInflow_88 : decode cX9_sumInflow 88 = .ok (.i2l, 1) := by decide +kernel
theorem dX9_sumInflow_89 : decode cX9_sumInflow 89 = .ok (.invokevirtual 216, 3) := by decide +kernel
theorem dX9_sumInflow_92 : decode cX9_sumInflow 92 = .ok (.iinc 2 1, 3) := by decide +kernel
theorem dX9_sumInflow_95 : decode cX9_sumInflow 95 = .ok (.goto (-62), 3) := by decide +kernel
theorem dX9_sumInflow_98 : decode cX9_sumInflow 98 = .ok (.return_, 1) := by decide +kernel
def w_So_sumInflow_33 (C : zC) (n0 : Nat) (Q : zS → Prop)  (a0 : Nat) (a1 : Int32) (a2 : Int32) (κ : zS) : Prop :=
  ∃ I : Nat → Nat → Int32 → Int32 → zS → Prop, (∃ n, I n a0 a1 a2 κ) ∧ ∀ n a0 a1 a2 κ, zW C n0 κ → zT κ a0 = 12 → I n a0 a1 a2 κ →
    inb (a1 + (1 : Int32)) (zN κ (zR κ weBackFirsts (zR κ soWeb a0))) ∧
    ((zA κ (zR κ weBackFirsts (zR κ soWeb a0)) ((a1 + (1 : Int32))).toNatClampNeg) ≤ a2 →
      Q κ) ∧
    (¬ (zA κ (zR κ weBackFirsts (zR κ soWeb a0)) ((a1 + (1 : Int32))).toNatClampNeg) ≤ a2 →
      ∀ _ : zT κ a0 = 12,
      zRun C 0 mSo_comesIn [.ref a0, .int a2, .int a1] κ (oI (fun r2 κ1 =>
        ∀ _ : zW C n0 κ1,
        ∀ _ : zM (zn κ) κ κ1,
        (r2 = (0 : Int32) →
          ∀ v2_4 : Int32, v2_4 = a2 + (1 : Int32) →
          ∃ k < n, I k a0 a1 v2_4 κ1) ∧
        (¬ r2 = (0 : Int32) →
          inb a2 (zN κ1 (zR κ1 weSources (zR κ1 soWeb a0))) ∧
          ∀ _ : zT κ1 a0 = 12,
          zRun C 4 mSo_unit [.ref a0, .int (zA κ1 (zR κ1 weSources (zR κ1 soWeb a0)) (a2).toNatClampNeg)] κ1 (oV (fun κ7 =>
            ∀ _ : zW C n0 κ7,
            ∀ _ : zM (zn κ1) κ1 κ7,
            inb a2 (zN κ7 (zR κ7 weEdges (zR κ7 soWeb a0))) ∧
            inb (zA κ7 (zR κ7 weEdges (zR κ7 soWeb a0)) (a2).toNatClampNeg) (zN κ7 (zR κ7 atWeights (zR κ7 soAtlas a0))) ∧
            ∀ _ : zT κ7 a0 = 12,
            zRun C 4 mSo_addTerm [.ref a0, .long (Int32.toInt64 (zA κ7 (zR κ7 atWeights (zR κ7 soAtlas a0)) ((zA κ7 (zR κ7 weEdges (zR κ7 soWeb a0)) (a2).toNatClampNeg)).toNatClampNeg))] κ7 (oV (fun κ11 =>
              ∀ _ : zW C n0 κ11,
              ∀ _ : zM (zn κ7) κ7 κ11,
              ∀ v2_14 : Int32, v2_14 = a2 + (1 : Int32) →
              ∃ k < n, I k a0 a1 v2_14 κ11) noX)) noX))) noX))
theorem t_So_sumInflow_33 {C : zC} {n0 : Nat} {Q : zS → Prop}   {a0 : Nat} {a1 : Int32} {a2 : Int32} {κ : zS} (W : zW C n0 κ) (Ta0 : zT κ a0 = 12) (F : w_So_sumInflow_33 C n0 Q  a0 a1 a2 κ) : zG C n0 5 mSo_sumInflow 33 [some (.ref a0), some (.int a1), some (.int a2)] [] κ (oV Q noX) := by
  obtain ⟨I, ⟨m0, hI0⟩, F0⟩ := F
  have key : ∀ n a0 a1 a2 κ, zW C n0 κ → zT κ a0 = 12 → I n a0 a1 a2 κ → zG C n0 5 mSo_sumInflow 33 [some (.ref a0), some (.int a1), some (.int a2)] [] κ (oV Q noX) := by
    intro n
    induction n using Nat.strongRecOn with
    | _ n ih =>
      intro a0 a1 a2 κ W Ta0 hI
      have F := F0 n a0 a1 a2 κ W Ta0 hI
      clear hI hI0
      refine y_iln dX9_sumInflow_33 rfl ?_
      refine y_aln dX9_sumInflow_34 rfl ?_
      refine gf_X9_25 W dX9_sumInflow_35 rfl Ta0 ?_
      refine gf_X9_167 W dX9_sumInflow_38 rfl (ty_soWeb W Ta0) ?_
      refine y_iln dX9_sumInflow_41 rfl ?_
      refine y_ic dX9_sumInflow_42 zi_1 ?_
      refine y_iadd dX9_sumInflow_43 ?_
      refine y_ald dX9_sumInflow_44 (ty_weBackFirsts W (ty_soWeb W Ta0)) F.1 ?_
      replace F := F.2
      refine y_ii ((zA κ (zR κ weBackFirsts (zR κ soWeb a0)) ((a1 + (1 : Int32))).toNatClampNeg) ≤ a2) dX9_sumInflow_45 (t := 98) rfl rfl (fun c9 => ?_) (fun c9 => ?_)
      · replace F := F.1 c9
        exact y_rv W dX9_sumInflow_98 rfl F
      · replace F := F.2 c9
        refine y_aln dX9_sumInflow_48 rfl ?_
        refine y_iln dX9_sumInflow_49 rfl ?_
        refine y_iln dX9_sumInflow_50 rfl ?_
        replace F := F Ta0
        refine k_X9_170 W dX9_sumInflow_51 rfl (Nat.le_of_ble_eq_true rfl) (Nat.le_of_ble_eq_true rfl) (Or.inl Ta0) F (fun r2 κ1 Wκ1 Mκ1 F => ?_) (fun _ _ h9 => False.elim h9)
        replace F := F Wκ1 Mκ1
        refine y_i (r2 = (0 : Int32)) dX9_sumInflow_54 (t := 92) rfl rfl (fun c9 => ?_) (fun c9 => ?_)
        · replace F := F.1 c9
          refine y_incb dX9_sumInflow_92 zi_1 rfl (Nat.le_of_ble_eq_true rfl) (fun v2_4 ev2_4 => ?_)
          replace F := F v2_4 ev2_4
          show zG _ _ _ _ _ [some (.ref a0), some (.int a1), some (.int v2_4)] _ _ _
          refine y_goto dX9_sumInflow_95 (t := 33) rfl ?_
          have h5 := (ztm W Mκ1 Ta0)
          obtain ⟨k, hk, hI⟩ := F
          exact y_k (ih k hk _ _ _ _ Wκ1 h5 hI) ⟨rfl, rfl, rfl, trivial⟩
        · replace F := F.2 c9
          refine y_aln dX9_sumInflow_57 rfl ?_
          refine y_aln dX9_sumInflow_58 rfl ?_
          have h6 := (ztm W Mκ1 Ta0)
          refine gf_X9_25 Wκ1 dX9_sumInflow_59 rfl h6 ?_
          refine gf_X9_158 Wκ1 dX9_sumInflow_62 rfl (ty_soWeb Wκ1 h6) ?_
          refine y_iln dX9_sumInflow_65 rfl ?_
          refine y_ald dX9_sumInflow_66 (ty_weSources Wκ1 (ty_soWeb Wκ1 h6)) F.1 ?_
          replace F := F.2
          replace F := F h6
          refine k_X9_204 Wκ1 dX9_sumInflow_67 rfl (Nat.le_of_ble_eq_true rfl) (Nat.le_of_ble_eq_true rfl) (Or.inl h6) F (fun  κ7 Wκ7 Mκ7 F => ?_) (fun _ _ h9 => False.elim h9)
          replace F := F Wκ7 Mκ7
          refine y_aln dX9_sumInflow_70 rfl ?_
          refine y_aln dX9_sumInflow_71 rfl ?_
          have h10 := (ztm Wκ1 Mκ7 h6)
          refine gf_X9_9 Wκ7 dX9_sumInflow_72 rfl h10 ?_
          refine gf_X9_174 Wκ7 dX9_sumInflow_75 rfl (ty_soAtlas Wκ7 h10) ?_
          refine y_aln dX9_sumInflow_78 rfl ?_
          refine gf_X9_25 Wκ7 dX9_sumInflow_79 rfl h10 ?_
          refine gf_X9_177 Wκ7 dX9_sumInflow_82 rfl (ty_soWeb Wκ7 h10) ?_
          refine y_iln dX9_sumInflow_85 rfl ?_
          refine y_ald dX9_sumInflow_86 (ty_weEdges Wκ7 (ty_soWeb Wκ7 h10)) F.1 ?_
          replace F := F.2
          refine y_ald dX9_sumInflow_87 (ty_atWeights Wκ7 (ty_soAtlas Wκ7 h10)) F.1 ?_
          replace F := F.2
          refine y_i2l dX9_sumInflow_88 ?_
          replace F := F h10
          refine k_X9_216 Wκ7 dX9_sumInflow_89 rfl (Nat.le_of_ble_eq_true rfl) (Nat.le_of_ble_eq_true rfl) (Or.inl h10) F (fun  κ11 Wκ11 Mκ11 F => ?_) (fun _ _ h9 => False.elim h9)
          replace F := F Wκ11 Mκ11
          refine y_incb dX9_sumInflow_92 zi_1 rfl (Nat.le_of_ble_eq_true rfl) (fun v2_14 ev2_14 => ?_)
          replace F := F v2_14 ev2_14
          show zG _ _ _ _ _ [some (.ref a0), some (.int a1), some (.int v2_14)] _ _ _
          refine y_goto dX9_sumInflow_95 (t := 33) rfl ?_
          have h15 := (ztm Wκ7 Mκ11 h10)
          obtain ⟨k, hk, hI⟩ := F
          exact y_k (ih k hk _ _ _ _ Wκ11 h15 hI) ⟨rfl, rfl, rfl, trivial⟩
  exact key m0 a0 a1 a2 κ W Ta0 hI0

def w_So_sumInflow_23 (C : zC) (n0 : Nat) (Q : zS → Prop)  (a0 : Nat) (a1 : Int32) (κ : zS) : Prop :=
  inb a1 (zN κ (zR κ weBackFirsts (zR κ soWeb a0))) ∧
  ∀ v2_1 : Int32, v2_1 = (zA κ (zR κ weBackFirsts (zR κ soWeb a0)) (a1).toNatClampNeg) →
  w_So_sumInflow_33 C n0 Q  a0 a1 v2_1 κ
theorem t_So_sumInflow_23 {C : zC} {n0 : Nat} {Q : zS → Prop}   {a0 : Nat} {a1 : Int32} {κ : zS} (W : zW C n0 κ) (Ta0 : zT κ a0 = 12) (F : w_So_sumInflow_23 C n0 Q  a0 a1 κ) : zG C n0 5 mSo_sumInflow 23 [some (.ref a0), some (.int a1), none] [] κ (oV Q noX) := by
  unfold w_So_sumInflow_23 at F
  refine y_aln dX9_sumInflow_23 rfl ?_
  refine gf_X9_25 W dX9_sumInflow_24 rfl Ta0 ?_
  refine gf_X9_167 W dX9_sumInflow_27 rfl (ty_soWeb W Ta0) ?_
  refine y_iln dX9_sumInflow_30 rfl ?_
  refine y_ald dX9_sumInflow_31 (ty_weBackFirsts W (ty_soWeb W Ta0)) F.1 ?_
  replace F := F.2
  refine y_isnb dX9_sumInflow_32 (Nat.le_of_ble_eq_true rfl) (fun v2_1 ev2_1 => ?_)
  replace F := F v2_1 ev2_1
  show zG _ _ _ _ _ [some (.ref a0), some (.int a1), some (.int v2_1)] _ _ _
  exact y_k (t_So_sumInflow_33  W Ta0 F) ⟨rfl, rfl, rfl, trivial⟩

def w_So_sumInflow_0 (C : zC) (n0 : Nat) (Q : zS → Prop)  (a0 : Nat) (a1 : Int32) (κ : zS) : Prop :=
  ∀ _ : zT κ (zR κ soSum a0) = 8,
  zRun C 0 mNu_put [.ref (zR κ soSum a0), .long (0 : Int64)] κ (oV (fun κ1 =>
    ∀ _ : zW C n0 κ1,
    ∀ _ : zM (zn κ) κ κ1,
    (¬ a1 = (0 : Int32) →
      w_So_sumInflow_23 C n0 Q  a0 a1 κ1) ∧
    (a1 = (0 : Int32) →
      ∀ _ : zT κ1 (zR κ1 soSum a0) = 8,
      ∀ _ : zT κ1 (zR κ1 soWhole a0) = 8,
      zRun C 1 mNu_copy [.ref (zR κ1 soSum a0), .ref (zR κ1 soWhole a0)] κ1 (oV (fun κ6 =>
        ∀ _ : zW C n0 κ6,
        ∀ _ : zM (zn κ1) κ1 κ6,
        w_So_sumInflow_23 C n0 Q  a0 a1 κ6) noX))) noX)
theorem t_So_sumInflow_0 {C : zC} {n0 : Nat} {Q : zS → Prop}   {a0 : Nat} {a1 : Int32} {κ : zS} (W : zW C n0 κ) (Ta0 : zT κ a0 = 12) (F : w_So_sumInflow_0 C n0 Q  a0 a1 κ) : zG C n0 5 mSo_sumInflow 0 [some (.ref a0), some (.int a1), none] [] κ (oV Q noX) := by
  unfold w_So_sumInflow_0 at F
  refine y_aln dX9_sumInflow_0 rfl ?_
  refine gf_X9_58 W dX9_sumInflow_1 rfl Ta0 ?_
  refine y_lc dX9_sumInflow_4 zl_0 ?_
  replace F := F (ty_soSum W Ta0)
  refine k_X9_191 W dX9_sumInflow_5 rfl (Nat.le_of_ble_eq_true rfl) (Nat.le_of_ble_eq_true rfl) (Or.inl (ty_soSum W Ta0)) F (fun  κ1 Wκ1 Mκ1 F => ?_) (fun _ _ h9 => False.elim h9)
  replace F := F Wκ1 Mκ1
  refine y_iln dX9_sumInflow_8 rfl ?_
  refine y_in (a1 = (0 : Int32)) dX9_sumInflow_9 (t := 23) rfl rfl (fun c9 => ?_) (fun c9 => ?_)
  · replace F := F.1 c9
    have h4 := (ztm W Mκ1 Ta0)
    exact y_k (t_So_sumInflow_23  Wκ1 h4 F) ⟨rfl, rfl, trivial⟩
  · replace F := F.2 c9
    refine y_aln dX9_sumInflow_12 rfl ?_
    have h5 := (ztm W Mκ1 Ta0)
    refine gf_X9_58 Wκ1 dX9_sumInflow_13 rfl h5 ?_
    refine y_aln dX9_sumInflow_16 rfl ?_
    refine gf_X9_40 Wκ1 dX9_sumInflow_17 rfl h5 ?_
    replace F := F (ty_soSum Wκ1 h5)
    replace F := F (ty_soWhole Wκ1 h5)
    refine k_X9_213 Wκ1 dX9_sumInflow_20 rfl (Nat.le_of_ble_eq_true rfl) (Nat.le_of_ble_eq_true rfl) (Or.inl (ty_soSum Wκ1 h5)) F (fun  κ6 Wκ6 Mκ6 F => ?_) (fun _ _ h9 => False.elim h9)
    replace F := F Wκ6 Mκ6
    have h9 := (ztm Wκ1 Mκ6 h5)
    exact y_k (t_So_sumInflow_23  Wκ6 h9 F) ⟨rfl, rfl, trivial⟩

theorem So_sumInflow_run {C : zC} {n0 : Nat} {Q : zS → Prop} {a0 : Nat} {a1 : Int32} {κ : zS} (W : zW C n0 κ) (Ta0 : zT κ a0 = 12) (F : w_So_sumInflow_0 C (zn κ) Q a0 a1 κ) : zRun C 5 mSo_sumInflow [.ref a0, .int a1] κ (oV Q noX) := z_run (m_ent _ 1) (t_So_sumInflow_0 (W.lo (Nat.le_trans W.1.2.1 W.1.2.2) (Nat.le_refl _)) Ta0 F)

