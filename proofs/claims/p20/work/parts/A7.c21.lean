/-! methods of the class: Ch_play, Ch_walk, Ch_played, Ch_independent, Ch_given -/
theorem dX12_play_0 : decode cX12_play 0 = .ok (.aload_n 0, 1) := by decide +kernel
theorem dX12_play_1 : decode cX12_play 1 = .ok (.getfield 135, 3) := by decide +kernel
theorem dX12_play_4 : decode cX12_play 4 = .ok (.ifCond .ne 13, 3) := by decide +kernel
theorem dX12_play_7 : decode cX12_play 7 = .ok (.new 126, 3) := by decide +kernel
theorem dX12_play_10 : decode cX12_play 10 = .ok (.dup, 1) := by decide +kernel
theorem dX12_play_11 : decode cX12_play 11 = .ok (.ldc 164, 2) := by decide +kernel
theorem dX12_play_13 : decode cX12_play 13 = .ok (.invokespecial 166, 3) := by decide +kernel
theorem dX12_play_16 : decode cX12_play 16 = .ok (.athrow, 1) := by decide +kernel
theorem dX12_play_17 : decode cX12_play 17 = .ok (.iload_n 3, 1) := by decide +kernel
theorem dX12_play_18 : decode cX12_play 18 = .ok (.ifCond .lt 10, 3) := by decide +kernel
theorem dX12_play_21 : decode cX12_play 21 = .ok (.iload_n 3, 1) := by decide +kernel
theorem dX12_play_22 : decode cX12_play 22 = .ok (.sipush 2000, 3) := by decide +kernel
theorem dX12_play_25 : decode cX12_play 25 = .ok (.if_icmp .le 14, 3) := by decide +kernel
theorem dX12_play_28 : decode cX12_play 28 = .ok (.new 118, 3) := by decide +kernel
theorem dX12_play_31 : decode cX12_play 31 = .ok (.dup, 1) := by decide +kernel
theorem dX12_play_32 : decode cX12_play 32 = .ok (.ldc_w 310, 3) := by decide +kernel
theorem dX12_play_35 : decode cX12_play 35 = .ok (.invokespecial 122, 3) := by decide +kernel
theorem dX12_play_38 : decode cX12_play 38 = .ok (.athrow, 1) := by decide +kernel
theorem dX12_play_39 : decode cX12_play 39 = .ok (.aload_n 0, 1) := by decide +kernel
theorem dX12_play_40 : decode cX12_play 40 = .ok (.iconst 0, 1) := by decide +kernel
theorem dX12_play_41 : decode cX12_play 41 = .ok (.lload_n 1, 1) := by decide +kernel
theorem dX12_play_42 : decode cX12_play 42 = .ok (.iload_n 3, 1) := by decide +kernel
theorem dX12_play_43 : decode cX12_play 43 = .ok (.invokevirtual 312, 3) := by decide +kernel
theorem dX12_play_46 : decode cX12_play 46 = .ok (.ireturn, 1) := by decide +kernel
def w_Ch_play_0 (C : zC) (n0 : Nat) (Q : Int32 → zS → Prop) (X : zXp)  (a0 : Nat) (a1 : Int64) (a3 : Int32) (κ : zS) : Prop :=
  (¬ (zI κ chReady a0) = (0 : Int32) →
    (a3 < (0 : Int32) →
      ∀ κ1, κ1 = ut κ → X "java/lang/IllegalArgumentException" κ1) ∧
    (¬ a3 < (0 : Int32) →
      (a3 ≤ (2000 : Int32) →
        ∀ _ : zT κ a0 = 15,
        zRun C 5 mCh_perform [.ref a0, .int (0 : Int32), .long a1, .int a3] κ (oI (fun r3 κ2 =>
          ∀ _ : zW C n0 κ2,
          ∀ _ : zM (zn κ) κ κ2,
          Q r3 κ2) noX)) ∧
      (¬ a3 ≤ (2000 : Int32) →
        ∀ κ5, κ5 = ut κ → X "java/lang/IllegalArgumentException" κ5))) ∧
  ((zI κ chReady a0) = (0 : Int32) →
    ∀ κ6, κ6 = ut κ → X "java/lang/IllegalStateException" κ6)
theorem t_Ch_play_0 {C : zC} {n0 : Nat} {Q : Int32 → zS → Prop} {X : zXp}   {a0 : Nat} {a1 : Int64} {a3 : Int32} {κ : zS} (W : zW C n0 κ) (Ta0 : zT κ a0 = 15) (F : w_Ch_play_0 C n0 Q X  a0 a1 a3 κ) : zG C n0 8 mCh_play 0 [some (.ref a0), some (.long a1), none, some (.int a3)] [] κ (oI Q X) := by
  unfold w_Ch_play_0 at F
  refine y_aln dX12_play_0 rfl ?_
  refine gf_X12_135 dX12_play_1 rfl (Or.inl Ta0) ?_
  refine y_in ((zI κ chReady a0) = (0 : Int32)) dX12_play_4 (t := 17) rfl rfl (fun c9 => ?_) (fun c9 => ?_)
  · replace F := F.1 c9
    refine y_iln dX12_play_17 rfl ?_
    refine y_i (a3 < (0 : Int32)) dX12_play_18 (t := 28) rfl rfl (fun c9 => ?_) (fun c9 => ?_)
    · replace F := F.1 c9
      exact y_thr W (dxat_yesw dX12_play_28 dX12_play_31 dX12_play_32 dX12_play_35 dX12_play_38 rfl rfl rfl) (Nat.le_of_ble_eq_true rfl) (Nat.le_of_ble_eq_true rfl) (fun κ9 e9 => Or.inr ⟨_, rfl, F κ9 e9⟩)
    · replace F := F.2 c9
      refine y_iln dX12_play_21 rfl ?_
      refine y_si dX12_play_22 zs_2000 ?_
      refine y_ii (a3 ≤ (2000 : Int32)) dX12_play_25 (t := 39) rfl rfl (fun c9 => ?_) (fun c9 => ?_)
      · replace F := F.1 c9
        refine y_aln dX12_play_39 rfl ?_
        refine y_ic dX12_play_40 zi_0 ?_
        refine y_lln dX12_play_41 rfl ?_
        refine y_iln dX12_play_42 rfl ?_
        replace F := F Ta0
        refine k_X12_312 W dX12_play_43 rfl (Nat.le_of_ble_eq_true rfl) (Nat.le_of_ble_eq_true rfl) (Or.inl Ta0) F (fun r3 κ2 Wκ2 Mκ2 F => ?_) (fun _ _ h9 => False.elim h9)
        replace F := F Wκ2 Mκ2
        exact y_ri Wκ2 dX12_play_46 rfl in_nar F
      · replace F := F.2 c9
        exact y_thr W (dxat_yesw dX12_play_28 dX12_play_31 dX12_play_32 dX12_play_35 dX12_play_38 rfl rfl rfl) (Nat.le_of_ble_eq_true rfl) (Nat.le_of_ble_eq_true rfl) (fun κ9 e9 => Or.inr ⟨_, rfl, F κ9 e9⟩)
  · replace F := F.2 c9
    exact y_thr W (dxat_yes dX12_play_7 dX12_play_10 dX12_play_11 dX12_play_13 dX12_play_16 rfl rfl rfl) (Nat.le_of_ble_eq_true rfl) (Nat.le_of_ble_eq_true rfl) (fun κ9 e9 => Or.inr ⟨_, rfl, F κ9 e9⟩)

theorem Ch_play_run {C : zC} {n0 : Nat} {Q : Int32 → zS → Prop} {X : zXp} {a0 : Nat} {a1 : Int64} {a3 : Int32} {κ : zS} (W : zW C n0 κ) (Ta0 : zT κ a0 = 15) (F : w_Ch_play_0 C (zn κ) Q X a0 a1 a3 κ) : zRun C 8 mCh_play [.ref a0, .long a1, .int a3] κ (oI Q X) := z_run (m_ent _ 0) (t_Ch_play_0 (W.lo (Nat.le_trans W.1.2.1 W.1.2.2) (Nat.le_refl _)) Ta0 F)

theorem dX12_walk_0 : decode cX12_walk 0 = .ok (.aload_n 0, 1) := by decide +kernel
theorem dX12_walk_1 : decode cX12_walk 1 = .ok (.getfield 135, 3) := by decide +kernel
theorem dX12_walk_4 : decode cX12_walk 4 = .ok (.ifCond .ne 13, 3) := by decide +kernel
theorem dX12_walk_7 : decode cX12_walk 7 = .ok (.new 126, 3) := by decide +kernel
theorem dX12_walk_10 : decode cX12_walk 10 = .ok (.dup, 1) := by decide +kernel
theorem dX12_walk_11 : decode cX12_walk 11 = .ok (.ldc 164, 2) := by decide +kernel
theorem dX12_walk_13 : decode cX12_walk 13 = .ok (.invokespecial 166, 3) := by decide +kernel
theorem dX12_walk_16 : decode cX12_walk 16 = .ok (.athrow, 1) := by decide +kernel
theorem dX12_walk_17 : decode cX12_walk 17 = .ok (.iload_n 1, 1) := by decide +kernel
theorem dX12_walk_18 : decode cX12_walk 18 = .ok (.ifCond .lt 10, 3) := by decide +kernel
theorem dX12_walk_21 : decode cX12_walk 21 = .ok (.iload_n 1, 1) := by decide +kernel
theorem dX12_walk_22 : decode cX12_walk 22 = .ok (.sipush 2000, 3) := by decide +kernel
theorem dX12_walk_25 : decode cX12_walk 25 = .ok (.if_icmp .le 14, 3) := by decide +kernel
theorem dX12_walk_28 : decode cX12_walk 28 = .ok (.new 118, 3) := by decide +kernel
theorem dX12_walk_31 : decode cX12_walk 31 = .ok (.dup, 1) := by decide +kernel
theorem dX12_walk_32 : decode cX12_walk 32 = .ok (.ldc_w 310, 3) := by decide +kernel
theorem dX12_walk_35 : decode cX12_walk 35 = .ok (.invokespecial 122, 3) := by decide +kernel
theorem dX12_walk_38 : decode cX12_walk 38 = .ok (.athrow, 1) := by decide +kernel
theorem dX12_walk_39 : decode cX12_walk 39 = .ok (.aload_n 0, 1) := by decide +kernel
theorem dX12_walk_40 : decode cX12_walk 40 = .ok (.iconst 1, 1) := by decide +kernel
theorem dX12_walk_41 : decode cX12_walk 41 = .ok (.lconst 0, 1) := by decide +kernel
theorem dX12_walk_42 : decode cX12_walk 42 = .ok (.iload_n 1, 1) := by decide +kernel
theorem dX12_walk_43 : decode cX12_walk 43 = .ok (.invokevirtual 312, 3) := by decide +kernel
theorem dX12_walk_46 : decode cX12_walk 46 = .ok (.ireturn, 1) := by decide +kernel
def w_Ch_walk_0 (C : zC) (n0 : Nat) (Q : Int32 → zS → Prop) (X : zXp)  (a0 : Nat) (a1 : Int32) (κ : zS) : Prop :=
  (¬ (zI κ chReady a0) = (0 : Int32) →
    (a1 < (0 : Int32) →
      ∀ κ1, κ1 = ut κ → X "java/lang/IllegalArgumentException" κ1) ∧
    (¬ a1 < (0 : Int32) →
      (a1 ≤ (2000 : Int32) →
        ∀ _ : zT κ a0 = 15,
        zRun C 5 mCh_perform [.ref a0, .int (1 : Int32), .long (0 : Int64), .int a1] κ (oI (fun r3 κ2 =>
          ∀ _ : zW C n0 κ2,
          ∀ _ : zM (zn κ) κ κ2,
          Q r3 κ2) noX)) ∧
      (¬ a1 ≤ (2000 : Int32) →
        ∀ κ5, κ5 = ut κ → X "java/lang/IllegalArgumentException" κ5))) ∧
  ((zI κ chReady a0) = (0 : Int32) →
    ∀ κ6, κ6 = ut κ → X "java/lang/IllegalStateException" κ6)
theorem t_Ch_walk_0 {C : zC} {n0 : Nat} {Q : Int32 → zS → Prop} {X : zXp}   {a0 : Nat} {a1 : Int32} {κ : zS} (W : zW C n0 κ) (Ta0 : zT κ a0 = 15) (F : w_Ch_walk_0 C n0 Q X  a0 a1 κ) : zG C n0 8 mCh_walk 0 [some (.ref a0), some (.int a1)] [] κ (oI Q X) := by
  unfold w_Ch_walk_0 at F
  refine y_aln dX12_walk_0 rfl ?_
  refine gf_X12_135 dX12_walk_1 rfl (Or.inl Ta0) ?_
  refine y_in ((zI κ chReady a0) = (0 : Int32)) dX12_walk_4 (t := 17) rfl rfl (fun c9 => ?_) (fun c9 => ?_)
  · replace F := F.1 c9
    refine y_iln dX12_walk_17 rfl ?_
    refine y_i (a1 < (0 : Int32)) dX12_walk_18 (t := 28) rfl rfl (fun c9 => ?_) (fun c9 => ?_)
    · replace F := F.1 c9
      exact y_thr W (dxat_yesw dX12_walk_28 dX12_walk_31 dX12_walk_32 dX12_walk_35 dX12_walk_38 rfl rfl rfl) (Nat.le_of_ble_eq_true rfl) (Nat.le_of_ble_eq_true rfl) (fun κ9 e9 => Or.inr ⟨_, rfl, F κ9 e9⟩)
    · replace F := F.2 c9
      refine y_iln dX12_walk_21 rfl ?_
      refine y_si dX12_walk_22 zs_2000 ?_
      refine y_ii (a1 ≤ (2000 : Int32)) dX12_walk_25 (t := 39) rfl rfl (fun c9 => ?_) (fun c9 => ?_)
      · replace F := F.1 c9
        refine y_aln dX12_walk_39 rfl ?_
        refine y_ic dX12_walk_40 zi_1 ?_
        refine y_lc dX12_walk_41 zl_0 ?_
        refine y_iln dX12_walk_42 rfl ?_
        replace F := F Ta0
        refine k_X12_312 W dX12_walk_43 rfl (Nat.le_of_ble_eq_true rfl) (Nat.le_of_ble_eq_true rfl) (Or.inl Ta0) F (fun r3 κ2 Wκ2 Mκ2 F => ?_) (fun _ _ h9 => False.elim h9)
        replace F := F Wκ2 Mκ2
        exact y_ri Wκ2 dX12_walk_46 rfl in_nar F
      · replace F := F.2 c9
        exact y_thr W (dxat_yesw dX12_walk_28 dX12_walk_31 dX12_walk_32 dX12_walk_35 dX12_walk_38 rfl rfl rfl) (Nat.le_of_ble_eq_true rfl) (Nat.le_of_ble_eq_true rfl) (fun κ9 e9 => Or.inr ⟨_, rfl, F κ9 e9⟩)
  · replace F := F.2 c9
    exact y_thr W (dxat_yes dX12_walk_7 dX12_walk_10 dX12_walk_11 dX12_walk_13 dX12_walk_16 rfl rfl rfl) (Nat.le_of_ble_eq_true rfl) (Nat.le_of_ble_eq_true rfl) (fun κ9 e9 => Or.inr ⟨_, rfl, F κ9 e9⟩)

theorem Ch_walk_run {C : zC} {n0 : Nat} {Q : Int32 → zS → Prop} {X : zXp} {a0 : Nat} {a1 : Int32} {κ : zS} (W : zW C n0 κ) (Ta0 : zT κ a0 = 15) (F : w_Ch_walk_0 C (zn κ) Q X a0 a1 κ) : zRun C 8 mCh_walk [.ref a0, .int a1] κ (oI Q X) := z_run (m_ent _ 0) (t_Ch_walk_0 (W.lo (Nat.le_trans W.1.2.1 W.1.2.2) (Nat.le_refl _)) Ta0 F)

theorem dX12_played_0 : decode cX12_played 0 = .ok (.aload_n 0, 1) := by decide +kernel
theorem dX12_played_1 : decode cX12_played 1 = .ok (.getfield 135, 3) := by decide +kernel
theorem dX12_played_4 : decode cX12_played 4 = .ok (.ifCond .eq 13, 3) := by decide +kernel
theorem dX12_played_7 : decode cX12_played 7 = .ok (.aload_n 0, 1) := by decide +kernel
theorem dX12_played_8 : decode cX12_played 8 = .ok (.getfield 19, 3) := by decide +kernel
theorem dX12_played_11 : decode cX12_played 11 = .ok (.invokevirtual 226, 3) := by decide +kernel
theorem dX12_played_14 : decode cX12_played 14 = .ok (.goto 4, 3) := by decide +kernel
theorem dX12_played_17 : decode cX12_played 17 = .ok (.iconst 0, 1) := by decide +kernel
theorem dX12_played_18 : decode cX12_played 18 = .ok (.istore_n 2, 1) := by decide +kernel
theorem dX12_played_19 : decode cX12_played 19 = .ok (.iload_n 1, 1) := by decide +kernel
theorem dX12_played_20 : decode cX12_played 20 = .ok (.ifCond .lt 10, 3) := by decide +kernel
theorem dX12_played_23 : decode cX12_played 23 = .ok (.iload_n 1, 1) := by decide +kernel
theorem dX12_played_24 : decode cX12_played 24 = .ok (.iconst 5, 1) := by decide +kernel
theorem dX12_played_25 : decode cX12_played 25 = .ok (.iload_n 2, 1) := by decide +kernel
theorem dX12_played_26 : decode cX12_played 26 = .ok (.iadd, 1) := by decide +kernel
theorem dX12_played_27 : decode cX12_played 27 = .ok (.if_icmp .lt 14, 3) := by decide +kernel
theorem dX12_played_30 : decode cX12_played 30 = .ok (.new 154, 3) := by decide +kernel
theorem dX12_played_33 : decode cX12_played 33 = .ok (.dup, 1) := by decide +kernel
theorem dX12_played_34 : decode cX12_played 34 = .ok (.ldc_w 316, 3) := by decide +kernel
theorem dX12_played_37 : decode cX12_played 37 = .ok (.invokespecial 158, 3) := by decide +kernel
theorem dX12_played_40 : decode cX12_played 40 = .ok (.athrow, 1) := by decide +kernel
theorem dX12_played_41 : decode cX12_played 41 = .ok (.aload_n 0, 1) := by decide +kernel
theorem dX12_played_42 : decode cX12_played 42 = .ok (.getfield 148, 3) := by decide +kernel
theorem dX12_played_45 : decode cX12_played 45 = .ok (.ifCond .ne 5, 3) := by decide +kernel
theorem dX12_played_48 : decode cX12_played 48 = .ok (.lconst 0, 1) := by decide +kernel
theorem dX12_played_49 : decode cX12_played 49 = .ok (.lreturn, 1) := by decide +kernel
theorem dX12_played_50 : decode cX12_played 50 = .ok (.iload_n 1, 1) := by decide +kernel
theorem dX12_played_51 : decode cX12_played 51 = .ok (.iconst 5, 1) := by decide +kernel
theorem dX12_played_52 : decode cX12_played 52 = .ok (.if_icmp .ge 12, 3) := by decide +kernel
theorem dX12_played_55 : decode cX12_played 55 = .ok (.aload_n 0, 1) := by decide +kernel
theorem dX12_played_56 : decode cX12_played 56 = .ok (.getfield 87, 3) := by decide +kernel
theorem dX12_played_59 : decode cX12_played 59 = .ok (.iload_n 1, 1) := by decide +kernel
theorem dX12_played_60 : decode cX12_played 60 = .ok (.laload, 1) := by decide +kernel
theorem dX12_played_61 : decode cX12_played 61 = .ok (.goto 12, 3) := by decide +kernel
theorem dX12_played_64 : decode cX12_played 64 = .ok (.aload_n 0, 1) := by decide +kernel
theorem dX12_played_65 : decode cX12_played 65 = .ok (.getfield 91, 3) := by decide +kernel
theorem dX12_played_68 : decode cX12_played 68 = .ok (.iload_n 1, 1) := by decide +kernel
theorem dX12_played_69 : decode cX12_played 69 = .ok (.iconst 5, 1) := by decide +kernel
theorem dX12_played_70 : decode cX12_played 70 = .ok (.isub, 1) := by decide +kernel
theorem dX12_played_71 : decode cX12_played 71 = .ok (.iaload, 1) := by decide +kernel
theorem dX12_played_72 : decode cX12_played 72 = .ok (.i2l, 1) := by decide +kernel
theorem dX12_played_73 : decode cX12_played 73 = .ok (.lreturn, 1) := by decide +kernel
def w_Ch_played_18 (C : zC) (n0 : Nat) (Q : Int64 → zS → Prop) (X : zXp)  (a0 : Nat) (a1 : Int32) (s0 : Int32) (κ : zS) : Prop :=
  (a1 < (0 : Int32) →
    ∀ κ1, κ1 = ut κ → X "java/lang/IndexOutOfBoundsException" κ1) ∧
  (¬ a1 < (0 : Int32) →
    (a1 < ((5 : Int32) + s0) →
      (¬ (zI κ chPlayMade a0) = (0 : Int32) →
        ((5 : Int32) ≤ a1 →
          inb (a1 - (5 : Int32)) (zN κ (zR κ chLastShared a0)) ∧
          Q (Int32.toInt64 (zA κ (zR κ chLastShared a0) ((a1 - (5 : Int32))).toNatClampNeg)) κ) ∧
        (¬ (5 : Int32) ≤ a1 →
          inb a1 (zN κ (zR κ chRecord a0)) ∧
          Q (zJ κ (zR κ chRecord a0) (a1).toNatClampNeg) κ)) ∧
      ((zI κ chPlayMade a0) = (0 : Int32) →
        Q (0 : Int64) κ)) ∧
    (¬ a1 < ((5 : Int32) + s0) →
      ∀ κ2, κ2 = ut κ → X "java/lang/IndexOutOfBoundsException" κ2))
theorem t_Ch_played_18 {C : zC} {n0 : Nat} {Q : Int64 → zS → Prop} {X : zXp}   {a0 : Nat} {a1 : Int32} {s0 : Int32} {κ : zS} (W : zW C n0 κ) (Ta0 : zT κ a0 = 15) (F : w_Ch_played_18 C n0 Q X  a0 a1 s0 κ) : zG C n0 8 mCh_played 18 [some (.ref a0), some (.int a1), none] [.int s0] κ (oJ Q X) := by
  unfold w_Ch_played_18 at F
  refine y_isn dX12_played_18 (Nat.le_of_ble_eq_true rfl) rfl ?_
  refine y_iln dX12_played_19 rfl ?_
  refine y_i (a1 < (0 : Int32)) dX12_played_20 (t := 30) rfl rfl (fun c9 => ?_) (fun c9 => ?_)
  · replace F := F.1 c9
    exact y_thr W (dxat_yesw dX12_played_30 dX12_played_33 dX12_played_34 dX12_played_37 dX12_played_40 rfl rfl rfl) (Nat.le_of_ble_eq_true rfl) (Nat.le_of_ble_eq_true rfl) (fun κ9 e9 => Or.inr ⟨_, rfl, F κ9 e9⟩)
  · replace F := F.2 c9
    refine y_iln dX12_played_23 rfl ?_
    refine y_ic dX12_played_24 zi_5 ?_
    refine y_iln dX12_played_25 rfl ?_
    refine y_iadd dX12_played_26 ?_
    refine y_ii (a1 < ((5 : Int32) + s0)) dX12_played_27 (t := 41) rfl rfl (fun c9 => ?_) (fun c9 => ?_)
    · replace F := F.1 c9
      refine y_aln dX12_played_41 rfl ?_
      refine gf_X12_148 dX12_played_42 rfl (Or.inl Ta0) ?_
      refine y_in ((zI κ chPlayMade a0) = (0 : Int32)) dX12_played_45 (t := 50) rfl rfl (fun c9 => ?_) (fun c9 => ?_)
      · replace F := F.1 c9
        refine y_iln dX12_played_50 rfl ?_
        refine y_ic dX12_played_51 zi_5 ?_
        refine y_ii ((5 : Int32) ≤ a1) dX12_played_52 (t := 64) rfl rfl (fun c9 => ?_) (fun c9 => ?_)
        · replace F := F.1 c9
          refine y_aln dX12_played_64 rfl ?_
          refine gf_X12_91 W dX12_played_65 rfl Ta0 ?_
          refine y_iln dX12_played_68 rfl ?_
          refine y_ic dX12_played_69 zi_5 ?_
          refine y_isub dX12_played_70 ?_
          refine y_ald dX12_played_71 (ty_chLastShared W Ta0) F.1 ?_
          replace F := F.2
          refine y_i2l dX12_played_72 ?_
          exact y_rl W dX12_played_73 rfl F
        · replace F := F.2 c9
          refine y_aln dX12_played_55 rfl ?_
          refine gf_X12_87 W dX12_played_56 rfl Ta0 ?_
          refine y_iln dX12_played_59 rfl ?_
          refine y_lld dX12_played_60 (ty_chRecord W Ta0) F.1 ?_
          replace F := F.2
          refine y_goto dX12_played_61 (t := 73) rfl ?_
          exact y_rl W dX12_played_73 rfl F
      · replace F := F.2 c9
        refine y_lc dX12_played_48 zl_0 ?_
        exact y_rl W dX12_played_49 rfl F
    · replace F := F.2 c9
      exact y_thr W (dxat_yesw dX12_played_30 dX12_played_33 dX12_played_34 dX12_played_37 dX12_played_40 rfl rfl rfl) (Nat.le_of_ble_eq_true rfl) (Nat.le_of_ble_eq_true rfl) (fun κ9 e9 => Or.inr ⟨_, rfl, F κ9 e9⟩)

def w_Ch_played_0 (C : zC) (n0 : Nat) (Q : Int64 → zS → Prop) (X : zXp)  (a0 : Nat) (a1 : Int32) (κ : zS) : Prop :=
  ((zI κ chReady a0) = (0 : Int32) →
    w_Ch_played_18 C n0 Q X  a0 a1 (0 : Int32) κ) ∧
  (¬ (zI κ chReady a0) = (0 : Int32) →
    ∀ _ : zT κ (zR κ chCode a0) = 5,
    zRun C 0 mCo_shared [.ref (zR κ chCode a0)] κ (oI (fun r2 κ1 =>
      ∀ _ : zW C n0 κ1,
      ∀ _ : zM (zn κ) κ κ1,
      w_Ch_played_18 C n0 Q X  a0 a1 r2 κ1) noX))
theorem t_Ch_played_0 {C : zC} {n0 : Nat} {Q : Int64 → zS → Prop} {X : zXp}   {a0 : Nat} {a1 : Int32} {κ : zS} (W : zW C n0 κ) (Ta0 : zT κ a0 = 15) (F : w_Ch_played_0 C n0 Q X  a0 a1 κ) : zG C n0 8 mCh_played 0 [some (.ref a0), some (.int a1), none] [] κ (oJ Q X) := by
  unfold w_Ch_played_0 at F
  refine y_aln dX12_played_0 rfl ?_
  refine gf_X12_135 dX12_played_1 rfl (Or.inl Ta0) ?_
  refine y_i ((zI κ chReady a0) = (0 : Int32)) dX12_played_4 (t := 17) rfl rfl (fun c9 => ?_) (fun c9 => ?_)
  · replace F := F.1 c9
    refine y_ic dX12_played_17 zi_0 ?_
    exact y_k (t_Ch_played_18  W Ta0 F) ⟨rfl, rfl, trivial⟩
  · replace F := F.2 c9
    refine y_aln dX12_played_7 rfl ?_
    refine gf_X12_19 W dX12_played_8 rfl Ta0 ?_
    replace F := F (ty_chCode W Ta0)
    refine k_X12_226 W dX12_played_11 rfl (Nat.le_of_ble_eq_true rfl) (Nat.le_of_ble_eq_true rfl) (Or.inl (ty_chCode W Ta0)) F (fun r2 κ1 Wκ1 Mκ1 F => ?_) (fun _ _ h9 => False.elim h9)
    replace F := F Wκ1 Mκ1
    refine y_goto dX12_played_14 (t := 18) rfl ?_
    have h4 := (ztm W Mκ1 Ta0)
    exact y_k (t_Ch_played_18  Wκ1 h4 F) ⟨rfl, rfl, trivial⟩

theorem Ch_played_run {C : zC} {n0 : Nat} {Q : Int64 → zS → Prop} {X : zXp} {a0 : Nat} {a1 : Int32} {κ : zS} (W : zW C n0 κ) (Ta0 : zT κ a0 = 15) (F : w_Ch_played_0 C (zn κ) Q X a0 a1 κ) : zRun C 8 mCh_played [.ref a0, .int a1] κ (oJ Q X) := z_run (m_ent _ 1) (t_Ch_played_0 (W.lo (Nat.le_trans W.1.2.1 W.1.2.2) (Nat.le_refl _)) Ta0 F)

theorem dX12_independent_0 : decode cX12_independent 0 = .ok (.aload_n 0, 1) := by decide +kernel
theorem dX12_independent_1 : decode cX12_independent 1 = .ok (.getfield 61, 3) := by decide +kernel
theorem dX12_independent_4 : decode cX12_independent 4 = .ok (.getfield 142, 3) := by decide +kernel
theorem dX12_independent_7 : decode cX12_independent 7 = .ok (.ifCond .ne 14, 3) := by decide +kernel
theorem dX12_independent_10 : decode cX12_independent 10 = .ok (.new 126, 3) := by decide +kernel
theorem dX12_independent_13 : decode cX12_independent 13 = .ok (.dup, 1) := by decide +kernel
theorem dX12_independent_14 : decode cX12_independent 14 = .ok (.ldc_w 318, 3) := by decide +kernel
theorem dX12_independent_17 : decode cX12_independent 17 = .ok (.invokespecial 166, 3) := by decide +kernel
theorem dX12_independent_20 : decode cX12_independent 20 = .ok (.athrow, 1) := by decide +kernel
theorem dX12_independent_21 : decode cX12_independent 21 = .ok (.aload_n 0, 1) := by decide +kernel
theorem dX12_independent_22 : decode cX12_independent 22 = .ok (.getfield 19, 3) := by decide +kernel
theorem dX12_independent_25 : decode cX12_independent 25 = .ok (.iload_n 1, 1) := by decide +kernel
theorem dX12_independent_26 : decode cX12_independent 26 = .ok (.invokevirtual 320, 3) := by decide +kernel
theorem dX12_independent_29 : decode cX12_independent 29 = .ok (.ifCond .eq 14, 3) := by decide +kernel
theorem dX12_independent_32 : decode cX12_independent 32 = .ok (.aload_n 0, 1) := by decide +kernel
theorem dX12_independent_33 : decode cX12_independent 33 = .ok (.getfield 19, 3) := by decide +kernel
theorem dX12_independent_36 : decode cX12_independent 36 = .ok (.iload_n 2, 1) := by decide +kernel
theorem dX12_independent_37 : decode cX12_independent 37 = .ok (.invokevirtual 320, 3) := by decide +kernel
theorem dX12_independent_40 : decode cX12_independent 40 = .ok (.ifCond .ne 14, 3) := by decide +kernel
theorem dX12_independent_43 : decode cX12_independent 43 = .ok (.new 154, 3) := by decide +kernel
theorem dX12_independent_46 : decode cX12_independent 46 = .ok (.dup, 1) := by decide +kernel
theorem dX12_independent_47 : decode cX12_independent 47 = .ok (.ldc_w 323, 3) := by decide +kernel
theorem dX12_independent_50 : decode cX12_independent 50 = .ok (.invokespecial 158, 3) := by decide +kernel
theorem dX12_independent_53 : decode cX12_independent 53 = .ok (.athrow, 1) := by decide +kernel
theorem dX12_independent_54 : decode cX12_independent 54 = .ok (.aload_n 0, 1) := by decide +kernel
theorem dX12_independent_55 : decode cX12_independent 55 = .ok (.getfield 70, 3) := by decide +kernel
theorem dX12_independent_58 : decode cX12_independent 58 = .ok (.iload_n 1, 1) := by decide +kernel
theorem dX12_independent_59 : decode cX12_independent 59 = .ok (.iload_n 2, 1) := by decide +kernel
theorem dX12_independent_60 : decode cX12_independent 60 = .ok (.iconst (-1), 1) := by decide +kernel
theorem dX12_independent_61 : decode cX12_independent 61 = .ok (.invokevirtual 325, 3) := by decide +kernel
theorem dX12_independent_64 : decode cX12_independent 64 = .ok (.ifCond .eq 17, 3) := by decide +kernel
theorem dX12_independent_67 : decode cX12_independent 67 = .ok (.aload_n 0, 1) := by decide +kernel
theorem dX12_independent_68 : decode cX12_independent 68 = .ok (.getfield 70, 3) := by decide +kernel
theorem dX12_independent_71 : decode cX12_independent 71 = .ok (.invokevirtual 328, 3) := by decide +kernel
theorem dX12_independent_74 : decode cX12_independent 74 = .ok (.ifCond .eq 7, 3) := by decide +kernel
theorem dX12_independent_77 : decode cX12_independent 77 = .ok (.iconst 1, 1) := by decide +kernel
theorem dX12_independent_78 : decode cX12_independent 78 = .ok (.goto 4, 3) := by decide +kernel
theorem dX12_independent_81 : decode cX12_independent 81 = .ok (.iconst 0, 1) := by decide +kernel
theorem dX12_independent_82 : decode cX12_independent 82 = .ok (.ireturn, 1) := by decide +kernel
def w_Ch_independent_0 (C : zC) (n0 : Nat) (Q : Int32 → zS → Prop) (X : zXp)  (a0 : Nat) (a1 : Int32) (a2 : Int32) (κ : zS) : Prop :=
  (¬ (zI κ soSolved (zR κ chSolver a0)) = (0 : Int32) →
    ∀ _ : zT κ (zR κ chCode a0) = 5,
    zRun C 0 mCo_isShared [.ref (zR κ chCode a0), .int a1] κ (oI (fun r2 κ1 =>
      ∀ _ : zW C n0 κ1,
      ∀ _ : zM (zn κ) κ κ1,
      (r2 = (0 : Int32) →
        ∀ κ4, κ4 = ut κ1 → X "java/lang/IndexOutOfBoundsException" κ4) ∧
      (¬ r2 = (0 : Int32) →
        ∀ _ : zT κ1 (zR κ1 chCode a0) = 5,
        zRun C 0 mCo_isShared [.ref (zR κ1 chCode a0), .int a2] κ1 (oI (fun r7 κ6 =>
          ∀ _ : zW C n0 κ6,
          ∀ _ : zM (zn κ1) κ1 κ6,
          (¬ r7 = (0 : Int32) →
            ∀ _ : zT κ6 (zR κ6 chOdds a0) = 9,
            zRun C 5 mOd_arrange [.ref (zR κ6 chOdds a0), .int a1, .int a2, .int (-1 : Int32)] κ6 (oI (fun r11 κ10 =>
              ∀ _ : zW C n0 κ10,
              ∀ _ : zM (zn κ6) κ6 κ10,
              (r11 = (0 : Int32) →
                Q (0 : Int32) κ10) ∧
              (¬ r11 = (0 : Int32) →
                ∀ _ : zT κ10 (zR κ10 chOdds a0) = 9,
                zRun C 8 mOd_tablesAgree [.ref (zR κ10 chOdds a0)] κ10 (oI (fun r15 κ14 =>
                  ∀ _ : zW C n0 κ14,
                  ∀ _ : zM (zn κ10) κ10 κ14,
                  (r15 = (0 : Int32) →
                    Q (0 : Int32) κ14) ∧
                  (¬ r15 = (0 : Int32) →
                    Q (1 : Int32) κ14)) noX))) noX)) ∧
          (r7 = (0 : Int32) →
            ∀ κ17, κ17 = ut κ6 → X "java/lang/IndexOutOfBoundsException" κ17)) noX))) noX)) ∧
  ((zI κ soSolved (zR κ chSolver a0)) = (0 : Int32) →
    ∀ κ18, κ18 = ut κ → X "java/lang/IllegalStateException" κ18)
theorem t_Ch_independent_0 {C : zC} {n0 : Nat} {Q : Int32 → zS → Prop} {X : zXp}   {a0 : Nat} {a1 : Int32} {a2 : Int32} {κ : zS} (W : zW C n0 κ) (Ta0 : zT κ a0 = 15) (F : w_Ch_independent_0 C n0 Q X  a0 a1 a2 κ) : zG C n0 9 mCh_independent 0 [some (.ref a0), some (.int a1), some (.int a2)] [] κ (oI Q X) := by
  unfold w_Ch_independent_0 at F
  refine y_aln dX12_independent_0 rfl ?_
  refine gf_X12_61 W dX12_independent_1 rfl Ta0 ?_
  refine gf_X12_142 dX12_independent_4 rfl (Or.inl (ty_chSolver W Ta0)) ?_
  refine y_in ((zI κ soSolved (zR κ chSolver a0)) = (0 : Int32)) dX12_independent_7 (t := 21) rfl rfl (fun c9 => ?_) (fun c9 => ?_)
  · replace F := F.1 c9
    refine y_aln dX12_independent_21 rfl ?_
    refine gf_X12_19 W dX12_independent_22 rfl Ta0 ?_
    refine y_iln dX12_independent_25 rfl ?_
    replace F := F (ty_chCode W Ta0)
    refine k_X12_320 W dX12_independent_26 rfl (Nat.le_of_ble_eq_true rfl) (Nat.le_of_ble_eq_true rfl) (Or.inl (ty_chCode W Ta0)) F (fun r2 κ1 Wκ1 Mκ1 F => ?_) (fun _ _ h9 => False.elim h9)
    replace F := F Wκ1 Mκ1
    refine y_i (r2 = (0 : Int32)) dX12_independent_29 (t := 43) rfl rfl (fun c9 => ?_) (fun c9 => ?_)
    · replace F := F.1 c9
      exact y_thr Wκ1 (dxat_yesw dX12_independent_43 dX12_independent_46 dX12_independent_47 dX12_independent_50 dX12_independent_53 rfl rfl rfl) (Nat.le_of_ble_eq_true rfl) (Nat.le_of_ble_eq_true rfl) (fun κ9 e9 => Or.inr ⟨_, rfl, F κ9 e9⟩)
    · replace F := F.2 c9
      refine y_aln dX12_independent_32 rfl ?_
      have h5 := (ztm W Mκ1 Ta0)
      refine gf_X12_19 Wκ1 dX12_independent_33 rfl h5 ?_
      refine y_iln dX12_independent_36 rfl ?_
      replace F := F (ty_chCode Wκ1 h5)
      refine k_X12_320 Wκ1 dX12_independent_37 rfl (Nat.le_of_ble_eq_true rfl) (Nat.le_of_ble_eq_true rfl) (Or.inl (ty_chCode Wκ1 h5)) F (fun r7 κ6 Wκ6 Mκ6 F => ?_) (fun _ _ h9 => False.elim h9)
      replace F := F Wκ6 Mκ6
      refine y_in (r7 = (0 : Int32)) dX12_independent_40 (t := 54) rfl rfl (fun c9 => ?_) (fun c9 => ?_)
      · replace F := F.1 c9
        refine y_aln dX12_independent_54 rfl ?_
        have h9 := (ztm Wκ1 Mκ6 h5)
        refine gf_X12_70 Wκ6 dX12_independent_55 rfl h9 ?_
        refine y_iln dX12_independent_58 rfl ?_
        refine y_iln dX12_independent_59 rfl ?_
        refine y_ic dX12_independent_60 zi_m1 ?_
        replace F := F (ty_chOdds Wκ6 h9)
        refine k_X12_325 Wκ6 dX12_independent_61 rfl (Nat.le_of_ble_eq_true rfl) (Nat.le_of_ble_eq_true rfl) (Or.inl (ty_chOdds Wκ6 h9)) F (fun r11 κ10 Wκ10 Mκ10 F => ?_) (fun _ _ h9 => False.elim h9)
        replace F := F Wκ10 Mκ10
        refine y_i (r11 = (0 : Int32)) dX12_independent_64 (t := 81) rfl rfl (fun c9 => ?_) (fun c9 => ?_)
        · replace F := F.1 c9
          refine y_ic dX12_independent_81 zi_0 ?_
          exact y_ri Wκ10 dX12_independent_82 rfl (nb_nar nb_0) F
        · replace F := F.2 c9
          refine y_aln dX12_independent_67 rfl ?_
          have h13 := (ztm Wκ6 Mκ10 h9)
          refine gf_X12_70 Wκ10 dX12_independent_68 rfl h13 ?_
          replace F := F (ty_chOdds Wκ10 h13)
          refine k_X12_328 Wκ10 dX12_independent_71 rfl (Nat.le_of_ble_eq_true rfl) (Nat.le_of_ble_eq_true rfl) (Or.inl (ty_chOdds Wκ10 h13)) F (fun r15 κ14 Wκ14 Mκ14 F => ?_) (fun _ _ h9 => False.elim h9)
          replace F := F Wκ14 Mκ14
          refine y_i (r15 = (0 : Int32)) dX12_independent_74 (t := 81) rfl rfl (fun c9 => ?_) (fun c9 => ?_)
          · replace F := F.1 c9
            refine y_ic dX12_independent_81 zi_0 ?_
            exact y_ri Wκ14 dX12_independent_82 rfl (nb_nar nb_0) F
          · replace F := F.2 c9
            refine y_ic dX12_independent_77 zi_1 ?_
            refine y_goto dX12_independent_78 (t := 82) rfl ?_
            exact y_ri Wκ14 dX12_independent_82 rfl (nb_nar nb_1) F
      · replace F := F.2 c9
        exact y_thr Wκ6 (dxat_yesw dX12_independent_43 dX12_independent_46 dX12_independent_47 dX12_independent_50 dX12_independent_53 rfl rfl rfl) (Nat.le_of_ble_eq_true rfl) (Nat.le_of_ble_eq_true rfl) (fun κ9 e9 => Or.inr ⟨_, rfl, F κ9 e9⟩)
  · replace F := F.2 c9
    exact y_thr W (dxat_yesw dX12_independent_10 dX12_independent_13 dX12_independent_14 dX12_independent_17 dX12_independent_20 rfl rfl rfl) (Nat.le_of_ble_eq_true rfl) (Nat.le_of_ble_eq_true rfl) (fun κ9 e9 => Or.inr ⟨_, rfl, F κ9 e9⟩)

theorem Ch_independent_run {C : zC} {n0 : Nat} {Q : Int32 → zS → Prop} {X : zXp} {a0 : Nat} {a1 : Int32} {a2 : Int32} {κ : zS} (W : zW C n0 κ) (Ta0 : zT κ a0 = 15) (F : w_Ch_independent_0 C (zn κ) Q X a0 a1 a2 κ) : zRun C 9 mCh_independent [.ref a0, .int a1, .int a2] κ (oI Q X) := z_run (m_ent _ 0) (t_Ch_independent_0 (W.lo (Nat.le_trans W.1.2.1 W.1.2.2) (Nat.le_refl _)) Ta0 F)

theorem dX12_given_0 : decode cX12_given 0 = .ok (.aload_n 0, 1) := by decide +kernel
theorem dX12_given_1 : decode cX12_given 1 = .ok (.getfield 61, 3) := by decide +kernel
theorem dX12_given_4 : decode cX12_given 4 = .ok (.getfield 142, 3) := by decide +kernel
theorem dX12_given_7 : decode cX12_given 7 = .ok (.ifCond .ne 14, 3) := by decide +kernel
theorem dX12_given_10 : decode cX12_given 10 = .ok (.new 126, 3) := by decide +kernel
theorem dX12_given_13 : decode cX12_given 13 = .ok (.dup, 1) := by decide +kernel
theorem dX12_given_14 : decode cX12_given 14 = .ok (.ldc_w 318, 3) := by decide +kernel
theorem dX12_given_17 : decode cX12_given 17 = .ok (.invokespecial 166, 3) := by decide +kernel
theorem dX12_given_20 : decode cX12_given 20 = .ok (.athrow, 1) := by decide +kernel
theorem dX12_given_21 : decode cX12_given 21 = .ok (.aload_n 0, 1) := by decide +kernel
theorem dX12_given_22 : decode cX12_given 22 = .ok (.getfield 19, 3) := by decide +kernel
theorem dX12_given_25 : decode cX12_given 25 = .ok (.iload_n 1, 1) := by decide +kernel
theorem dX12_given_26 : decode cX12_given 26 = .ok (.invokevirtual 320, 3) := by decide +kernel
theorem dX12_given_29 : decode cX12_given 29 = .ok (.ifCond .eq 25, 3) := by decide +kernel
theorem dX12_given_32 : decode cX12_given 32 = .ok (.aload_n 0, 1) := by decide +kernel
theorem dX12_given_33 : decode cX12_given 33 = .ok (.getfield 19, 3) := by decide +kernel
theorem dX12_given_36 : decode cX12_given 36 = .ok (.iload_n 2, 1) := by decide +kernel
theorem dX12_given_37 : decode cX12_given 37 = .ok (.invokevirtual 320, 3) := by decide +kernel
theorem dX12_given_40 : decode cX12_given 40 = .ok (.ifCond .eq 14, 3) := by decide +kernel
theorem dX12_given_43 : decode cX12_given 43 = .ok (.aload_n 0, 1) := by decide +kernel
theorem dX12_given_44 : decode cX12_given 44 = .ok (.getfield 19, 3) := by decide +kernel
theorem dX12_given_47 : decode cX12_given 47 = .ok (.iload_n 3, 1) := by decide +kernel
theorem dX12_given_48 : decode cX12_given 48 = .ok (.invokevirtual 320, 3) := by decide +kernel
theorem dX12_given_51 : decode cX12_given 51 = .ok (.ifCond .ne 14, 3) := by decide +kernel
theorem dX12_given_54 : decode cX12_given 54 = .ok (.new 154, 3) := by decide +kernel
theorem dX12_given_57 : decode cX12_given 57 = .ok (.dup, 1) := by decide +kernel
theorem dX12_given_58 : decode cX12_given 58 = .ok (.ldc_w 323, 3) := by decide +kernel
theorem dX12_given_61 : decode cX12_given 61 = .ok (.invokespecial 158, 3) := by decide +kernel
theorem dX12_given_64 : decode cX12_given 64 = .ok (.athrow, 1) := by decide +kernel
theorem dX12_given_65 : decode cX12_given 65 = .ok (.aload_n 0, 1) := by decide +kernel
theorem dX12_given_66 : decode cX12_given 66 = .ok (.getfield 70, 3) := by decide +kernel
theorem dX12_given_69 : decode cX12_given 69 = .ok (.iload_n 1, 1) := by decide +kernel
theorem dX12_given_70 : decode cX12_given 70 = .ok (.iload_n 2, 1) := by decide +kernel
theorem dX12_given_71 : decode cX12_given 71 = .ok (.iload_n 3, 1) := by decide +kernel
theorem dX12_given_72 : decode cX12_given 72 = .ok (.invokevirtual 325, 3) := by decide +kernel
theorem dX12_given_75 : decode cX12_given 75 = .ok (.ifCond .eq 17, 3) := by decide +kernel
theorem dX12_given_78 : decode cX12_given 78 = .ok (.aload_n 0, 1) := by decide +kernel
theorem dX12_given_79 : decode cX12_given 79 = .ok (.getfield 70, 3) := by decide +kernel
theorem dX12_given_82 : decode cX12_given 82 = .ok (.invokevirtual 328, 3) := by decide +kernel
theorem dX12_given_85 : decode cX12_given 85 = .ok (.ifCond .eq 7, 3) := by decide +kernel
theorem dX12_given_88 : decode cX12_given 88 = .ok (.iconst 1, 1) := by decide +kernel
theorem dX12_given_89 : decode cX12_given 89 = .ok (.goto 4, 3) := by decide +kernel
theorem dX12_given_92 : decode cX12_given 92 = .ok (.iconst 0, 1) := by decide +kernel
theorem dX12_given_93 : decode cX12_given 93 = .ok (.ireturn, 1) := by decide +kernel
def w_Ch_given_0 (C : zC) (n0 : Nat) (Q : Int32 → zS → Prop) (X : zXp)  (a0 : Nat) (a1 : Int32) (a2 : Int32) (a3 : Int32) (κ : zS) : Prop :=
  (¬ (zI κ soSolved (zR κ chSolver a0)) = (0 : Int32) →
    ∀ _ : zT κ (zR κ chCode a0) = 5,
    zRun C 0 mCo_isShared [.ref (zR κ chCode a0), .int a1] κ (oI (fun r2 κ1 =>
      ∀ _ : zW C n0 κ1,
      ∀ _ : zM (zn κ) κ κ1,
      (r2 = (0 : Int32) →
        ∀ κ4, κ4 = ut κ1 → X "java/lang/IndexOutOfBoundsException" κ4) ∧
      (¬ r2 = (0 : Int32) →
        ∀ _ : zT κ1 (zR κ1 chCode a0) = 5,
        zRun C 0 mCo_isShared [.ref (zR κ1 chCode a0), .int a2] κ1 (oI (fun r7 κ6 =>
          ∀ _ : zW C n0 κ6,
          ∀ _ : zM (zn κ1) κ1 κ6,
          (r7 = (0 : Int32) →
            ∀ κ9, κ9 = ut κ6 → X "java/lang/IndexOutOfBoundsException" κ9) ∧
          (¬ r7 = (0 : Int32) →
            ∀ _ : zT κ6 (zR κ6 chCode a0) = 5,
            zRun C 0 mCo_isShared [.ref (zR κ6 chCode a0), .int a3] κ6 (oI (fun r12 κ11 =>
              ∀ _ : zW C n0 κ11,
              ∀ _ : zM (zn κ6) κ6 κ11,
              (¬ r12 = (0 : Int32) →
                ∀ _ : zT κ11 (zR κ11 chOdds a0) = 9,
                zRun C 5 mOd_arrange [.ref (zR κ11 chOdds a0), .int a1, .int a2, .int a3] κ11 (oI (fun r16 κ15 =>
                  ∀ _ : zW C n0 κ15,
                  ∀ _ : zM (zn κ11) κ11 κ15,
                  (r16 = (0 : Int32) →
                    Q (0 : Int32) κ15) ∧
                  (¬ r16 = (0 : Int32) →
                    ∀ _ : zT κ15 (zR κ15 chOdds a0) = 9,
                    zRun C 8 mOd_tablesAgree [.ref (zR κ15 chOdds a0)] κ15 (oI (fun r20 κ19 =>
                      ∀ _ : zW C n0 κ19,
                      ∀ _ : zM (zn κ15) κ15 κ19,
                      (r20 = (0 : Int32) →
                        Q (0 : Int32) κ19) ∧
                      (¬ r20 = (0 : Int32) →
                        Q (1 : Int32) κ19)) noX))) noX)) ∧
              (r12 = (0 : Int32) →
                ∀ κ22, κ22 = ut κ11 → X "java/lang/IndexOutOfBoundsException" κ22)) noX))) noX))) noX)) ∧
  ((zI κ soSolved (zR κ chSolver a0)) = (0 : Int32) →
    ∀ κ23, κ23 = ut κ → X "java/lang/IllegalStateException" κ23)
theorem t_Ch_given_0 {C : zC} {n0 : Nat} {Q : Int32 → zS → Prop} {X : zXp}   {a0 : Nat} {a1 : Int32} {a2 : Int32} {a3 : Int32} {κ : zS} (W : zW C n0 κ) (Ta0 : zT κ a0 = 15) (F : w_Ch_given_0 C n0 Q X  a0 a1 a2 a3 κ) : zG C n0 9 mCh_given 0 [some (.ref a0), some (.int a1), some (.int a2), some (.int a3)] [] κ (oI Q X) := by
  unfold w_Ch_given_0 at F
  refine y_aln dX12_given_0 rfl ?_
  refine gf_X12_61 W dX12_given_1 rfl Ta0 ?_
  refine gf_X12_142 dX12_given_4 rfl (Or.inl (ty_chSolver W Ta0)) ?_
  refine y_in ((zI κ soSolved (zR κ chSolver a0)) = (0 : Int32)) dX12_given_7 (t := 21) rfl rfl (fun c9 => ?_) (fun c9 => ?_)
  · replace F := F.1 c9
    refine y_aln dX12_given_21 rfl ?_
    refine gf_X12_19 W dX12_given_22 rfl Ta0 ?_
    refine y_iln dX12_given_25 rfl ?_
    replace F := F (ty_chCode W Ta0)
    refine k_X12_320 W dX12_given_26 rfl (Nat.le_of_ble_eq_true rfl) (Nat.le_of_ble_eq_true rfl) (Or.inl (ty_chCode W Ta0)) F (fun r2 κ1 Wκ1 Mκ1 F => ?_) (fun _ _ h9 => False.elim h9)
    replace F := F Wκ1 Mκ1
    refine y_i (r2 = (0 : Int32)) dX12_given_29 (t := 54) rfl rfl (fun c9 => ?_) (fun c9 => ?_)
    · replace F := F.1 c9
      exact y_thr Wκ1 (dxat_yesw dX12_given_54 dX12_given_57 dX12_given_58 dX12_given_61 dX12_given_64 rfl rfl rfl) (Nat.le_of_ble_eq_true rfl) (Nat.le_of_ble_eq_true rfl) (fun κ9 e9 => Or.inr ⟨_, rfl, F κ9 e9⟩)
    · replace F := F.2 c9
      refine y_aln dX12_given_32 rfl ?_
      have h5 := (ztm W Mκ1 Ta0)
      refine gf_X12_19 Wκ1 dX12_given_33 rfl h5 ?_
      refine y_iln dX12_given_36 rfl ?_
      replace F := F (ty_chCode Wκ1 h5)
      refine k_X12_320 Wκ1 dX12_given_37 rfl (Nat.le_of_ble_eq_true rfl) (Nat.le_of_ble_eq_true rfl) (Or.inl (ty_chCode Wκ1 h5)) F (fun r7 κ6 Wκ6 Mκ6 F => ?_) (fun _ _ h9 => False.elim h9)
      replace F := F Wκ6 Mκ6
      refine y_i (r7 = (0 : Int32)) dX12_given_40 (t := 54) rfl rfl (fun c9 => ?_) (fun c9 => ?_)
      · replace F := F.1 c9
        exact y_thr Wκ6 (dxat_yesw dX12_given_54 dX12_given_57 dX12_given_58 dX12_given_61 dX12_given_64 rfl rfl rfl) (Nat.le_of_ble_eq_true rfl) (Nat.le_of_ble_eq_true rfl) (fun κ9 e9 => Or.inr ⟨_, rfl, F κ9 e9⟩)
      · replace F := F.2 c9
        refine y_aln dX12_given_43 rfl ?_
        have h10 := (ztm Wκ1 Mκ6 h5)
        refine gf_X12_19 Wκ6 dX12_given_44 rfl h10 ?_
        refine y_iln dX12_given_47 rfl ?_
        replace F := F (ty_chCode Wκ6 h10)
        refine k_X12_320 Wκ6 dX12_given_48 rfl (Nat.le_of_ble_eq_true rfl) (Nat.le_of_ble_eq_true rfl) (Or.inl (ty_chCode Wκ6 h10)) F (fun r12 κ11 Wκ11 Mκ11 F => ?_) (fun _ _ h9 => False.elim h9)
        replace F := F Wκ11 Mκ11
        refine y_in (r12 = (0 : Int32)) dX12_given_51 (t := 65) rfl rfl (fun c9 => ?_) (fun c9 => ?_)
        · replace F := F.1 c9
          refine y_aln dX12_given_65 rfl ?_
          have h14 := (ztm Wκ6 Mκ11 h10)
          refine gf_X12_70 Wκ11 dX12_given_66 rfl h14 ?_
          refine y_iln dX12_given_69 rfl ?_
          refine y_iln dX12_given_70 rfl ?_
          refine y_iln dX12_given_71 rfl ?_
          replace F := F (ty_chOdds Wκ11 h14)
          refine k_X12_325 Wκ11 dX12_given_72 rfl (Nat.le_of_ble_eq_true rfl) (Nat.le_of_ble_eq_true rfl) (Or.inl (ty_chOdds Wκ11 h14)) F (fun r16 κ15 Wκ15 Mκ15 F => ?_) (fun _ _ h9 => False.elim h9)
          replace F := F Wκ15 Mκ15
          refine y_i (r16 = (0 : Int32)) dX12_given_75 (t := 92) rfl rfl (fun c9 => ?_) (fun c9 => ?_)
          · replace F := F.1 c9
            refine y_ic dX12_given_92 zi_0 ?_
            exact y_ri Wκ15 dX12_given_93 rfl (nb_nar nb_0) F
          · replace F := F.2 c9
            refine y_aln dX12_given_78 rfl ?_
            have h18 := (ztm Wκ11 Mκ15 h14)
            refine gf_X12_70 Wκ15 dX12_given_79 rfl h18 ?_
            replace F := F (ty_chOdds Wκ15 h18)
            refine k_X12_328 Wκ15 dX12_given_82 rfl (Nat.le_of_ble_eq_true rfl) (Nat.le_of_ble_eq_true rfl) (Or.inl (ty_chOdds Wκ15 h18)) F (fun r20 κ19 Wκ19 Mκ19 F => ?_) (fun _ _ h9 => False.elim h9)
            replace F := F Wκ19 Mκ19
            refine y_i (r20 = (0 : Int32)) dX12_given_85 (t := 92) rfl rfl (fun c9 => ?_) (fun c9 => ?_)
            · replace F := F.1 c9
              refine y_ic dX12_given_92 zi_0 ?_
              exact y_ri Wκ19 dX12_given_93 rfl (nb_nar nb_0) F
            · replace F := F.2 c9
              refine y_ic dX12_given_88 zi_1 ?_
              refine y_goto dX12_given_89 (t := 93) rfl ?_
              exact y_ri Wκ19 dX12_given_93 rfl (nb_nar nb_1) F
        · replace F := F.2 c9
          exact y_thr Wκ11 (dxat_yesw dX12_given_54 dX12_given_57 dX12_given_58 dX12_given_61 dX12_given_64 rfl rfl rfl) (Nat.le_of_ble_eq_true rfl) (Nat.le_of_ble_eq_true rfl) (fun κ9 e9 => Or.inr ⟨_, rfl, F κ9 e9⟩)
  · replace F := F.2 c9
    exact y_thr W (dxat_yesw dX12_given_10 dX12_given_13 dX12_given_14 dX12_given_17 dX12_given_20 rfl rfl rfl) (Nat.le_of_ble_eq_true rfl) (Nat.le_of_ble_eq_true rfl) (fun κ9 e9 => Or.inr ⟨_, rfl, F κ9 e9⟩)

theorem Ch_given_run {C : zC} {n0 : Nat} {Q : Int32 → zS → Prop} {X : zXp} {a0 : Nat} {a1 : Int32} {a2 : Int32} {a3 : Int32} {κ : zS} (W : zW C n0 κ) (Ta0 : zT κ a0 = 15) (F : w_Ch_given_0 C (zn κ) Q X a0 a1 a2 a3 κ) : zRun C 9 mCh_given [.ref a0, .int a1, .int a2, .int a3] κ (oI Q X) := z_run (m_ent _ 0) (t_Ch_given_0 (W.lo (Nat.le_trans W.1.2.1 W.1.2.2) (Nat.le_refl _)) Ta0 F)

