/-! methods of the class: Ho_isRow, Ho_slotOf, Ho_find, Ma_length, At_chosen, At_countTrue, At_howMany, Ar_copyOf, At_addNext, Ho_enter, At_lead, Ma_cellAt, Ma_slot, Ma_combine -/
theorem dX3_isRow_0 : decode cX3_isRow 0 = .ok (.aload_n 0, 1) := by decide +kernel
theorem dX3_isRow_1 : decode cX3_isRow 1 = .ok (.getfield 21, 3) := by decide +kernel
theorem dX3_isRow_4 : decode cX3_isRow 4 = .ok (.iload_n 1, 1) := by decide +kernel
theorem dX3_isRow_5 : decode cX3_isRow 5 = .ok (.iaload, 1) := by decide +kernel
theorem dX3_isRow_6 : decode cX3_isRow 6 = .ok (.istore 4, 2) := by decide +kernel
theorem dX3_isRow_8 : decode cX3_isRow 8 = .ok (.aload_n 0, 1) := by decide +kernel
theorem dX3_isRow_9 : decode cX3_isRow 9 = .ok (.getfield 21, 3) := by decide +kernel
theorem dX3_isRow_12 : decode cX3_isRow 12 = .ok (.iload_n 1, 1) := by decide +kernel
theorem dX3_isRow_13 : decode cX3_isRow 13 = .ok (.iconst 1, 1) := by decide +kernel
theorem dX3_isRow_14 : decode cX3_isRow 14 = .ok (.iadd, 1) := by decide +kernel
theorem dX3_isRow_15 : decode cX3_isRow 15 = .ok (.iaload, 1) := by decide +kernel
theorem dX3_isRow_16 : decode cX3_isRow 16 = .ok (.iload 4, 2) := by decide +kernel
theorem dX3_isRow_18 : decode cX3_isRow 18 = .ok (.isub, 1) := by decide +kernel
theorem dX3_isRow_19 : decode cX3_isRow 19 = .ok (.iload_n 3, 1) := by decide +kernel
theorem dX3_isRow_20 : decode cX3_isRow 20 = .ok (.if_icmp .eq 5, 3) := by decide +kernel
theorem dX3_isRow_23 : decode cX3_isRow 23 = .ok (.iconst 0, 1) := by decide +kernel
theorem dX3_isRow_24 : decode cX3_isRow 24 = .ok (.ireturn, 1) := by decide +kernel
theorem dX3_isRow_25 : decode cX3_isRow 25 = .ok (.iconst 0, 1) := by decide +kernel
theorem dX3_isRow_26 : decode cX3_isRow 26 = .ok (.istore 5, 2) := by decide +kernel
theorem dX3_isRow_28 : decode cX3_isRow 28 = .ok (.iload 5, 2) := by decide +kernel
theorem dX3_isRow_30 : decode cX3_isRow 30 = .ok (.iload_n 3, 1) := by decide +kernel
theorem dX3_isRow_31 : decode cX3_isRow 31 = .ok (.if_icmp .ge 28, 3) := by decide +kernel
theorem dX3_isRow_34 : decode cX3_isRow 34 = .ok (.aload_n 0, 1) := by decide +kernel
theorem dX3_isRow_35 : decode cX3_isRow 35 = .ok (.getfield 28, 3) := by decide +kernel
theorem dX3_isRow_38 : decode cX3_isRow 38 = .ok (.iload 4, 2) := by decide +kernel
theorem dX3_isRow_40 : decode cX3_isRow 40 = .ok (.iload 5, 2) := by decide +kernel
theorem dX3_isRow_42 : decode cX3_isRow 42 = .ok (.iadd, 1) := by decide +kernel
theorem dX3_isRow_43 : decode cX3_isRow 43 = .ok (.iaload, 1) := by decide +kernel
theorem dX3_isRow_44 : decode cX3_isRow 44 = .ok (.aload_n 2, 1) := by decide +kernel
theorem dX3_isRow_45 : decode cX3_isRow 45 = .ok (.iload 5, 2) := by decide +kernel
theorem dX3_isRow_47 : decode cX3_isRow 47 = .ok (.iaload, 1) := by decide +kernel
theorem dX3_isRow_48 : decode cX3_isRow 48 = .ok (.if_icmp .eq 5, 3) := by decide +kernel
theorem dX3_isRow_51 : decode cX3_isRow 51 = .ok (.iconst 0, 1) := by decide +kernel
theorem dX3_isRow_52 : decode cX3_isRow 52 = .ok (.ireturn, 1) := by decide +kernel
theorem dX3_isRow_53 : decode cX3_isRow 53 = .ok (.iinc 5 1, 3) := by decide +kernel
theorem dX3_isRow_56 : decode cX3_isRow 56 = .ok (.goto (-28), 3) := by decide +kernel
theorem dX3_isRow_59 : decode cX3_isRow 59 = .ok (.iconst 1, 1) := by decide +kernel
theorem dX3_isRow_60 : decode cX3_isRow 60 = .ok (.ireturn, 1) := by decide +kernel
def w_Ho_isRow_28 (C : zC) (n0 : Nat) (Q : Int32 → zS → Prop)  (a0 : Nat) (a2 : Nat) (a3 : Int32) (a4 : Int32) (a5 : Int32) (κ : zS) : Prop :=
  ∃ I : Nat → Nat → Nat → Int32 → Int32 → Int32 → zS → Prop, (∃ n, I n a0 a2 a3 a4 a5 κ) ∧ ∀ n a0 a2 a3 a4 a5 κ, zW C n0 κ → zT κ a0 = 6 → zT κ a2 = 20 → I n a0 a2 a3 a4 a5 κ →
    (a3 ≤ a5 →
      Q (1 : Int32) κ) ∧
    (¬ a3 ≤ a5 →
      inb (a4 + a5) (zN κ (zR κ hoPool a0)) ∧
      inb a5 (zN κ a2) ∧
      ((zA κ (zR κ hoPool a0) ((a4 + a5)).toNatClampNeg) = (zA κ a2 (a5).toNatClampNeg) →
        ∀ v5_1 : Int32, v5_1 = a5 + (1 : Int32) →
        ∃ k < n, I k a0 a2 a3 a4 v5_1 κ) ∧
      (¬ (zA κ (zR κ hoPool a0) ((a4 + a5)).toNatClampNeg) = (zA κ a2 (a5).toNatClampNeg) →
        Q (0 : Int32) κ))
theorem t_Ho_isRow_28 {C : zC} {n0 : Nat} {Q : Int32 → zS → Prop}   {a0 : Nat} {a2 : Nat} {a3 : Int32} {a4 : Int32} {a5 : Int32} {κ : zS} (W : zW C n0 κ) (Ta0 : zT κ a0 = 6) (Ta2 : zT κ a2 = 20) (F : w_Ho_isRow_28 C n0 Q  a0 a2 a3 a4 a5 κ) : zG C n0 0 mHo_isRow 28 [some (.ref a0), none, some (.ref a2), some (.int a3), some (.int a4), some (.int a5)] [] κ (oI Q noX) := by
  obtain ⟨I, ⟨m0, hI0⟩, F0⟩ := F
  have key : ∀ n a0 a2 a3 a4 a5 κ, zW C n0 κ → zT κ a0 = 6 → zT κ a2 = 20 → I n a0 a2 a3 a4 a5 κ → zG C n0 0 mHo_isRow 28 [some (.ref a0), none, some (.ref a2), some (.int a3), some (.int a4), some (.int a5)] [] κ (oI Q noX) := by
    intro n
    induction n using Nat.strongRecOn with
    | _ n ih =>
      intro a0 a2 a3 a4 a5 κ W Ta0 Ta2 hI
      have F := F0 n a0 a2 a3 a4 a5 κ W Ta0 Ta2 hI
      clear hI hI0
      refine y_il dX3_isRow_28 rfl ?_
      refine y_iln dX3_isRow_30 rfl ?_
      refine y_ii (a3 ≤ a5) dX3_isRow_31 (t := 59) rfl rfl (fun c9 => ?_) (fun c9 => ?_)
      · replace F := F.1 c9
        refine y_ic dX3_isRow_59 zi_1 ?_
        exact y_ri W dX3_isRow_60 rfl (nb_nar nb_1) F
      · replace F := F.2 c9
        refine y_aln dX3_isRow_34 rfl ?_
        refine gf_X3_28 W dX3_isRow_35 rfl Ta0 ?_
        refine y_il dX3_isRow_38 rfl ?_
        refine y_il dX3_isRow_40 rfl ?_
        refine y_iadd dX3_isRow_42 ?_
        refine y_ald dX3_isRow_43 (ty_hoPool W Ta0) F.1 ?_
        replace F := F.2
        refine y_aln dX3_isRow_44 rfl ?_
        refine y_il dX3_isRow_45 rfl ?_
        refine y_ald dX3_isRow_47 Ta2 F.1 ?_
        replace F := F.2
        refine y_ii ((zA κ (zR κ hoPool a0) ((a4 + a5)).toNatClampNeg) = (zA κ a2 (a5).toNatClampNeg)) dX3_isRow_48 (t := 53) rfl rfl (fun c9 => ?_) (fun c9 => ?_)
        · replace F := F.1 c9
          refine y_incb dX3_isRow_53 zi_1 rfl (Nat.le_of_ble_eq_true rfl) (fun v5_1 ev5_1 => ?_)
          replace F := F v5_1 ev5_1
          refine y_goto dX3_isRow_56 (t := 28) rfl ?_
          obtain ⟨k, hk, hI⟩ := F
          exact y_k (ih k hk _ _ _ _ _ _ W Ta0 Ta2 hI) ⟨rfl, rfl, rfl, rfl, rfl, trivial⟩
        · replace F := F.2 c9
          refine y_ic dX3_isRow_51 zi_0 ?_
          exact y_ri W dX3_isRow_52 rfl (nb_nar nb_0) F
  exact key m0 a0 a2 a3 a4 a5 κ W Ta0 Ta2 hI0

def w_Ho_isRow_0 (C : zC) (n0 : Nat) (Q : Int32 → zS → Prop)  (a0 : Nat) (a1 : Int32) (a2 : Nat) (a3 : Int32) (κ : zS) : Prop :=
  inb a1 (zN κ (zR κ hoStarts a0)) ∧
  ∀ v4_1 : Int32, v4_1 = (zA κ (zR κ hoStarts a0) (a1).toNatClampNeg) →
  inb (a1 + (1 : Int32)) (zN κ (zR κ hoStarts a0)) ∧
  (((zA κ (zR κ hoStarts a0) ((a1 + (1 : Int32))).toNatClampNeg) - v4_1) = a3 →
    w_Ho_isRow_28 C n0 Q  a0 a2 a3 v4_1 (0 : Int32) κ) ∧
  (¬ ((zA κ (zR κ hoStarts a0) ((a1 + (1 : Int32))).toNatClampNeg) - v4_1) = a3 →
    Q (0 : Int32) κ)
theorem t_Ho_isRow_0 {C : zC} {n0 : Nat} {Q : Int32 → zS → Prop}   {a0 : Nat} {a1 : Int32} {a2 : Nat} {a3 : Int32} {κ : zS} (W : zW C n0 κ) (Ta0 : zT κ a0 = 6) (Ta2 : zT κ a2 = 20) (F : w_Ho_isRow_0 C n0 Q  a0 a1 a2 a3 κ) : zG C n0 0 mHo_isRow 0 [some (.ref a0), some (.int a1), some (.ref a2), some (.int a3), none, none] [] κ (oI Q noX) := by
  unfold w_Ho_isRow_0 at F
  refine y_aln dX3_isRow_0 rfl ?_
  refine gf_X3_21 W dX3_isRow_1 rfl Ta0 ?_
  refine y_iln dX3_isRow_4 rfl ?_
  refine y_ald dX3_isRow_5 (ty_hoStarts W Ta0) F.1 ?_
  replace F := F.2
  refine y_isb dX3_isRow_6 (Nat.le_of_ble_eq_true rfl) (fun v4_1 ev4_1 => ?_)
  replace F := F v4_1 ev4_1
  refine y_aln dX3_isRow_8 rfl ?_
  refine gf_X3_21 W dX3_isRow_9 rfl Ta0 ?_
  refine y_iln dX3_isRow_12 rfl ?_
  refine y_ic dX3_isRow_13 zi_1 ?_
  refine y_iadd dX3_isRow_14 ?_
  refine y_ald dX3_isRow_15 (ty_hoStarts W Ta0) F.1 ?_
  replace F := F.2
  refine y_il dX3_isRow_16 rfl ?_
  refine y_isub dX3_isRow_18 ?_
  refine y_iln dX3_isRow_19 rfl ?_
  refine y_ii (((zA κ (zR κ hoStarts a0) ((a1 + (1 : Int32))).toNatClampNeg) - v4_1) = a3) dX3_isRow_20 (t := 25) rfl rfl (fun c9 => ?_) (fun c9 => ?_)
  · replace F := F.1 c9
    refine y_ic dX3_isRow_25 zi_0 ?_
    refine y_is dX3_isRow_26 (Nat.le_of_ble_eq_true rfl) rfl ?_
    exact y_k (t_Ho_isRow_28  W Ta0 Ta2 F) ⟨rfl, rfl, rfl, rfl, rfl, trivial⟩
  · replace F := F.2 c9
    refine y_ic dX3_isRow_23 zi_0 ?_
    exact y_ri W dX3_isRow_24 rfl (nb_nar nb_0) F

theorem Ho_isRow_run {C : zC} {n0 : Nat} {Q : Int32 → zS → Prop} {a0 : Nat} {a1 : Int32} {a2 : Nat} {a3 : Int32} {κ : zS} (W : zW C n0 κ) (Ta0 : zT κ a0 = 6) (Ta2 : zT κ a2 = 20) (F : w_Ho_isRow_0 C (zn κ) Q a0 a1 a2 a3 κ) : zRun C 0 mHo_isRow [.ref a0, .int a1, .ref a2, .int a3] κ (oI Q noX) := z_run (m_ent _ 2) (t_Ho_isRow_0 (W.lo (Nat.le_trans W.1.2.1 W.1.2.2) (Nat.le_refl _)) Ta0 Ta2 F)

theorem dX3_slotOf_0 : decode cX3_slotOf 0 = .ok (.iload_n 2, 1) := by decide +kernel
theorem dX3_slotOf_1 : decode cX3_slotOf 1 = .ok (.istore_n 3, 1) := by decide +kernel
theorem dX3_slotOf_2 : decode cX3_slotOf 2 = .ok (.iconst 0, 1) := by decide +kernel
theorem dX3_slotOf_3 : decode cX3_slotOf 3 = .ok (.istore 4, 2) := by decide +kernel
theorem dX3_slotOf_5 : decode cX3_slotOf 5 = .ok (.iload 4, 2) := by decide +kernel
theorem dX3_slotOf_7 : decode cX3_slotOf 7 = .ok (.iload_n 2, 1) := by decide +kernel
theorem dX3_slotOf_8 : decode cX3_slotOf 8 = .ok (.if_icmp .ge 26, 3) := by decide +kernel
theorem dX3_slotOf_11 : decode cX3_slotOf 11 = .ok (.iload_n 3, 1) := by decide +kernel
theorem dX3_slotOf_12 : decode cX3_slotOf 12 = .ok (.aload_n 1, 1) := by decide +kernel
theorem dX3_slotOf_13 : decode cX3_slotOf 13 = .ok (.iload 4, 2) := by decide +kernel
theorem dX3_slotOf_15 : decode cX3_slotOf 15 = .ok (.iaload, 1) := by decide +kernel
theorem dX3_slotOf_16 : decode cX3_slotOf 16 = .ok (.ixor, 1) := by decide +kernel
theorem dX3_slotOf_17 : decode cX3_slotOf 17 = .ok (.ldc 56, 2) := by decide +kernel
theorem dX3_slotOf_19 : decode cX3_slotOf 19 = .ok (.imul, 1) := by decide +kernel
theorem dX3_slotOf_20 : decode cX3_slotOf 20 = .ok (.istore_n 3, 1) := by decide +kernel
theorem dX3_slotOf_21 : decode cX3_slotOf 21 = .ok (.iload_n 3, 1) := by decide +kernel
theorem dX3_slotOf_22 : decode cX3_slotOf 22 = .ok (.iload_n 3, 1) := by decide +kernel
theorem dX3_slotOf_23 : decode cX3_slotOf 23 = .ok (.bipush 15, 2) := by decide +kernel
theorem dX3_slotOf_25 : decode cX3_slotOf 25 = .ok (.iushr, 1) := by decide +kernel
theorem dX3_slotOf_26 : decode cX3_slotOf 26 = .ok (.ixor, 1) := by decide +kernel
theorem dX3_slotOf_27 : decode cX3_slotOf 27 = .ok (.istore_n 3, 1) := by decide +kernel
theorem dX3_slotOf_28 : decode cX3_slotOf 28 = .ok (.iinc 4 1, 3) := by decide +kernel
theorem dX3_slotOf_31 : decode cX3_slotOf 31 = .ok (.goto (-26), 3) := by decide +kernel
theorem dX3_slotOf_34 : decode cX3_slotOf 34 = .ok (.iload_n 3, 1) := by decide +kernel
theorem dX3_slotOf_35 : decode cX3_slotOf 35 = .ok (.aload_n 0, 1) := by decide +kernel
theorem dX3_slotOf_36 : decode cX3_slotOf 36 = .ok (.getfield 25, 3) := by decide +kernel
theorem dX3_slotOf_39 : decode cX3_slotOf 39 = .ok (.arraylength, 1) := by decide +kernel
theorem dX3_slotOf_40 : decode cX3_slotOf 40 = .ok (.iconst 1, 1) := by decide +kernel
theorem dX3_slotOf_41 : decode cX3_slotOf 41 = .ok (.isub, 1) := by decide +kernel
theorem dX3_slotOf_42 : decode cX3_slotOf 42 = .ok (.iand, 1) := by decide +kernel
theorem dX3_slotOf_43 : decode cX3_slotOf 43 = .ok (.istore 4, 2) := by decide +kernel
theorem dX3_slotOf_45 : decode cX3_slotOf 45 = .ok (.iconst 0, 1) := by decide +kernel
theorem dX3_slotOf_46 : decode cX3_slotOf 46 = .ok (.istore 5, 2) := by decide +kernel
theorem dX3_slotOf_48 : decode cX3_slotOf 48 = .ok (.iload 5, 2) := by decide +kernel
theorem dX3_slotOf_50 : decode cX3_slotOf 50 = .ok (.aload_n 0, 1) := by decide +kernel
theorem dX3_slotOf_51 : decode cX3_slotOf 51 = .ok (.getfield 25, 3) := by decide +kernel
theorem dX3_slotOf_54 : decode cX3_slotOf 54 = .ok (.arraylength, 1) := by decide +kernel
theorem dX3_slotOf_55 : decode cX3_slotOf 55 = .ok (.if_icmp .ge 54, 3) := by decide +kernel
theorem dX3_slotOf_58 : decode cX3_slotOf 58 = .ok (.aload_n 0, 1) := by decide +kernel
theorem dX3_slotOf_59 : decode cX3_slotOf 59 = .ok (.getfield 25, 3) := by decide +kernel
theorem dX3_slotOf_62 : decode cX3_slotOf 62 = .ok (.iload 4, 2) := by decide +kernel
theorem dX3_slotOf_64 : decode cX3_slotOf 64 = .ok (.iaload, 1) := by decide +kernel
theorem dX3_slotOf_65 : decode cX3_slotOf 65 = .ok (.ifCond .eq 21, 3) := by decide +kernel
theorem dX3_slotOf_68 : decode cX3_slotOf 68 = .ok (.aload_n 0, 1) := by decide +kernel
theorem dX3_slotOf_69 : decode cX3_slotOf 69 = .ok (.aload_n 0, 1) := by decide +kernel
theorem dX3_slotOf_70 : decode cX3_slotOf 70 = .ok (.getfield 25, 3) := by decide +kernel
theorem dX3_slotOf_73 : decode cX3_slotOf 73 = .ok (.iload 4, 2) := by decide +kernel
theorem dX3_slotOf_75 : decode cX3_slotOf 75 = .ok (.iaload, 1) := by decide +kernel
theorem dX3_slotOf_76 : decode cX3_slotOf 76 = .ok (.iconst 1, 1) := by decide +kernel
theorem dX3_slotOf_77 : decode cX3_slotOf 77 = .ok (.isub, 1) := by decide +kernel
theorem dX3_slotOf_78 : decode cX3_slotOf 78 = .ok (.aload_n 1, 1) := by decide +kernel
theorem dX3_slotOf_79 : decode cX3_slotOf 79 = .ok (.iload_n 2, 1) := by decide +kernel
theorem dX3_slotOf_80 : decode cX3_slotOf 80 = .ok (.invokevirtual 57, 3) := by decide +kernel
theorem dX3_slotOf_83 : decode cX3_slotOf 83 = .ok (.ifCond .eq 6, 3) := by decide +kernel
theorem dX3_slotOf_86 : decode cX3_slotOf 86 = .ok (.iload 4, 2) := by decide +kernel
theorem dX3_slotOf_88 : decode cX3_slotOf 88 = .ok (.ireturn, 1) := by decide +kernel
theorem dX3_slotOf_89 : decode cX3_slotOf 89 = .ok (.iload 4, 2) := by decide +kernel
theorem dX3_slotOf_91 : decode cX3_slotOf 91 = .ok (.iconst 1, 1) := by decide +kernel
theorem dX3_slotOf_92 : decode cX3_slotOf 92 = .ok (.iadd, 1) := by decide +kernel
theorem dX3_slotOf_93 : decode cX3_slotOf 93 = .ok (.aload_n 0, 1) := by decide +kernel
theorem dX3_slotOf_94 : decode cX3_slotOf 94 = .ok (.getfield 25, 3) := by decide +kernel
theorem dX3_slotOf_97 : decode cX3_slotOf 97 = .ok (.arraylength, 1) := by decide +kernel
theorem dX3_slotOf_98 : decode cX3_slotOf 98 = .ok (.iconst 1, 1) := by decide +kernel
theorem dX3_slotOf_99 : decode cX3_slotOf 99 = .ok (.isub, 1) := by decide +kernel
theorem dX3_slotOf_100 : decode cX3_slotOf 100 = .ok (.iand, 1) := by decide +kernel
theorem dX3_slotOf_101 : decode cX3_slotOf 101 = .ok (.istore 4, 2) := by decide +kernel
theorem dX3_slotOf_103 : decode cX3_slotOf 103 = .ok (.iinc 5 1, 3) := by decide +kernel
theorem dX3_slotOf_106 : decode cX3_slotOf 106 = .ok (.goto (-58), 3) := by decide +kernel
theorem dX3_slotOf_109 : decode cX3_slotOf 109 = .ok (.iload 4, 2) := by decide +kernel
theorem dX3_slotOf_111 : decode cX3_slotOf 111 = .ok (.ireturn, 1) := by decide +kernel
def w_Ho_slotOf_48 (C : zC) (n0 : Nat) (Q : Int32 → zS → Prop)  (a0 : Nat) (a1 : Nat) (a2 : Int32) (a4 : Int32) (a5 : Int32) (κ : zS) : Prop :=
  ∃ I : Nat → Nat → Nat → Int32 → Int32 → Int32 → zS → Prop, (∃ n, I n a0 a1 a2 a4 a5 κ) ∧ ∀ n a0 a1 a2 a4 a5 κ, zW C n0 κ → zT κ a0 = 6 → zT κ a1 = 20 → I n a0 a1 a2 a4 a5 κ →
    ((Int32.ofNat (zN κ (zR κ hoTable a0))) ≤ a5 →
      Q a4 κ) ∧
    (¬ (Int32.ofNat (zN κ (zR κ hoTable a0))) ≤ a5 →
      inb a4 (zN κ (zR κ hoTable a0)) ∧
      ((zA κ (zR κ hoTable a0) (a4).toNatClampNeg) = (0 : Int32) →
        Q a4 κ) ∧
      (¬ (zA κ (zR κ hoTable a0) (a4).toNatClampNeg) = (0 : Int32) →
        inb a4 (zN κ (zR κ hoTable a0)) ∧
        ∀ _ : zT κ a0 = 6,
        ∀ _ : zT κ a1 = 20,
        zRun C 0 mHo_isRow [.ref a0, .int ((zA κ (zR κ hoTable a0) (a4).toNatClampNeg) - (1 : Int32)), .ref a1, .int a2] κ (oI (fun r2 κ1 =>
          ∀ _ : zW C n0 κ1,
          ∀ _ : zM (zn κ) κ κ1,
          (r2 = (0 : Int32) →
            ∀ v4_5 : Int32, v4_5 = ((a4 + (1 : Int32)) &&& ((Int32.ofNat (zN κ1 (zR κ1 hoTable a0))) - (1 : Int32))) →
            ∀ v5_6 : Int32, v5_6 = a5 + (1 : Int32) →
            ∃ k < n, I k a0 a1 a2 v4_5 v5_6 κ1) ∧
          (¬ r2 = (0 : Int32) →
            Q a4 κ1)) noX)))
theorem t_Ho_slotOf_48 {C : zC} {n0 : Nat} {Q : Int32 → zS → Prop}   {a0 : Nat} {a1 : Nat} {a2 : Int32} {a4 : Int32} {a5 : Int32} {κ : zS} (W : zW C n0 κ) (Ta0 : zT κ a0 = 6) (Ta1 : zT κ a1 = 20) (F : w_Ho_slotOf_48 C n0 Q  a0 a1 a2 a4 a5 κ) : zG C n0 1 mHo_slotOf 48 [some (.ref a0), some (.ref a1), some (.int a2), none, some (.int a4), some (.int a5)] [] κ (oI Q noX) := by
  obtain ⟨I, ⟨m0, hI0⟩, F0⟩ := F
  have key : ∀ n a0 a1 a2 a4 a5 κ, zW C n0 κ → zT κ a0 = 6 → zT κ a1 = 20 → I n a0 a1 a2 a4 a5 κ → zG C n0 1 mHo_slotOf 48 [some (.ref a0), some (.ref a1), some (.int a2), none, some (.int a4), some (.int a5)] [] κ (oI Q noX) := by
    intro n
    induction n using Nat.strongRecOn with
    | _ n ih =>
      intro a0 a1 a2 a4 a5 κ W Ta0 Ta1 hI
      have F := F0 n a0 a1 a2 a4 a5 κ W Ta0 Ta1 hI
      clear hI hI0
      refine y_il dX3_slotOf_48 rfl ?_
      refine y_aln dX3_slotOf_50 rfl ?_
      refine gf_X3_25 W dX3_slotOf_51 rfl Ta0 ?_
      refine y_alen (t := 0) dX3_slotOf_54 (ty_hoTable W Ta0) (by decide) ?_
      refine y_ii ((Int32.ofNat (zN κ (zR κ hoTable a0))) ≤ a5) dX3_slotOf_55 (t := 109) rfl rfl (fun c9 => ?_) (fun c9 => ?_)
      · replace F := F.1 c9
        refine y_il dX3_slotOf_109 rfl ?_
        exact y_ri W dX3_slotOf_111 rfl in_nar F
      · replace F := F.2 c9
        refine y_aln dX3_slotOf_58 rfl ?_
        refine gf_X3_25 W dX3_slotOf_59 rfl Ta0 ?_
        refine y_il dX3_slotOf_62 rfl ?_
        refine y_ald dX3_slotOf_64 (ty_hoTable W Ta0) F.1 ?_
        replace F := F.2
        refine y_i ((zA κ (zR κ hoTable a0) (a4).toNatClampNeg) = (0 : Int32)) dX3_slotOf_65 (t := 86) rfl rfl (fun c9 => ?_) (fun c9 => ?_)
        · replace F := F.1 c9
          refine y_il dX3_slotOf_86 rfl ?_
          exact y_ri W dX3_slotOf_88 rfl in_nar F
        · replace F := F.2 c9
          refine y_aln dX3_slotOf_68 rfl ?_
          refine y_aln dX3_slotOf_69 rfl ?_
          refine gf_X3_25 W dX3_slotOf_70 rfl Ta0 ?_
          refine y_il dX3_slotOf_73 rfl ?_
          refine y_ald dX3_slotOf_75 (ty_hoTable W Ta0) F.1 ?_
          replace F := F.2
          refine y_ic dX3_slotOf_76 zi_1 ?_
          refine y_isub dX3_slotOf_77 ?_
          refine y_aln dX3_slotOf_78 rfl ?_
          refine y_iln dX3_slotOf_79 rfl ?_
          replace F := F Ta0
          replace F := F Ta1
          refine k_X3_57 W dX3_slotOf_80 rfl (Nat.le_of_ble_eq_true rfl) (Nat.le_of_ble_eq_true rfl) (Or.inl Ta0) F (fun r2 κ1 Wκ1 Mκ1 F => ?_) (fun _ _ h9 => False.elim h9)
          replace F := F Wκ1 Mκ1
          refine y_i (r2 = (0 : Int32)) dX3_slotOf_83 (t := 89) rfl rfl (fun c9 => ?_) (fun c9 => ?_)
          · replace F := F.1 c9
            refine y_il dX3_slotOf_89 rfl ?_
            refine y_ic dX3_slotOf_91 zi_1 ?_
            refine y_iadd dX3_slotOf_92 ?_
            refine y_aln dX3_slotOf_93 rfl ?_
            have h4 := (ztm W Mκ1 Ta0)
            refine gf_X3_25 Wκ1 dX3_slotOf_94 rfl h4 ?_
            refine y_alen (t := 0) dX3_slotOf_97 (ty_hoTable Wκ1 h4) (by decide) ?_
            refine y_ic dX3_slotOf_98 zi_1 ?_
            refine y_isub dX3_slotOf_99 ?_
            refine y_iand dX3_slotOf_100 ?_
            refine y_isb dX3_slotOf_101 (Nat.le_of_ble_eq_true rfl) (fun v4_5 ev4_5 => ?_)
            replace F := F v4_5 ev4_5
            refine y_incb dX3_slotOf_103 zi_1 rfl (Nat.le_of_ble_eq_true rfl) (fun v5_6 ev5_6 => ?_)
            replace F := F v5_6 ev5_6
            refine y_goto dX3_slotOf_106 (t := 48) rfl ?_
            have h7 := (ztm W Mκ1 Ta1)
            obtain ⟨k, hk, hI⟩ := F
            exact y_k (ih k hk _ _ _ _ _ _ Wκ1 h4 h7 hI) ⟨rfl, rfl, rfl, rfl, rfl, trivial⟩
          · replace F := F.2 c9
            refine y_il dX3_slotOf_86 rfl ?_
            exact y_ri Wκ1 dX3_slotOf_88 rfl in_nar F
  exact key m0 a0 a1 a2 a4 a5 κ W Ta0 Ta1 hI0

def w_Ho_slotOf_5 (C : zC) (n0 : Nat) (Q : Int32 → zS → Prop)  (a0 : Nat) (a1 : Nat) (a2 : Int32) (a3 : Int32) (a4 : Int32) (κ : zS) : Prop :=
  ∃ I : Nat → Nat → Nat → Int32 → Int32 → Int32 → zS → Prop, (∃ n, I n a0 a1 a2 a3 a4 κ) ∧ ∀ n a0 a1 a2 a3 a4 κ, zW C n0 κ → zT κ a0 = 6 → zT κ a1 = 20 → I n a0 a1 a2 a3 a4 κ →
    (a2 ≤ a4 →
      ∀ v4_1 : Int32, v4_1 = (a3 &&& ((Int32.ofNat (zN κ (zR κ hoTable a0))) - (1 : Int32))) →
      w_Ho_slotOf_48 C n0 Q  a0 a1 a2 v4_1 (0 : Int32) κ) ∧
    (¬ a2 ≤ a4 →
      inb a4 (zN κ a1) ∧
      ∀ v3_2 : Int32, v3_2 = ((a3 ^^^ (zA κ a1 (a4).toNatClampNeg)) * (-1640531535 : Int32)) →
      ∀ v3_3 : Int32, v3_3 = (v3_2 ^^^ (Int32.toUInt32 v3_2 >>> (Int32.toUInt32 (15 : Int32) &&& Int32.toUInt32 31)).toInt32) →
      ∀ v4_4 : Int32, v4_4 = a4 + (1 : Int32) →
      ∃ k < n, I k a0 a1 a2 v3_3 v4_4 κ)
theorem t_Ho_slotOf_5 {C : zC} {n0 : Nat} {Q : Int32 → zS → Prop}   {a0 : Nat} {a1 : Nat} {a2 : Int32} {a3 : Int32} {a4 : Int32} {κ : zS} (W : zW C n0 κ) (Ta0 : zT κ a0 = 6) (Ta1 : zT κ a1 = 20) (F : w_Ho_slotOf_5 C n0 Q  a0 a1 a2 a3 a4 κ) : zG C n0 1 mHo_slotOf 5 [some (.ref a0), some (.ref a1), some (.int a2), some (.int a3), some (.int a4), none] [] κ (oI Q noX) := by
  obtain ⟨I, ⟨m0, hI0⟩, F0⟩ := F
  have key : ∀ n a0 a1 a2 a3 a4 κ, zW C n0 κ → zT κ a0 = 6 → zT κ a1 = 20 → I n a0 a1 a2 a3 a4 κ → zG C n0 1 mHo_slotOf 5 [some (.ref a0), some (.ref a1), some (.int a2), some (.int a3), some (.int a4), none] [] κ (oI Q noX) := by
    intro n
    induction n using Nat.strongRecOn with
    | _ n ih =>
      intro a0 a1 a2 a3 a4 κ W Ta0 Ta1 hI
      have F := F0 n a0 a1 a2 a3 a4 κ W Ta0 Ta1 hI
      clear hI hI0
      refine y_il dX3_slotOf_5 rfl ?_
      refine y_iln dX3_slotOf_7 rfl ?_
      refine y_ii (a2 ≤ a4) dX3_slotOf_8 (t := 34) rfl rfl (fun c9 => ?_) (fun c9 => ?_)
      · replace F := F.1 c9
        refine y_iln dX3_slotOf_34 rfl ?_
        refine y_aln dX3_slotOf_35 rfl ?_
        refine gf_X3_25 W dX3_slotOf_36 rfl Ta0 ?_
        refine y_alen (t := 0) dX3_slotOf_39 (ty_hoTable W Ta0) (by decide) ?_
        refine y_ic dX3_slotOf_40 zi_1 ?_
        refine y_isub dX3_slotOf_41 ?_
        refine y_iand dX3_slotOf_42 ?_
        refine y_isb dX3_slotOf_43 (Nat.le_of_ble_eq_true rfl) (fun v4_1 ev4_1 => ?_)
        replace F := F v4_1 ev4_1
        refine y_ic dX3_slotOf_45 zi_0 ?_
        refine y_is dX3_slotOf_46 (Nat.le_of_ble_eq_true rfl) rfl ?_
        exact y_k (t_Ho_slotOf_48  W Ta0 Ta1 F) ⟨rfl, rfl, rfl, rfl, rfl, trivial⟩
      · replace F := F.2 c9
        refine y_iln dX3_slotOf_11 rfl ?_
        refine y_aln dX3_slotOf_12 rfl ?_
        refine y_il dX3_slotOf_13 rfl ?_
        refine y_ald dX3_slotOf_15 Ta1 F.1 ?_
        replace F := F.2
        refine y_ixor dX3_slotOf_16 ?_
        refine y_ldc dX3_slotOf_17 rfl zcn_X3_56 ?_
        refine y_imul dX3_slotOf_19 ?_
        refine y_isnb dX3_slotOf_20 (Nat.le_of_ble_eq_true rfl) (fun v3_2 ev3_2 => ?_)
        replace F := F v3_2 ev3_2
        refine y_iln dX3_slotOf_21 rfl ?_
        refine y_iln dX3_slotOf_22 rfl ?_
        refine y_bi1 dX3_slotOf_23 zb_15 ?_
        refine y_iushr dX3_slotOf_25 ?_
        refine y_ixor dX3_slotOf_26 ?_
        refine y_isnb dX3_slotOf_27 (Nat.le_of_ble_eq_true rfl) (fun v3_3 ev3_3 => ?_)
        replace F := F v3_3 ev3_3
        refine y_incb dX3_slotOf_28 zi_1 rfl (Nat.le_of_ble_eq_true rfl) (fun v4_4 ev4_4 => ?_)
        replace F := F v4_4 ev4_4
        refine y_goto dX3_slotOf_31 (t := 5) rfl ?_
        obtain ⟨k, hk, hI⟩ := F
        exact y_k (ih k hk _ _ _ _ _ _ W Ta0 Ta1 hI) ⟨rfl, rfl, rfl, rfl, rfl, trivial⟩
  exact key m0 a0 a1 a2 a3 a4 κ W Ta0 Ta1 hI0

def w_Ho_slotOf_0 (C : zC) (n0 : Nat) (Q : Int32 → zS → Prop)  (a0 : Nat) (a1 : Nat) (a2 : Int32) (κ : zS) : Prop :=
  w_Ho_slotOf_5 C n0 Q  a0 a1 a2 a2 (0 : Int32) κ
theorem t_Ho_slotOf_0 {C : zC} {n0 : Nat} {Q : Int32 → zS → Prop}   {a0 : Nat} {a1 : Nat} {a2 : Int32} {κ : zS} (W : zW C n0 κ) (Ta0 : zT κ a0 = 6) (Ta1 : zT κ a1 = 20) (F : w_Ho_slotOf_0 C n0 Q  a0 a1 a2 κ) : zG C n0 1 mHo_slotOf 0 [some (.ref a0), some (.ref a1), some (.int a2), none, none, none] [] κ (oI Q noX) := by
  unfold w_Ho_slotOf_0 at F
  refine y_iln dX3_slotOf_0 rfl ?_
  refine y_isn dX3_slotOf_1 (Nat.le_of_ble_eq_true rfl) rfl ?_
  refine y_ic dX3_slotOf_2 zi_0 ?_
  refine y_is dX3_slotOf_3 (Nat.le_of_ble_eq_true rfl) rfl ?_
  exact y_k (t_Ho_slotOf_5  W Ta0 Ta1 F) ⟨rfl, rfl, rfl, rfl, rfl, trivial⟩

theorem Ho_slotOf_run {C : zC} {n0 : Nat} {Q : Int32 → zS → Prop} {a0 : Nat} {a1 : Nat} {a2 : Int32} {κ : zS} (W : zW C n0 κ) (Ta0 : zT κ a0 = 6) (Ta1 : zT κ a1 = 20) (F : w_Ho_slotOf_0 C (zn κ) Q a0 a1 a2 κ) : zRun C 1 mHo_slotOf [.ref a0, .ref a1, .int a2] κ (oI Q noX) := z_run (m_ent _ 3) (t_Ho_slotOf_0 (W.lo (Nat.le_trans W.1.2.1 W.1.2.2) (Nat.le_refl _)) Ta0 Ta1 F)

theorem dX3_find_0 : decode cX3_find 0 = .ok (.aload_n 0, 1) := by decide +kernel
theorem dX3_find_1 : decode cX3_find 1 = .ok (.getfield 25, 3) := by decide +kernel
theorem dX3_find_4 : decode cX3_find 4 = .ok (.arraylength, 1) := by decide +kernel
theorem dX3_find_5 : decode cX3_find 5 = .ok (.ifCond .eq 9, 3) := by decide +kernel
theorem dX3_find_8 : decode cX3_find 8 = .ok (.iload_n 2, 1) := by decide +kernel
theorem dX3_find_9 : decode cX3_find 9 = .ok (.aload_n 1, 1) := by decide +kernel
theorem dX3_find_10 : decode cX3_find 10 = .ok (.arraylength, 1) := by decide +kernel
theorem dX3_find_11 : decode cX3_find 11 = .ok (.if_icmp .le 5, 3) := by decide +kernel
theorem dX3_find_14 : decode cX3_find 14 = .ok (.iconst (-1), 1) := by decide +kernel
theorem dX3_find_15 : decode cX3_find 15 = .ok (.ireturn, 1) := by decide +kernel
theorem dX3_find_16 : decode cX3_find 16 = .ok (.aload_n 0, 1) := by decide +kernel
theorem dX3_find_17 : decode cX3_find 17 = .ok (.getfield 25, 3) := by decide +kernel
theorem dX3_find_20 : decode cX3_find 20 = .ok (.aload_n 0, 1) := by decide +kernel
theorem dX3_find_21 : decode cX3_find 21 = .ok (.aload_n 1, 1) := by decide +kernel
theorem dX3_find_22 : decode cX3_find 22 = .ok (.iload_n 2, 1) := by decide +kernel
theorem dX3_find_23 : decode cX3_find 23 = .ok (.invokevirtual 61, 3) := by decide +kernel
theorem dX3_find_26 : decode cX3_find 26 = .ok (.iaload, 1) := by decide +kernel
theorem dX3_find_27 : decode cX3_find 27 = .ok (.iconst 1, 1) := by decide +kernel
theorem dX3_find_28 : decode cX3_find 28 = .ok (.isub, 1) := by decide +kernel
theorem dX3_find_29 : decode cX3_find 29 = .ok (.ireturn, 1) := by decide +kernel
def w_Ho_find_0 (C : zC) (n0 : Nat) (Q : Int32 → zS → Prop)  (a0 : Nat) (a1 : Nat) (a2 : Int32) (κ : zS) : Prop :=
  ((Int32.ofNat (zN κ (zR κ hoTable a0))) = (0 : Int32) →
    Q (-1 : Int32) κ) ∧
  (¬ (Int32.ofNat (zN κ (zR κ hoTable a0))) = (0 : Int32) →
    (a2 ≤ (Int32.ofNat (zN κ a1)) →
      ∀ _ : zT κ a0 = 6,
      ∀ _ : zT κ a1 = 20,
      zRun C 1 mHo_slotOf [.ref a0, .ref a1, .int a2] κ (oI (fun r2 κ1 =>
        ∀ _ : zW C n0 κ1,
        ∀ _ : zM (zn κ) κ κ1,
        inb r2 (zN κ1 (zR κ hoTable a0)) ∧
        Q ((zA κ1 (zR κ hoTable a0) (r2).toNatClampNeg) - (1 : Int32)) κ1) noX)) ∧
    (¬ a2 ≤ (Int32.ofNat (zN κ a1)) →
      Q (-1 : Int32) κ))
theorem t_Ho_find_0 {C : zC} {n0 : Nat} {Q : Int32 → zS → Prop}   {a0 : Nat} {a1 : Nat} {a2 : Int32} {κ : zS} (W : zW C n0 κ) (Ta0 : zT κ a0 = 6) (Ta1 : zT κ a1 = 20) (F : w_Ho_find_0 C n0 Q  a0 a1 a2 κ) : zG C n0 2 mHo_find 0 [some (.ref a0), some (.ref a1), some (.int a2)] [] κ (oI Q noX) := by
  unfold w_Ho_find_0 at F
  refine y_aln dX3_find_0 rfl ?_
  refine gf_X3_25 W dX3_find_1 rfl Ta0 ?_
  refine y_alen (t := 0) dX3_find_4 (ty_hoTable W Ta0) (by decide) ?_
  refine y_i ((Int32.ofNat (zN κ (zR κ hoTable a0))) = (0 : Int32)) dX3_find_5 (t := 14) rfl rfl (fun c9 => ?_) (fun c9 => ?_)
  · replace F := F.1 c9
    refine y_ic dX3_find_14 zi_m1 ?_
    exact y_ri W dX3_find_15 rfl in_nar F
  · replace F := F.2 c9
    refine y_iln dX3_find_8 rfl ?_
    refine y_aln dX3_find_9 rfl ?_
    refine y_alen (t := 0) dX3_find_10 Ta1 (by decide) ?_
    refine y_ii (a2 ≤ (Int32.ofNat (zN κ a1))) dX3_find_11 (t := 16) rfl rfl (fun c9 => ?_) (fun c9 => ?_)
    · replace F := F.1 c9
      refine y_aln dX3_find_16 rfl ?_
      refine gf_X3_25 W dX3_find_17 rfl Ta0 ?_
      refine y_aln dX3_find_20 rfl ?_
      refine y_aln dX3_find_21 rfl ?_
      refine y_iln dX3_find_22 rfl ?_
      replace F := F Ta0
      replace F := F Ta1
      refine k_X3_61 W dX3_find_23 rfl (Nat.le_of_ble_eq_true rfl) (Nat.le_of_ble_eq_true rfl) (Or.inl Ta0) F (fun r2 κ1 Wκ1 Mκ1 F => ?_) (fun _ _ h9 => False.elim h9)
      replace F := F Wκ1 Mκ1
      have h4 := (ztm W Mκ1 (ty_hoTable W Ta0))
      refine y_ald dX3_find_26 h4 F.1 ?_
      replace F := F.2
      refine y_ic dX3_find_27 zi_1 ?_
      refine y_isub dX3_find_28 ?_
      exact y_ri Wκ1 dX3_find_29 rfl in_nar F
    · replace F := F.2 c9
      refine y_ic dX3_find_14 zi_m1 ?_
      exact y_ri W dX3_find_15 rfl in_nar F

theorem Ho_find_run {C : zC} {n0 : Nat} {Q : Int32 → zS → Prop} {a0 : Nat} {a1 : Nat} {a2 : Int32} {κ : zS} (W : zW C n0 κ) (Ta0 : zT κ a0 = 6) (Ta1 : zT κ a1 = 20) (F : w_Ho_find_0 C (zn κ) Q a0 a1 a2 κ) : zRun C 2 mHo_find [.ref a0, .ref a1, .int a2] κ (oI Q noX) := z_run (m_ent _ 0) (t_Ho_find_0 (W.lo (Nat.le_trans W.1.2.1 W.1.2.2) (Nat.le_refl _)) Ta0 Ta1 F)

theorem dX4_length_0 : decode cX4_length 0 = .ok (.aload_n 0, 1) := by decide +kernel
theorem dX4_length_1 : decode cX4_length 1 = .ok (.getfield 43, 3) := by decide +kernel
theorem dX4_length_4 : decode cX4_length 4 = .ok (.aload_n 0, 1) := by decide +kernel
theorem dX4_length_5 : decode cX4_length 5 = .ok (.getfield 64, 3) := by decide +kernel
theorem dX4_length_8 : decode cX4_length 8 = .ok (.bipush 9, 2) := by decide +kernel
theorem dX4_length_10 : decode cX4_length 10 = .ok (.imul, 1) := by decide +kernel
theorem dX4_length_11 : decode cX4_length 11 = .ok (.iadd, 1) := by decide +kernel
theorem dX4_length_12 : decode cX4_length 12 = .ok (.ireturn, 1) := by decide +kernel
def w_Ma_length_0 (C : zC) (n0 : Nat) (Q : Int32 → zS → Prop)  (a0 : Nat) (κ : zS) : Prop :=
  Q ((zI κ maShared a0) + ((zI κ maOpen a0) * (9 : Int32))) κ
theorem t_Ma_length_0 {C : zC} {n0 : Nat} {Q : Int32 → zS → Prop}   {a0 : Nat} {κ : zS} (W : zW C n0 κ) (Ta0 : zT κ a0 = 7) (F : w_Ma_length_0 C n0 Q  a0 κ) : zG C n0 0 mMa_length 0 [some (.ref a0)] [] κ (oI Q noX) := by
  unfold w_Ma_length_0 at F
  refine y_aln dX4_length_0 rfl ?_
  refine gf_X4_43 dX4_length_1 rfl (Or.inl Ta0) ?_
  refine y_aln dX4_length_4 rfl ?_
  refine gf_X4_64 dX4_length_5 rfl (Or.inl Ta0) ?_
  refine y_bi1 dX4_length_8 zb_9 ?_
  refine y_imul dX4_length_10 ?_
  refine y_iadd dX4_length_11 ?_
  exact y_ri W dX4_length_12 rfl in_nar F

theorem Ma_length_run {C : zC} {n0 : Nat} {Q : Int32 → zS → Prop} {a0 : Nat} {κ : zS} (W : zW C n0 κ) (Ta0 : zT κ a0 = 7) (F : w_Ma_length_0 C (zn κ) Q a0 κ) : zRun C 0 mMa_length [.ref a0] κ (oI Q noX) := z_run (m_ent _ 0) (t_Ma_length_0 (W.lo (Nat.le_trans W.1.2.1 W.1.2.2) (Nat.le_refl _)) Ta0 F)

theorem dX0_chosen_0 : decode cX0_chosen 0 = .ok (.aload_n 0, 1) := by decide +kernel
theorem dX0_chosen_1 : decode cX0_chosen 1 = .ok (.getfield 88, 3) := by decide +kernel
theorem dX0_chosen_4 : decode cX0_chosen 4 = .ok (.ifCond .eq 21, 3) := by decide +kernel
theorem dX0_chosen_7 : decode cX0_chosen 7 = .ok (.aload_n 0, 1) := by decide +kernel
theorem dX0_chosen_8 : decode cX0_chosen 8 = .ok (.getfield 33, 3) := by decide +kernel
theorem dX0_chosen_11 : decode cX0_chosen 11 = .ok (.aload_n 1, 1) := by decide +kernel
theorem dX0_chosen_12 : decode cX0_chosen 12 = .ok (.getfield 125, 3) := by decide +kernel
theorem dX0_chosen_15 : decode cX0_chosen 15 = .ok (.aload_n 1, 1) := by decide +kernel
theorem dX0_chosen_16 : decode cX0_chosen 16 = .ok (.invokevirtual 128, 3) := by decide +kernel
theorem dX0_chosen_19 : decode cX0_chosen 19 = .ok (.invokevirtual 131, 3) := by decide +kernel
theorem dX0_chosen_22 : decode cX0_chosen 22 = .ok (.goto 4, 3) := by decide +kernel
theorem dX0_chosen_25 : decode cX0_chosen 25 = .ok (.iconst (-1), 1) := by decide +kernel
theorem dX0_chosen_26 : decode cX0_chosen 26 = .ok (.istore_n 2, 1) := by decide +kernel
theorem dX0_chosen_27 : decode cX0_chosen 27 = .ok (.iload_n 2, 1) := by decide +kernel
theorem dX0_chosen_28 : decode cX0_chosen 28 = .ok (.iconst (-1), 1) := by decide +kernel
theorem dX0_chosen_29 : decode cX0_chosen 29 = .ok (.if_icmp .eq 25, 3) := by decide +kernel
theorem dX0_chosen_32 : decode cX0_chosen 32 = .ok (.aload_n 0, 1) := by decide +kernel
theorem dX0_chosen_33 : decode cX0_chosen 33 = .ok (.getfield 50, 3) := by decide +kernel
theorem dX0_chosen_36 : decode cX0_chosen 36 = .ok (.iload_n 2, 1) := by decide +kernel
theorem dX0_chosen_37 : decode cX0_chosen 37 = .ok (.iaload, 1) := by decide +kernel
theorem dX0_chosen_38 : decode cX0_chosen 38 = .ok (.aload_n 1, 1) := by decide +kernel
theorem dX0_chosen_39 : decode cX0_chosen 39 = .ok (.getfield 135, 3) := by decide +kernel
theorem dX0_chosen_42 : decode cX0_chosen 42 = .ok (.if_icmp .ge 12, 3) := by decide +kernel
theorem dX0_chosen_45 : decode cX0_chosen 45 = .ok (.aload_n 0, 1) := by decide +kernel
theorem dX0_chosen_46 : decode cX0_chosen 46 = .ok (.getfield 50, 3) := by decide +kernel
theorem dX0_chosen_49 : decode cX0_chosen 49 = .ok (.iload_n 2, 1) := by decide +kernel
theorem dX0_chosen_50 : decode cX0_chosen 50 = .ok (.iaload, 1) := by decide +kernel
theorem dX0_chosen_51 : decode cX0_chosen 51 = .ok (.goto 4, 3) := by decide +kernel
theorem dX0_chosen_54 : decode cX0_chosen 54 = .ok (.iconst 0, 1) := by decide +kernel
theorem dX0_chosen_55 : decode cX0_chosen 55 = .ok (.ireturn, 1) := by decide +kernel
def w_At_chosen_26 (C : zC) (n0 : Nat) (Q : Int32 → zS → Prop)  (a0 : Nat) (a1 : Nat) (s0 : Int32) (κ : zS) : Prop :=
  (s0 = (-1 : Int32) →
    Q (0 : Int32) κ) ∧
  (¬ s0 = (-1 : Int32) →
    inb s0 (zN κ (zR κ atPlan a0)) ∧
    ((zI κ maWays a1) ≤ (zA κ (zR κ atPlan a0) (s0).toNatClampNeg) →
      Q (0 : Int32) κ) ∧
    (¬ (zI κ maWays a1) ≤ (zA κ (zR κ atPlan a0) (s0).toNatClampNeg) →
      inb s0 (zN κ (zR κ atPlan a0)) ∧
      Q (zA κ (zR κ atPlan a0) (s0).toNatClampNeg) κ))
theorem t_At_chosen_26 {C : zC} {n0 : Nat} {Q : Int32 → zS → Prop}   {a0 : Nat} {a1 : Nat} {s0 : Int32} {κ : zS} (W : zW C n0 κ) (Ta0 : zT κ a0 = 3) (Ta1 : zT κ a1 = 7) (F : w_At_chosen_26 C n0 Q  a0 a1 s0 κ) : zG C n0 3 mAt_chosen 26 [some (.ref a0), some (.ref a1), none] [.int s0] κ (oI Q noX) := by
  unfold w_At_chosen_26 at F
  refine y_isn dX0_chosen_26 (Nat.le_of_ble_eq_true rfl) rfl ?_
  refine y_iln dX0_chosen_27 rfl ?_
  refine y_ic dX0_chosen_28 zi_m1 ?_
  refine y_ii (s0 = (-1 : Int32)) dX0_chosen_29 (t := 54) rfl rfl (fun c9 => ?_) (fun c9 => ?_)
  · replace F := F.1 c9
    refine y_ic dX0_chosen_54 zi_0 ?_
    exact y_ri W dX0_chosen_55 rfl in_nar F
  · replace F := F.2 c9
    refine y_aln dX0_chosen_32 rfl ?_
    refine gf_X0_50 W dX0_chosen_33 rfl Ta0 ?_
    refine y_iln dX0_chosen_36 rfl ?_
    refine y_ald dX0_chosen_37 (ty_atPlan W Ta0) F.1 ?_
    replace F := F.2
    refine y_aln dX0_chosen_38 rfl ?_
    refine gf_X0_135 dX0_chosen_39 rfl (Or.inl Ta1) ?_
    refine y_ii ((zI κ maWays a1) ≤ (zA κ (zR κ atPlan a0) (s0).toNatClampNeg)) dX0_chosen_42 (t := 54) rfl rfl (fun c9 => ?_) (fun c9 => ?_)
    · replace F := F.1 c9
      refine y_ic dX0_chosen_54 zi_0 ?_
      exact y_ri W dX0_chosen_55 rfl in_nar F
    · replace F := F.2 c9
      refine y_aln dX0_chosen_45 rfl ?_
      refine gf_X0_50 W dX0_chosen_46 rfl Ta0 ?_
      refine y_iln dX0_chosen_49 rfl ?_
      refine y_ald dX0_chosen_50 (ty_atPlan W Ta0) F.1 ?_
      replace F := F.2
      refine y_goto dX0_chosen_51 (t := 55) rfl ?_
      exact y_ri W dX0_chosen_55 rfl in_nar F

def w_At_chosen_0 (C : zC) (n0 : Nat) (Q : Int32 → zS → Prop)  (a0 : Nat) (a1 : Nat) (κ : zS) : Prop :=
  ((zI κ atExplored a0) = (0 : Int32) →
    w_At_chosen_26 C n0 Q  a0 a1 (-1 : Int32) κ) ∧
  (¬ (zI κ atExplored a0) = (0 : Int32) →
    ∀ _ : zT κ a1 = 7,
    zRun C 0 mMa_length [.ref a1] κ (oI (fun r2 κ1 =>
      ∀ _ : zW C n0 κ1,
      ∀ _ : zM (zn κ) κ κ1,
      ∀ _ : zT κ1 (zR κ atStates a0) = 6,
      ∀ _ : zT κ1 (zR κ maMemory a1) = 20,
      zRun C 2 mHo_find [.ref (zR κ atStates a0), .ref (zR κ maMemory a1), .int r2] κ1 (oI (fun r5 κ4 =>
        ∀ _ : zW C n0 κ4,
        ∀ _ : zM (zn κ1) κ1 κ4,
        w_At_chosen_26 C n0 Q  a0 a1 r5 κ4) noX)) noX))
theorem t_At_chosen_0 {C : zC} {n0 : Nat} {Q : Int32 → zS → Prop}   {a0 : Nat} {a1 : Nat} {κ : zS} (W : zW C n0 κ) (Ta0 : zT κ a0 = 3) (Ta1 : zT κ a1 = 7) (F : w_At_chosen_0 C n0 Q  a0 a1 κ) : zG C n0 3 mAt_chosen 0 [some (.ref a0), some (.ref a1), none] [] κ (oI Q noX) := by
  unfold w_At_chosen_0 at F
  refine y_aln dX0_chosen_0 rfl ?_
  refine gf_X0_88 dX0_chosen_1 rfl (Or.inl Ta0) ?_
  refine y_i ((zI κ atExplored a0) = (0 : Int32)) dX0_chosen_4 (t := 25) rfl rfl (fun c9 => ?_) (fun c9 => ?_)
  · replace F := F.1 c9
    refine y_ic dX0_chosen_25 zi_m1 ?_
    exact y_k (t_At_chosen_26  W Ta0 Ta1 F) ⟨rfl, rfl, trivial⟩
  · replace F := F.2 c9
    refine y_aln dX0_chosen_7 rfl ?_
    refine gf_X0_33 W dX0_chosen_8 rfl Ta0 ?_
    refine y_aln dX0_chosen_11 rfl ?_
    refine gf_X0_125 W dX0_chosen_12 rfl Ta1 ?_
    refine y_aln dX0_chosen_15 rfl ?_
    replace F := F Ta1
    refine k_X0_128 W dX0_chosen_16 rfl (Nat.le_of_ble_eq_true rfl) (Nat.le_of_ble_eq_true rfl) (Or.inl Ta1) F (fun r2 κ1 Wκ1 Mκ1 F => ?_) (fun _ _ h9 => False.elim h9)
    replace F := F Wκ1 Mκ1
    have h6 := (ztm W Mκ1 (ty_atStates W Ta0))
    replace F := F h6
    have h7 := (ztm W Mκ1 (ty_maMemory W Ta1))
    replace F := F h7
    refine k_X0_131 Wκ1 dX0_chosen_19 rfl (Nat.le_of_ble_eq_true rfl) (Nat.le_of_ble_eq_true rfl) (Or.inl h6) F (fun r5 κ4 Wκ4 Mκ4 F => ?_) (fun _ _ h9 => False.elim h9)
    replace F := F Wκ4 Mκ4
    refine y_goto dX0_chosen_22 (t := 26) rfl ?_
    have h9 := (ztm Wκ1 Mκ4 (ztm W Mκ1 Ta0))
    have h10 := (ztm Wκ1 Mκ4 (ztm W Mκ1 Ta1))
    exact y_k (t_At_chosen_26  Wκ4 h9 h10 F) ⟨rfl, rfl, trivial⟩

theorem At_chosen_run {C : zC} {n0 : Nat} {Q : Int32 → zS → Prop} {a0 : Nat} {a1 : Nat} {κ : zS} (W : zW C n0 κ) (Ta0 : zT κ a0 = 3) (Ta1 : zT κ a1 = 7) (F : w_At_chosen_0 C (zn κ) Q a0 a1 κ) : zRun C 3 mAt_chosen [.ref a0, .ref a1] κ (oI Q noX) := z_run (m_ent _ 1) (t_At_chosen_0 (W.lo (Nat.le_trans W.1.2.1 W.1.2.2) (Nat.le_refl _)) Ta0 Ta1 F)

theorem dX0_countTrue_0 : decode cX0_countTrue 0 = .ok (.iconst 0, 1) := by decide +kernel
theorem dX0_countTrue_1 : decode cX0_countTrue 1 = .ok (.istore_n 2, 1) := by decide +kernel
theorem dX0_countTrue_2 : decode cX0_countTrue 2 = .ok (.iconst 0, 1) := by decide +kernel
theorem dX0_countTrue_3 : decode cX0_countTrue 3 = .ok (.istore_n 3, 1) := by decide +kernel
theorem dX0_countTrue_4 : decode cX0_countTrue 4 = .ok (.iload_n 3, 1) := by decide +kernel
theorem dX0_countTrue_5 : decode cX0_countTrue 5 = .ok (.aload_n 0, 1) := by decide +kernel
theorem dX0_countTrue_6 : decode cX0_countTrue 6 = .ok (.getfield 33, 3) := by decide +kernel
theorem dX0_countTrue_9 : decode cX0_countTrue 9 = .ok (.getfield 92, 3) := by decide +kernel
theorem dX0_countTrue_12 : decode cX0_countTrue 12 = .ok (.if_icmp .ge 29, 3) := by decide +kernel
theorem dX0_countTrue_15 : decode cX0_countTrue 15 = .ok (.iload_n 3, 1) := by decide +kernel
theorem dX0_countTrue_16 : decode cX0_countTrue 16 = .ok (.aload_n 1, 1) := by decide +kernel
theorem dX0_countTrue_17 : decode cX0_countTrue 17 = .ok (.arraylength, 1) := by decide +kernel
theorem dX0_countTrue_18 : decode cX0_countTrue 18 = .ok (.if_icmp .ge 23, 3) := by decide +kernel
theorem dX0_countTrue_21 : decode cX0_countTrue 21 = .ok (.iload_n 2, 1) := by decide +kernel
theorem dX0_countTrue_22 : decode cX0_countTrue 22 = .ok (.aload_n 1, 1) := by decide +kernel
theorem dX0_countTrue_23 : decode cX0_countTrue 23 = .ok (.iload_n 3, 1) := by decide +kernel
theorem dX0_countTrue_24 : decode cX0_countTrue 24 = .ok (.baload, 1) := by decide +kernel
theorem dX0_countTrue_25 : decode cX0_countTrue 25 = .ok (.ifCond .eq 7, 3) := by decide +kernel
theorem dX0_countTrue_28 : decode cX0_countTrue 28 = .ok (.iconst 1, 1) := by decide +kernel
theorem dX0_countTrue_29 : decode cX0_countTrue 29 = .ok (.goto 4, 3) := by decide +kernel
theorem dX0_countTrue_32 : decode cX0_countTrue 32 = .ok (.iconst 0, 1) := by decide +kernel
theorem dX0_countTrue_33 : decode cX0_countTrue 33 = .ok (.iadd, 1) := by decide +kernel
theorem dX0_countTrue_34 : decode cX0_countTrue 34 = .ok (.istore_n 2, 1) := by decide +kernel
theorem dX0_countTrue_35 : decode cX0_countTrue 35 = .ok (.iinc 3 1, 3) := by decide +kernel
theorem dX0_countTrue_38 : decode cX0_countTrue 38 = .ok (.goto (-34), 3) := by decide +kernel
theorem dX0_countTrue_41 : decode cX0_countTrue 41 = .ok (.iload_n 2, 1) := by decide +kernel
theorem dX0_countTrue_42 : decode cX0_countTrue 42 = .ok (.ireturn, 1) := by decide +kernel
def w_At_countTrue_33 (C : zC) (n0 : Nat) (Q : Int32 → zS → Prop) (B4 : Nat → Nat → Int32 → Int32 → zS → Prop) (a0 : Nat) (a1 : Nat) (a3 : Int32) (s0 : Int32) (s1 : Int32) (κ : zS) : Prop :=
  ∀ v2_1 : Int32, v2_1 = (s0 + s1) →
  ∀ v3_2 : Int32, v3_2 = a3 + (1 : Int32) →
  B4 a0 a1 v2_1 v3_2 κ
theorem t_At_countTrue_33 {C : zC} {n0 : Nat} {Q : Int32 → zS → Prop} {B4 : Nat → Nat → Int32 → Int32 → zS → Prop} (hB4 : ∀ a0' a1' a2' a3' τ, zW C n0 τ → zT τ a0' = 3 → zT τ a1' = 23 → B4 a0' a1' a2' a3' τ → zG C n0 0 mAt_countTrue 4 [some (.ref a0'), some (.ref a1'), some (.int a2'), some (.int a3')] [] τ (oI Q noX)) {a0 : Nat} {a1 : Nat} {a3 : Int32} {s0 : Int32} {s1 : Int32} {κ : zS} (W : zW C n0 κ) (Ta0 : zT κ a0 = 3) (Ta1 : zT κ a1 = 23) (F : w_At_countTrue_33 C n0 Q B4 a0 a1 a3 s0 s1 κ) : zG C n0 0 mAt_countTrue 33 [some (.ref a0), some (.ref a1), none, some (.int a3)] [.int s1, .int s0] κ (oI Q noX) := by
  unfold w_At_countTrue_33 at F
  refine y_iadd dX0_countTrue_33 ?_
  refine y_isnb dX0_countTrue_34 (Nat.le_of_ble_eq_true rfl) (fun v2_1 ev2_1 => ?_)
  replace F := F v2_1 ev2_1
  refine y_incb dX0_countTrue_35 zi_1 rfl (Nat.le_of_ble_eq_true rfl) (fun v3_2 ev3_2 => ?_)
  replace F := F v3_2 ev3_2
  refine y_goto dX0_countTrue_38 (t := 4) rfl ?_
  exact y_k (hB4 _ _ _ _ _ W Ta0 Ta1 F) ⟨rfl, rfl, rfl, rfl, trivial⟩

def w_At_countTrue_4 (C : zC) (n0 : Nat) (Q : Int32 → zS → Prop)  (a0 : Nat) (a1 : Nat) (a2 : Int32) (a3 : Int32) (κ : zS) : Prop :=
  ∃ I : Nat → Nat → Nat → Int32 → Int32 → zS → Prop, (∃ n, I n a0 a1 a2 a3 κ) ∧ ∀ n a0 a1 a2 a3 κ, zW C n0 κ → zT κ a0 = 3 → zT κ a1 = 23 → I n a0 a1 a2 a3 κ →
    ((zI κ hoTotal (zR κ atStates a0)) ≤ a3 →
      Q a2 κ) ∧
    (¬ (zI κ hoTotal (zR κ atStates a0)) ≤ a3 →
      ((Int32.ofNat (zN κ a1)) ≤ a3 →
        Q a2 κ) ∧
      (¬ (Int32.ofNat (zN κ a1)) ≤ a3 →
        inb a3 (zN κ a1) ∧
        ((zA κ a1 (a3).toNatClampNeg) = (0 : Int32) →
          w_At_countTrue_33 C n0 Q (fun a0' a1' a2' a3' τ => ∃ k < n, I k a0' a1' a2' a3' τ) a0 a1 a3 a2 (0 : Int32) κ) ∧
        (¬ (zA κ a1 (a3).toNatClampNeg) = (0 : Int32) →
          w_At_countTrue_33 C n0 Q (fun a0' a1' a2' a3' τ => ∃ k < n, I k a0' a1' a2' a3' τ) a0 a1 a3 a2 (1 : Int32) κ)))
theorem t_At_countTrue_4 {C : zC} {n0 : Nat} {Q : Int32 → zS → Prop}   {a0 : Nat} {a1 : Nat} {a2 : Int32} {a3 : Int32} {κ : zS} (W : zW C n0 κ) (Ta0 : zT κ a0 = 3) (Ta1 : zT κ a1 = 23) (F : w_At_countTrue_4 C n0 Q  a0 a1 a2 a3 κ) : zG C n0 0 mAt_countTrue 4 [some (.ref a0), some (.ref a1), some (.int a2), some (.int a3)] [] κ (oI Q noX) := by
  obtain ⟨I, ⟨m0, hI0⟩, F0⟩ := F
  have key : ∀ n a0 a1 a2 a3 κ, zW C n0 κ → zT κ a0 = 3 → zT κ a1 = 23 → I n a0 a1 a2 a3 κ → zG C n0 0 mAt_countTrue 4 [some (.ref a0), some (.ref a1), some (.int a2), some (.int a3)] [] κ (oI Q noX) := by
    intro n
    induction n using Nat.strongRecOn with
    | _ n ih =>
      intro a0 a1 a2 a3 κ W Ta0 Ta1 hI
      have F := F0 n a0 a1 a2 a3 κ W Ta0 Ta1 hI
      clear hI hI0
      refine y_iln dX0_countTrue_4 rfl ?_
      refine y_aln dX0_countTrue_5 rfl ?_
      refine gf_X0_33 W dX0_countTrue_6 rfl Ta0 ?_
      refine gf_X0_92 dX0_countTrue_9 rfl (Or.inl (ty_atStates W Ta0)) ?_
      refine y_ii ((zI κ hoTotal (zR κ atStates a0)) ≤ a3) dX0_countTrue_12 (t := 41) rfl rfl (fun c9 => ?_) (fun c9 => ?_)
      · replace F := F.1 c9
        refine y_iln dX0_countTrue_41 rfl ?_
        exact y_ri W dX0_countTrue_42 rfl in_nar F
      · replace F := F.2 c9
        refine y_iln dX0_countTrue_15 rfl ?_
        refine y_aln dX0_countTrue_16 rfl ?_
        refine y_alen (t := 3) dX0_countTrue_17 Ta1 (by decide) ?_
        refine y_ii ((Int32.ofNat (zN κ a1)) ≤ a3) dX0_countTrue_18 (t := 41) rfl rfl (fun c9 => ?_) (fun c9 => ?_)
        · replace F := F.1 c9
          refine y_iln dX0_countTrue_41 rfl ?_
          exact y_ri W dX0_countTrue_42 rfl in_nar F
        · replace F := F.2 c9
          refine y_iln dX0_countTrue_21 rfl ?_
          refine y_aln dX0_countTrue_22 rfl ?_
          refine y_iln dX0_countTrue_23 rfl ?_
          refine y_zld dX0_countTrue_24 Ta1 F.1 ?_
          replace F := F.2
          refine y_i ((zA κ a1 (a3).toNatClampNeg) = (0 : Int32)) dX0_countTrue_25 (t := 32) rfl rfl (fun c9 => ?_) (fun c9 => ?_)
          · replace F := F.1 c9
            refine y_ic dX0_countTrue_32 zi_0 ?_
            exact y_k (t_At_countTrue_33 (fun a0' a1' a2' a3' τ w9 f09 f19 hb => by obtain ⟨k, hk, hI⟩ := hb; exact ih k hk a0' a1' a2' a3' τ w9 f09 f19 hI) W Ta0 Ta1 F) ⟨rfl, rfl, rfl, trivial⟩
          · replace F := F.2 c9
            refine y_ic dX0_countTrue_28 zi_1 ?_
            refine y_goto dX0_countTrue_29 (t := 33) rfl ?_
            exact y_k (t_At_countTrue_33 (fun a0' a1' a2' a3' τ w9 f09 f19 hb => by obtain ⟨k, hk, hI⟩ := hb; exact ih k hk a0' a1' a2' a3' τ w9 f09 f19 hI) W Ta0 Ta1 F) ⟨rfl, rfl, rfl, trivial⟩
  exact key m0 a0 a1 a2 a3 κ W Ta0 Ta1 hI0

def w_At_countTrue_0 (C : zC) (n0 : Nat) (Q : Int32 → zS → Prop)  (a0 : Nat) (a1 : Nat) (κ : zS) : Prop :=
  w_At_countTrue_4 C n0 Q  a0 a1 (0 : Int32) (0 : Int32) κ
theorem t_At_countTrue_0 {C : zC} {n0 : Nat} {Q : Int32 → zS → Prop}   {a0 : Nat} {a1 : Nat} {κ : zS} (W : zW C n0 κ) (Ta0 : zT κ a0 = 3) (Ta1 : zT κ a1 = 23) (F : w_At_countTrue_0 C n0 Q  a0 a1 κ) : zG C n0 0 mAt_countTrue 0 [some (.ref a0), some (.ref a1), none, none] [] κ (oI Q noX) := by
  unfold w_At_countTrue_0 at F
  refine y_ic dX0_countTrue_0 zi_0 ?_
  refine y_isn dX0_countTrue_1 (Nat.le_of_ble_eq_true rfl) rfl ?_
  refine y_ic dX0_countTrue_2 zi_0 ?_
  refine y_isn dX0_countTrue_3 (Nat.le_of_ble_eq_true rfl) rfl ?_
  exact y_k (t_At_countTrue_4  W Ta0 Ta1 F) ⟨rfl, rfl, rfl, rfl, trivial⟩

theorem At_countTrue_run {C : zC} {n0 : Nat} {Q : Int32 → zS → Prop} {a0 : Nat} {a1 : Nat} {κ : zS} (W : zW C n0 κ) (Ta0 : zT κ a0 = 3) (Ta1 : zT κ a1 = 23) (F : w_At_countTrue_0 C (zn κ) Q a0 a1 κ) : zRun C 0 mAt_countTrue [.ref a0, .ref a1] κ (oI Q noX) := z_run (m_ent _ 2) (t_At_countTrue_0 (W.lo (Nat.le_trans W.1.2.1 W.1.2.2) (Nat.le_refl _)) Ta0 Ta1 F)

theorem dX0_howMany_0 : decode cX0_howMany 0 = .ok (.iload_n 1, 1) := by decide +kernel
theorem dX0_howMany_1 : decode cX0_howMany 1 = .ok (.tableswitch 66 4 8 #[35, 43, 51, 56, 61], 35) := by decide +kernel
theorem dX0_howMany_36 : decode cX0_howMany 36 = .ok (.aload_n 0, 1) := by decide +kernel
theorem dX0_howMany_37 : decode cX0_howMany 37 = .ok (.getfield 33, 3) := by decide +kernel
theorem dX0_howMany_40 : decode cX0_howMany 40 = .ok (.getfield 92, 3) := by decide +kernel
theorem dX0_howMany_43 : decode cX0_howMany 43 = .ok (.ireturn, 1) := by decide +kernel
theorem dX0_howMany_44 : decode cX0_howMany 44 = .ok (.aload_n 0, 1) := by decide +kernel
theorem dX0_howMany_45 : decode cX0_howMany 45 = .ok (.getfield 37, 3) := by decide +kernel
theorem dX0_howMany_48 : decode cX0_howMany 48 = .ok (.getfield 92, 3) := by decide +kernel
theorem dX0_howMany_51 : decode cX0_howMany 51 = .ok (.ireturn, 1) := by decide +kernel
theorem dX0_howMany_52 : decode cX0_howMany 52 = .ok (.aload_n 0, 1) := by decide +kernel
theorem dX0_howMany_53 : decode cX0_howMany 53 = .ok (.getfield 78, 3) := by decide +kernel
theorem dX0_howMany_56 : decode cX0_howMany 56 = .ok (.ireturn, 1) := by decide +kernel
theorem dX0_howMany_57 : decode cX0_howMany 57 = .ok (.aload_n 0, 1) := by decide +kernel
theorem dX0_howMany_58 : decode cX0_howMany 58 = .ok (.getfield 82, 3) := by decide +kernel
theorem dX0_howMany_61 : decode cX0_howMany 61 = .ok (.ireturn, 1) := by decide +kernel
theorem dX0_howMany_62 : decode cX0_howMany 62 = .ok (.aload_n 0, 1) := by decide +kernel
theorem dX0_howMany_63 : decode cX0_howMany 63 = .ok (.getfield 85, 3) := by decide +kernel
theorem dX0_howMany_66 : decode cX0_howMany 66 = .ok (.ireturn, 1) := by decide +kernel
theorem dX0_howMany_67 : decode cX0_howMany 67 = .ok (.aload_n 0, 1) := by decide +kernel
theorem dX0_howMany_68 : decode cX0_howMany 68 = .ok (.iload_n 1, 1) := by decide +kernel
theorem dX0_howMany_69 : decode cX0_howMany 69 = .ok (.bipush 9, 2) := by decide +kernel
theorem dX0_howMany_71 : decode cX0_howMany 71 = .ok (.if_icmp .ne 10, 3) := by decide +kernel
theorem dX0_howMany_74 : decode cX0_howMany 74 = .ok (.aload_n 0, 1) := by decide +kernel
theorem dX0_howMany_75 : decode cX0_howMany 75 = .ok (.getfield 53, 3) := by decide +kernel
theorem dX0_howMany_78 : decode cX0_howMany 78 = .ok (.goto 7, 3) := by decide +kernel
theorem dX0_howMany_81 : decode cX0_howMany 81 = .ok (.aload_n 0, 1) := by decide +kernel
theorem dX0_howMany_82 : decode cX0_howMany 82 = .ok (.getfield 57, 3) := by decide +kernel
theorem dX0_howMany_85 : decode cX0_howMany 85 = .ok (.invokevirtual 138, 3) := by decide +kernel
theorem dX0_howMany_88 : decode cX0_howMany 88 = .ok (.ireturn, 1) := by decide +kernel
def w_At_howMany_0 (C : zC) (n0 : Nat) (Q : Int32 → zS → Prop)  (a0 : Nat) (a1 : Int32) (κ : zS) : Prop :=
  ((a1).toInt < 4 ∨ 8 < (a1).toInt →
    (¬ a1 = (9 : Int32) →
      ∀ _ : zT κ a0 = 3,
      ∀ _ : zT κ (zR κ atHopeless a0) = 23,
      zRun C 0 mAt_countTrue [.ref a0, .ref (zR κ atHopeless a0)] κ (oI (fun r2 κ1 =>
        ∀ _ : zW C n0 κ1,
        ∀ _ : zM (zn κ) κ κ1,
        Q r2 κ1) noX)) ∧
    (a1 = (9 : Int32) →
      ∀ _ : zT κ a0 = 3,
      ∀ _ : zT κ (zR κ atChooses a0) = 23,
      zRun C 0 mAt_countTrue [.ref a0, .ref (zR κ atChooses a0)] κ (oI (fun r5 κ4 =>
        ∀ _ : zW C n0 κ4,
        ∀ _ : zM (zn κ) κ κ4,
        Q r5 κ4) noX))) ∧
  ((a1).toInt = 4 →
    Q (zI κ hoTotal (zR κ atStates a0)) κ) ∧
  ((a1).toInt = 5 →
    Q (zI κ hoTotal (zR κ atEndings a0)) κ) ∧
  ((a1).toInt = 6 →
    Q (zI κ atNexts a0) κ) ∧
  ((a1).toInt = 7 →
    Q (zI κ atRings a0) κ) ∧
  ((a1).toInt = 8 →
    Q (zI κ atGreatest a0) κ)
theorem t_At_howMany_0 {C : zC} {n0 : Nat} {Q : Int32 → zS → Prop}   {a0 : Nat} {a1 : Int32} {κ : zS} (W : zW C n0 κ) (Ta0 : zT κ a0 = 3) (F : w_At_howMany_0 C n0 Q  a0 a1 κ) : zG C n0 1 mAt_howMany 0 [some (.ref a0), some (.int a1)] [] κ (oI Q noX) := by
  unfold w_At_howMany_0 at F
  refine y_iln dX0_howMany_0 rfl ?_
  by_cases hsw : (a1).toInt < 4 ∨ 8 < (a1).toInt
  · refine y_swd (t := 67) dX0_howMany_1 hsw rfl ?_
    replace F := F.1 hsw
    refine y_aln dX0_howMany_67 rfl ?_
    refine y_iln dX0_howMany_68 rfl ?_
    refine y_bi1 dX0_howMany_69 zb_9 ?_
    refine y_iin (a1 = (9 : Int32)) dX0_howMany_71 (t := 81) rfl rfl (fun c9 => ?_) (fun c9 => ?_)
    · replace F := F.1 c9
      refine y_aln dX0_howMany_81 rfl ?_
      refine gf_X0_57 W dX0_howMany_82 rfl Ta0 ?_
      replace F := F Ta0
      replace F := F (ty_atHopeless W Ta0)
      refine k_X0_138 W dX0_howMany_85 rfl (Nat.le_of_ble_eq_true rfl) (Nat.le_of_ble_eq_true rfl) (Or.inl Ta0) F (fun r2 κ1 Wκ1 Mκ1 F => ?_) (fun _ _ h9 => False.elim h9)
      replace F := F Wκ1 Mκ1
      exact y_ri Wκ1 dX0_howMany_88 rfl in_nar F
    · replace F := F.2 c9
      refine y_aln dX0_howMany_74 rfl ?_
      refine gf_X0_53 W dX0_howMany_75 rfl Ta0 ?_
      refine y_goto dX0_howMany_78 (t := 85) rfl ?_
      replace F := F Ta0
      replace F := F (ty_atChooses W Ta0)
      refine k_X0_138 W dX0_howMany_85 rfl (Nat.le_of_ble_eq_true rfl) (Nat.le_of_ble_eq_true rfl) (Or.inl Ta0) F (fun r5 κ4 Wκ4 Mκ4 F => ?_) (fun _ _ h9 => False.elim h9)
      replace F := F Wκ4 Mκ4
      exact y_ri Wκ4 dX0_howMany_88 rfl in_nar F
  replace F := F.2
  by_cases hs0 : (a1).toInt = 4
  · refine y_p (pc' := 36) dX0_howMany_1 rfl (fun lo => sw_at (k := 0) hs0 (eq_true (by decide)) rfl rfl) ?_
    replace F := F.1 hs0
    refine y_aln dX0_howMany_36 rfl ?_
    refine gf_X0_33 W dX0_howMany_37 rfl Ta0 ?_
    refine gf_X0_92 dX0_howMany_40 rfl (Or.inl (ty_atStates W Ta0)) ?_
    exact y_ri W dX0_howMany_43 rfl in_nar F
  replace F := F.2
  by_cases hs1 : (a1).toInt = 5
  · refine y_p (pc' := 44) dX0_howMany_1 rfl (fun lo => sw_at (k := 0) hs1 (eq_true (by decide)) rfl rfl) ?_
    replace F := F.1 hs1
    refine y_aln dX0_howMany_44 rfl ?_
    refine gf_X0_37 W dX0_howMany_45 rfl Ta0 ?_
    refine gf_X0_92 dX0_howMany_48 rfl (Or.inl (ty_atEndings W Ta0)) ?_
    exact y_ri W dX0_howMany_51 rfl in_nar F
  replace F := F.2
  by_cases hs2 : (a1).toInt = 6
  · refine y_p (pc' := 52) dX0_howMany_1 rfl (fun lo => sw_at (k := 0) hs2 (eq_true (by decide)) rfl rfl) ?_
    replace F := F.1 hs2
    refine y_aln dX0_howMany_52 rfl ?_
    refine gf_X0_78 dX0_howMany_53 rfl (Or.inl Ta0) ?_
    exact y_ri W dX0_howMany_56 rfl in_nar F
  replace F := F.2
  by_cases hs3 : (a1).toInt = 7
  · refine y_p (pc' := 57) dX0_howMany_1 rfl (fun lo => sw_at (k := 0) hs3 (eq_true (by decide)) rfl rfl) ?_
    replace F := F.1 hs3
    refine y_aln dX0_howMany_57 rfl ?_
    refine gf_X0_82 dX0_howMany_58 rfl (Or.inl Ta0) ?_
    exact y_ri W dX0_howMany_61 rfl in_nar F
  replace F := F.2
  have hs4 : (a1).toInt = 8 := by omega
  refine y_p (pc' := 62) dX0_howMany_1 rfl (fun lo => sw_at (k := 0) hs4 (eq_true (by decide)) rfl rfl) ?_
  replace F := F hs4
  refine y_aln dX0_howMany_62 rfl ?_
  refine gf_X0_85 dX0_howMany_63 rfl (Or.inl Ta0) ?_
  exact y_ri W dX0_howMany_66 rfl in_nar F

theorem At_howMany_run {C : zC} {n0 : Nat} {Q : Int32 → zS → Prop} {a0 : Nat} {a1 : Int32} {κ : zS} (W : zW C n0 κ) (Ta0 : zT κ a0 = 3) (F : w_At_howMany_0 C (zn κ) Q a0 a1 κ) : zRun C 1 mAt_howMany [.ref a0, .int a1] κ (oI Q noX) := z_run (m_ent _ 0) (t_At_howMany_0 (W.lo (Nat.le_trans W.1.2.1 W.1.2.2) (Nat.le_refl _)) Ta0 F)

theorem dJ7_copyOf_59c91_0 : decode cJ7_copyOf_59c91 0 = .ok (.iload_n 1, 1) := by decide +kernel
theorem dJ7_copyOf_59c91_1 : decode cJ7_copyOf_59c91 1 = .ok (.aload_n 0, 1) := by decide +kernel
theorem dJ7_copyOf_59c91_2 : decode cJ7_copyOf_59c91 2 = .ok (.arraylength, 1) := by decide +kernel
theorem dJ7_copyOf_59c91_3 : decode cJ7_copyOf_59c91 3 = .ok (.if_icmp .ne 11, 3) := by decide +kernel
theorem dJ7_copyOf_59c91_6 : decode cJ7_copyOf_59c91 6 = .ok (.aload_n 0, 1) := by decide +kernel
theorem dJ7_copyOf_59c91_7 : decode cJ7_copyOf_59c91 7 = .ok (.invokevirtual 316, 3) := by decide +kernel
theorem dJ7_copyOf_59c91_14 : decode cJ7_copyOf_59c91 14 = .ok (.iload_n 1, 1) := by decide +kernel
theorem dJ7_copyOf_59c91_15 : decode cJ7_copyOf_59c91 15 = .ok (.newarray .int, 2) := by decide +kernel
theorem dJ7_copyOf_59c91_17 : decode cJ7_copyOf_59c91 17 = .ok (.astore_n 2, 1) := by decide +kernel
theorem dJ7_copyOf_59c91_18 : decode cJ7_copyOf_59c91 18 = .ok (.aload_n 0, 1) := by decide +kernel
theorem dJ7_copyOf_59c91_19 : decode cJ7_copyOf_59c91 19 = .ok (.iconst 0, 1) := by decide +kernel
theorem dJ7_copyOf_59c91_20 : decode cJ7_copyOf_59c91 20 = .ok (.aload_n 2, 1) := by decide +kernel
theorem dJ7_copyOf_59c91_21 : decode cJ7_copyOf_59c91 21 = .ok (.iconst 0, 1) := by decide +kernel
theorem dJ7_copyOf_59c91_22 : decode cJ7_copyOf_59c91 22 = .ok (.aload_n 0, 1) := by decide +kernel
theorem dJ7_copyOf_59c91_23 : decode cJ7_copyOf_59c91 23 = .ok (.arraylength, 1) := by decide +kernel
theorem dJ7_copyOf_59c91_24 : decode cJ7_copyOf_59c91 24 = .ok (.iload_n 1, 1) := by decide +kernel
theorem dJ7_copyOf_59c91_25 : decode cJ7_copyOf_59c91 25 = .ok (.invokestatic 304, 3) := by decide +kernel
theorem dJ7_copyOf_59c91_28 : decode cJ7_copyOf_59c91 28 = .ok (.invokestatic 150, 3) := by decide +kernel
theorem dJ7_copyOf_59c91_31 : decode cJ7_copyOf_59c91 31 = .ok (.aload_n 2, 1) := by decide +kernel
theorem dJ7_copyOf_59c91_32 : decode cJ7_copyOf_59c91 32 = .ok (.areturn, 1) := by decide +kernel
def w_Ar_copyOf_0 (C : zC) (n0 : Nat) (Q : Nat → zS → Prop)  (a0 : Nat) (a1 : Int32) (κ : zS) : Prop :=
  (¬ a1 = (Int32.ofNat (zN κ a0)) →
    nsz a1 ∧
    ∀ κ1, κ1 = na κ 20 (a1).toNatClampNeg →
    ∀ _ : zW C n0 κ1,
    ∀ v2_4 : Nat, v2_4 = (zn κ) →
    cpo κ1 a0 v2_4 (0 : Int32) (0 : Int32) (if a1 < (Int32.ofNat (zN κ1 a0)) then a1 else (Int32.ofNat (zN κ1 a0))) ∧
    ∀ κ6, κ6 = uc κ1 a0 v2_4 ((0 : Int32)).toNatClampNeg ((0 : Int32)).toNatClampNeg ((if a1 < (Int32.ofNat (zN κ1 a0)) then a1 else (Int32.ofNat (zN κ1 a0)))).toNatClampNeg →
    ∀ _ : zW C n0 κ6,
    Q v2_4 κ6) ∧
  (a1 = (Int32.ofNat (zN κ a0)) →
    False)
theorem t_Ar_copyOf_0 {C : zC} {n0 : Nat} {Q : Nat → zS → Prop}   {a0 : Nat} {a1 : Int32} {κ : zS} (W : zW C n0 κ) (Ta0 : zT κ a0 = 20) (F : w_Ar_copyOf_0 C n0 Q  a0 a1 κ) : zG C n0 1 mAr_copyOf 0 [some (.ref a0), some (.int a1), none] [] κ (oR 20 Q noX) := by
  unfold w_Ar_copyOf_0 at F
  refine y_iln dJ7_copyOf_59c91_0 rfl ?_
  refine y_aln dJ7_copyOf_59c91_1 rfl ?_
  refine y_alen (t := 0) dJ7_copyOf_59c91_2 Ta0 (by decide) ?_
  refine y_iin (a1 = (Int32.ofNat (zN κ a0))) dJ7_copyOf_59c91_3 (t := 14) rfl rfl (fun c9 => ?_) (fun c9 => ?_)
  · replace F := F.1 c9
    refine y_iln dJ7_copyOf_59c91_14 rfl ?_
    have b2 := F.1
    refine y_newa (t := 0) W dJ7_copyOf_59c91_15 (by decide) b2 (fun κ1 eκ1 => ?_)
    replace F := F.2 κ1 eκ1
    have Wκ1 : zW C n0 κ1 := zW_na W eκ1 (by decide) (by decide) b2.2
    have Mκ1 : zM (zn κ) κ κ1 := zM_na (W.lo (Nat.le_trans W.1.2.1 W.1.2.2) (Nat.le_refl _)) eκ1
    replace F := F Wκ1
    have g3 : zT κ1 (zn κ) = 20 := by rw [eκ1]; exact if_pos rfl
    refine y_asnb dJ7_copyOf_59c91_17 (Nat.le_of_ble_eq_true rfl) (fun v2_4 ev2_4 => ?_)
    replace F := F v2_4 ev2_4
    have Tv2_4 : zT κ1 v2_4 = 20 := by rw [ev2_4]; exact g3
    refine y_aln dJ7_copyOf_59c91_18 rfl ?_
    refine y_ic dJ7_copyOf_59c91_19 zi_0 ?_
    refine y_aln dJ7_copyOf_59c91_20 rfl ?_
    refine y_ic dJ7_copyOf_59c91_21 zi_0 ?_
    refine y_aln dJ7_copyOf_59c91_22 rfl ?_
    have h5 := (ztm W Mκ1 Ta0)
    refine y_alen (t := 0) dJ7_copyOf_59c91_23 h5 (by decide) ?_
    refine y_iln dJ7_copyOf_59c91_24 rfl ?_
    refine y_min dJ7_copyOf_59c91_25 rfl zbi_J7_304 (Nat.le_of_ble_eq_true rfl) (Nat.le_of_ble_eq_true rfl) ?_
    refine y_cpy (t := 0) Wκ1 dJ7_copyOf_59c91_28 rfl zbi_J7_150 h5 Tv2_4 (by decide) (Nat.le_of_ble_eq_true rfl) (Nat.le_of_ble_eq_true rfl) F.1 (fun κ6 eκ6 => ?_)
    replace F := F.2 κ6 eκ6
    have Wκ6 : zW C n0 κ6 := zW_uc Wκ1 eκ6 (h5.trans Tv2_4.symm)
    have Mκ6 : zM (zn κ1) κ1 κ6 := by rw [eκ6]; exact zM.of rfl rfl rfl
    replace F := F Wκ6
    refine y_aln dJ7_copyOf_59c91_31 rfl ?_
    have h7 := (ztm Wκ1 Mκ6 Tv2_4)
    exact y_ra Wκ6 dJ7_copyOf_59c91_32 rfl h7 F
  · replace F := F.2 c9
    refine y_aln dJ7_copyOf_59c91_6 rfl ?_
    exact F.elim

theorem Ar_copyOf_run {C : zC} {n0 : Nat} {Q : Nat → zS → Prop} {a0 : Nat} {a1 : Int32} {κ : zS} (W : zW C n0 κ) (Ta0 : zT κ a0 = 20) (F : w_Ar_copyOf_0 C (zn κ) Q a0 a1 κ) : zRun C 1 mAr_copyOf [.ref a0, .int a1] κ (oR 20 Q noX) := z_run (m_ent _ 1) (t_Ar_copyOf_0 (W.lo (Nat.le_trans W.1.2.1 W.1.2.2) (Nat.le_refl _)) Ta0 F)

theorem dX0_addNext_0 : decode cX0_addNext 0 = .ok (.aload_n 0, 1) := by decide +kernel
theorem dX0_addNext_1 : decode cX0_addNext 1 = .ok (.getfield 78, 3) := by decide +kernel
theorem dX0_addNext_4 : decode cX0_addNext 4 = .ok (.sipush 20000, 3) := by decide +kernel
theorem dX0_addNext_7 : decode cX0_addNext 7 = .ok (.if_icmp .lt 5, 3) := by decide +kernel
theorem dX0_addNext_10 : decode cX0_addNext 10 = .ok (.iconst 0, 1) := by decide +kernel
theorem dX0_addNext_11 : decode cX0_addNext 11 = .ok (.ireturn, 1) := by decide +kernel
theorem dX0_addNext_12 : decode cX0_addNext 12 = .ok (.aload_n 0, 1) := by decide +kernel
theorem dX0_addNext_13 : decode cX0_addNext 13 = .ok (.getfield 78, 3) := by decide +kernel
theorem dX0_addNext_16 : decode cX0_addNext 16 = .ok (.aload_n 0, 1) := by decide +kernel
theorem dX0_addNext_17 : decode cX0_addNext 17 = .ok (.getfield 60, 3) := by decide +kernel
theorem dX0_addNext_20 : decode cX0_addNext 20 = .ok (.arraylength, 1) := by decide +kernel
theorem dX0_addNext_21 : decode cX0_addNext 21 = .ok (.if_icmp .lt 56, 3) := by decide +kernel
theorem dX0_addNext_24 : decode cX0_addNext 24 = .ok (.aload_n 0, 1) := by decide +kernel
theorem dX0_addNext_25 : decode cX0_addNext 25 = .ok (.getfield 78, 3) := by decide +kernel
theorem dX0_addNext_28 : decode cX0_addNext 28 = .ok (.iconst 2, 1) := by decide +kernel
theorem dX0_addNext_29 : decode cX0_addNext 29 = .ok (.imul, 1) := by decide +kernel
theorem dX0_addNext_30 : decode cX0_addNext 30 = .ok (.sipush 20000, 3) := by decide +kernel
theorem dX0_addNext_33 : decode cX0_addNext 33 = .ok (.invokestatic 195, 3) := by decide +kernel
theorem dX0_addNext_36 : decode cX0_addNext 36 = .ok (.istore 4, 2) := by decide +kernel
theorem dX0_addNext_38 : decode cX0_addNext 38 = .ok (.aload_n 0, 1) := by decide +kernel
theorem dX0_addNext_39 : decode cX0_addNext 39 = .ok (.aload_n 0, 1) := by decide +kernel
theorem dX0_addNext_40 : decode cX0_addNext 40 = .ok (.getfield 60, 3) := by decide +kernel
theorem dX0_addNext_43 : decode cX0_addNext 43 = .ok (.iload 4, 2) := by decide +kernel
theorem dX0_addNext_45 : decode cX0_addNext 45 = .ok (.invokestatic 200, 3) := by decide +kernel
theorem dX0_addNext_48 : decode cX0_addNext 48 = .ok (.putfield 60, 3) := by decide +kernel
theorem dX0_addNext_51 : decode cX0_addNext 51 = .ok (.aload_n 0, 1) := by decide +kernel
theorem dX0_addNext_52 : decode cX0_addNext 52 = .ok (.aload_n 0, 1) := by decide +kernel
theorem dX0_addNext_53 : decode cX0_addNext 53 = .ok (.getfield 63, 3) := by decide +kernel
theorem dX0_addNext_56 : decode cX0_addNext 56 = .ok (.iload 4, 2) := by decide +kernel
theorem dX0_addNext_58 : decode cX0_addNext 58 = .ok (.invokestatic 200, 3) := by decide +kernel
theorem dX0_addNext_61 : decode cX0_addNext 61 = .ok (.putfield 63, 3) := by decide +kernel
theorem dX0_addNext_64 : decode cX0_addNext 64 = .ok (.aload_n 0, 1) := by decide +kernel
theorem dX0_addNext_65 : decode cX0_addNext 65 = .ok (.aload_n 0, 1) := by decide +kernel
theorem dX0_addNext_66 : decode cX0_addNext 66 = .ok (.getfield 66, 3) := by decide +kernel
theorem dX0_addNext_69 : decode cX0_addNext 69 = .ok (.iload 4, 2) := by decide +kernel
theorem dX0_addNext_71 : decode cX0_addNext 71 = .ok (.invokestatic 200, 3) := by decide +kernel
theorem dX0_addNext_74 : decode cX0_addNext 74 = .ok (.putfield 66, 3) := by decide +kernel
theorem dX0_addNext_77 : decode cX0_addNext 77 = .ok (.aload_n 0, 1) := by decide +kernel
theorem dX0_addNext_78 : decode cX0_addNext 78 = .ok (.getfield 60, 3) := by decide +kernel
theorem dX0_addNext_81 : decode cX0_addNext 81 = .ok (.aload_n 0, 1) := by decide +kernel
theorem dX0_addNext_82 : decode cX0_addNext 82 = .ok (.getfield 78, 3) := by decide +kernel
theorem dX0_addNext_85 : decode cX0_addNext 85 = .ok (.iload_n 1, 1) := by decide +kernel
theorem dX0_addNext_86 : decode cX0_addNext 86 = .ok (.iastore, 1) := by decide +kernel
theorem dX0_addNext_87 : decode cX0_addNext 87 = .ok (.aload_n 0, 1) := by decide +kernel
theorem dX0_addNext_88 : decode cX0_addNext 88 = .ok (.getfield 63, 3) := by decide +kernel
theorem dX0_addNext_91 : decode cX0_addNext 91 = .ok (.aload_n 0, 1) := by decide +kernel
theorem dX0_addNext_92 : decode cX0_addNext 92 = .ok (.getfield 78, 3) := by decide +kernel
theorem dX0_addNext_95 : decode cX0_addNext 95 = .ok (.iload_n 2, 1) := by decide +kernel
theorem dX0_addNext_96 : decode cX0_addNext 96 = .ok (.iastore, 1) := by decide +kernel
theorem dX0_addNext_97 : decode cX0_addNext 97 = .ok (.aload_n 0, 1) := by decide +kernel
theorem dX0_addNext_98 : decode cX0_addNext 98 = .ok (.getfield 66, 3) := by decide +kernel
theorem dX0_addNext_101 : decode cX0_addNext 101 = .ok (.aload_n 0, 1) := by decide +kernel
theorem dX0_addNext_102 : decode cX0_addNext 102 = .ok (.getfield 78, 3) := by decide +kernel
theorem dX0_addNext_105 : decode cX0_addNext 105 = .ok (.iload_n 3, 1) := by decide +kernel
theorem dX0_addNext_106 : decode cX0_addNext 106 = .ok (.iastore, 1) := by decide +kernel
theorem dX0_addNext_107 : decode cX0_addNext 107 = .ok (.aload_n 0, 1) := by decide +kernel
theorem dX0_addNext_108 : decode cX0_addNext 108 = .ok (.dup, 1) := by decide +kernel
theorem dX0_addNext_109 : decode cX0_addNext 109 = .ok (.getfield 78, 3) := by decide +kernel
theorem dX0_addNext_112 : decode cX0_addNext 112 = .ok (.iconst 1, 1) := by decide +kernel
theorem dX0_addNext_113 : decode cX0_addNext 113 = .ok (.iadd, 1) := by decide +kernel
theorem dX0_addNext_114 : decode cX0_addNext 114 = .ok (.putfield 78, 3) := by decide +kernel
theorem dX0_addNext_117 : decode cX0_addNext 117 = .ok (.iconst 1, 1) := by decide +kernel
theorem dX0_addNext_118 : decode cX0_addNext 118 = .ok (.ireturn, 1) := by decide +kernel
def w_At_addNext_77 (C : zC) (n0 : Nat) (Q : Int32 → zS → Prop)  (a0 : Nat) (a1 : Int32) (a2 : Int32) (a3 : Int32) (κ : zS) : Prop :=
  inb (zI κ atNexts a0) (zN κ (zR κ atSorts a0)) ∧
  ∀ κ1, κ1 = ua κ (zR κ atSorts a0) ((zI κ atNexts a0)).toNatClampNeg a1 →
  ∀ _ : zW C n0 κ1,
  inb (zI κ1 atNexts a0) (zN κ1 (zR κ1 atNumbers a0)) ∧
  ∀ κ3, κ3 = ua κ1 (zR κ1 atNumbers a0) ((zI κ1 atNexts a0)).toNatClampNeg a2 →
  ∀ _ : zW C n0 κ3,
  inb (zI κ3 atNexts a0) (zN κ3 (zR κ3 atWeights a0)) ∧
  ∀ κ5, κ5 = ua κ3 (zR κ3 atWeights a0) ((zI κ3 atNexts a0)).toNatClampNeg a3 →
  ∀ _ : zW C n0 κ5,
  ∀ κ7, κ7 = ui κ5 atNexts a0 ((zI κ5 atNexts a0) + (1 : Int32)) →
  ∀ _ : zW C n0 κ7,
  Q (1 : Int32) κ7
theorem t_At_addNext_77 {C : zC} {n0 : Nat} {Q : Int32 → zS → Prop}   {a0 : Nat} {a1 : Int32} {a2 : Int32} {a3 : Int32} {κ : zS} (W : zW C n0 κ) (Ta0 : zT κ a0 = 3) (F : w_At_addNext_77 C n0 Q  a0 a1 a2 a3 κ) : zG C n0 2 mAt_addNext 77 [some (.ref a0), some (.int a1), some (.int a2), some (.int a3), none] [] κ (oI Q noX) := by
  unfold w_At_addNext_77 at F
  refine y_aln dX0_addNext_77 rfl ?_
  refine gf_X0_60 W dX0_addNext_78 rfl Ta0 ?_
  refine y_aln dX0_addNext_81 rfl ?_
  refine gf_X0_78 dX0_addNext_82 rfl (Or.inl Ta0) ?_
  refine y_iln dX0_addNext_85 rfl ?_
  refine y_ast W dX0_addNext_86 (ty_atSorts W Ta0) F.1 (fun κ1 eκ1 => ?_)
  replace F := F.2 κ1 eκ1
  have Wκ1 : zW C n0 κ1 := zW_ua W eκ1 (fun h => absurd (h.symm.trans (ty_atSorts W Ta0)) (by decide)) (fun h => absurd (h.symm.trans (ty_atSorts W Ta0)) (by decide))
  have Mκ1 : zM (zn κ) κ κ1 := by rw [eκ1]; exact zM.of rfl rfl rfl
  replace F := F Wκ1
  refine y_aln dX0_addNext_87 rfl ?_
  have h2 := (ztm W Mκ1 Ta0)
  refine gf_X0_63 Wκ1 dX0_addNext_88 rfl h2 ?_
  refine y_aln dX0_addNext_91 rfl ?_
  refine gf_X0_78 dX0_addNext_92 rfl (Or.inl h2) ?_
  refine y_iln dX0_addNext_95 rfl ?_
  refine y_ast Wκ1 dX0_addNext_96 (ty_atNumbers Wκ1 h2) F.1 (fun κ3 eκ3 => ?_)
  replace F := F.2 κ3 eκ3
  have Wκ3 : zW C n0 κ3 := zW_ua Wκ1 eκ3 (fun h => absurd (h.symm.trans (ty_atNumbers Wκ1 h2)) (by decide)) (fun h => absurd (h.symm.trans (ty_atNumbers Wκ1 h2)) (by decide))
  have Mκ3 : zM (zn κ1) κ1 κ3 := by rw [eκ3]; exact zM.of rfl rfl rfl
  replace F := F Wκ3
  refine y_aln dX0_addNext_97 rfl ?_
  have h4 := (ztm Wκ1 Mκ3 h2)
  refine gf_X0_66 Wκ3 dX0_addNext_98 rfl h4 ?_
  refine y_aln dX0_addNext_101 rfl ?_
  refine gf_X0_78 dX0_addNext_102 rfl (Or.inl h4) ?_
  refine y_iln dX0_addNext_105 rfl ?_
  refine y_ast Wκ3 dX0_addNext_106 (ty_atWeights Wκ3 h4) F.1 (fun κ5 eκ5 => ?_)
  replace F := F.2 κ5 eκ5
  have Wκ5 : zW C n0 κ5 := zW_ua Wκ3 eκ5 (fun h => absurd (h.symm.trans (ty_atWeights Wκ3 h4)) (by decide)) (fun h => absurd (h.symm.trans (ty_atWeights Wκ3 h4)) (by decide))
  have Mκ5 : zM (zn κ3) κ3 κ5 := by rw [eκ5]; exact zM.of rfl rfl rfl
  replace F := F Wκ5
  refine y_aln dX0_addNext_107 rfl ?_
  refine y_dup dX0_addNext_108 rfl ?_
  have h6 := (ztm Wκ3 Mκ5 h4)
  refine gf_X0_78 dX0_addNext_109 rfl (Or.inl h6) ?_
  refine y_ic dX0_addNext_112 zi_1 ?_
  refine y_iadd dX0_addNext_113 ?_
  refine pf_X0_78 Wκ5 dX0_addNext_114 rfl (Or.inl h6) (fun κ7 eκ7 => ?_)
  replace F := F κ7 eκ7
  have Wκ7 : zW C n0 κ7 := zW_ui Wκ5 eκ7 (fun h => absurd h (by decide))
  have Mκ7 : zM (zn κ5) κ5 κ7 := by rw [eκ7]; exact zM.of rfl rfl rfl
  replace F := F Wκ7
  refine y_ic dX0_addNext_117 zi_1 ?_
  exact y_ri Wκ7 dX0_addNext_118 rfl (nb_nar nb_1) F

def w_At_addNext_0 (C : zC) (n0 : Nat) (Q : Int32 → zS → Prop)  (a0 : Nat) (a1 : Int32) (a2 : Int32) (a3 : Int32) (κ : zS) : Prop :=
  ((zI κ atNexts a0) < (20000 : Int32) →
    ((zI κ atNexts a0) < (Int32.ofNat (zN κ (zR κ atSorts a0))) →
      w_At_addNext_77 C n0 Q  a0 a1 a2 a3 κ) ∧
    (¬ (zI κ atNexts a0) < (Int32.ofNat (zN κ (zR κ atSorts a0))) →
      ∀ v4_1 : Int32, v4_1 = (if (20000 : Int32) < ((zI κ atNexts a0) * (2 : Int32)) then (20000 : Int32) else ((zI κ atNexts a0) * (2 : Int32))) →
      ∀ _ : zT κ (zR κ atSorts a0) = 20,
      zRun C 1 mAr_copyOf [.ref (zR κ atSorts a0), .int v4_1] κ (oR 20 (fun r3 κ2 =>
        ∀ _ : zW C n0 κ2,
        ∀ _ : zM (zn κ) κ κ2,
        ∀ _ : zT κ2 r3 = 20,
        zO κ2 r3 = (0, 0) ∧
        ∀ κ5, κ5 = uo κ2 atSorts a0 r3 →
        ∀ _ : zW C n0 κ5,
        ∀ _ : zT κ5 (zR κ5 atNumbers a0) = 20,
        zRun C 1 mAr_copyOf [.ref (zR κ5 atNumbers a0), .int v4_1] κ5 (oR 20 (fun r10 κ9 =>
          ∀ _ : zW C n0 κ9,
          ∀ _ : zM (zn κ5) κ5 κ9,
          ∀ _ : zT κ9 r10 = 20,
          zO κ9 r10 = (0, 0) ∧
          ∀ κ12, κ12 = uo κ9 atNumbers a0 r10 →
          ∀ _ : zW C n0 κ12,
          ∀ _ : zT κ12 (zR κ12 atWeights a0) = 20,
          zRun C 1 mAr_copyOf [.ref (zR κ12 atWeights a0), .int v4_1] κ12 (oR 20 (fun r17 κ16 =>
            ∀ _ : zW C n0 κ16,
            ∀ _ : zM (zn κ12) κ12 κ16,
            ∀ _ : zT κ16 r17 = 20,
            zO κ16 r17 = (0, 0) ∧
            ∀ κ19, κ19 = uo κ16 atWeights a0 r17 →
            ∀ _ : zW C n0 κ19,
            w_At_addNext_77 C n0 Q  a0 a1 a2 a3 κ19) noX)) noX)) noX))) ∧
  (¬ (zI κ atNexts a0) < (20000 : Int32) →
    Q (0 : Int32) κ)
theorem t_At_addNext_0 {C : zC} {n0 : Nat} {Q : Int32 → zS → Prop}   {a0 : Nat} {a1 : Int32} {a2 : Int32} {a3 : Int32} {κ : zS} (W : zW C n0 κ) (Ta0 : zT κ a0 = 3) (F : w_At_addNext_0 C n0 Q  a0 a1 a2 a3 κ) : zG C n0 2 mAt_addNext 0 [some (.ref a0), some (.int a1), some (.int a2), some (.int a3), none] [] κ (oI Q noX) := by
  unfold w_At_addNext_0 at F
  refine y_aln dX0_addNext_0 rfl ?_
  refine gf_X0_78 dX0_addNext_1 rfl (Or.inl Ta0) ?_
  refine y_si dX0_addNext_4 zs_20000 ?_
  refine y_ii ((zI κ atNexts a0) < (20000 : Int32)) dX0_addNext_7 (t := 12) rfl rfl (fun c9 => ?_) (fun c9 => ?_)
  · replace F := F.1 c9
    refine y_aln dX0_addNext_12 rfl ?_
    refine gf_X0_78 dX0_addNext_13 rfl (Or.inl Ta0) ?_
    refine y_aln dX0_addNext_16 rfl ?_
    refine gf_X0_60 W dX0_addNext_17 rfl Ta0 ?_
    refine y_alen (t := 0) dX0_addNext_20 (ty_atSorts W Ta0) (by decide) ?_
    refine y_ii ((zI κ atNexts a0) < (Int32.ofNat (zN κ (zR κ atSorts a0)))) dX0_addNext_21 (t := 77) rfl rfl (fun c9 => ?_) (fun c9 => ?_)
    · replace F := F.1 c9
      exact y_k (t_At_addNext_77  W Ta0 F) ⟨rfl, rfl, rfl, rfl, trivial⟩
    · replace F := F.2 c9
      refine y_aln dX0_addNext_24 rfl ?_
      refine gf_X0_78 dX0_addNext_25 rfl (Or.inl Ta0) ?_
      refine y_ic dX0_addNext_28 zi_2 ?_
      refine y_imul dX0_addNext_29 ?_
      refine y_si dX0_addNext_30 zs_20000 ?_
      refine y_min dX0_addNext_33 rfl zbi_X0_195 (Nat.le_of_ble_eq_true rfl) (Nat.le_of_ble_eq_true rfl) ?_
      refine y_isb dX0_addNext_36 (Nat.le_of_ble_eq_true rfl) (fun v4_1 ev4_1 => ?_)
      replace F := F v4_1 ev4_1
      refine y_aln dX0_addNext_38 rfl ?_
      refine y_aln dX0_addNext_39 rfl ?_
      refine gf_X0_60 W dX0_addNext_40 rfl Ta0 ?_
      refine y_il dX0_addNext_43 rfl ?_
      replace F := F (ty_atSorts W Ta0)
      refine k_X0_200 W dX0_addNext_45 rfl (Nat.le_of_ble_eq_true rfl) (Nat.le_of_ble_eq_true rfl)  F (fun r3 κ2 Wκ2 Mκ2 g4 F => ?_) (fun _ _ h9 => False.elim h9)
      replace F := F Wκ2 Mκ2 g4
      have b6 := F.1
      replace F := F.2
      have h7 := (ztm W Mκ2 Ta0)
      refine pf_X0_60 Wκ2 dX0_addNext_48 rfl (Or.inl h7) g4 (fun κ5 eκ5 => ?_)
      replace F := F κ5 eκ5
      have Wκ5 : zW C n0 κ5 := zW_uo Wκ2 eκ5 (fun t ht => by cases ht; exact g4) b6
      have Mκ5 : zM (zn κ2) κ2 κ5 := by rw [eκ5]; exact zM.of rfl rfl rfl
      replace F := F Wκ5
      refine y_aln dX0_addNext_51 rfl ?_
      refine y_aln dX0_addNext_52 rfl ?_
      have h8 := (ztm Wκ2 Mκ5 h7)
      refine gf_X0_63 Wκ5 dX0_addNext_53 rfl h8 ?_
      refine y_il dX0_addNext_56 rfl ?_
      replace F := F (ty_atNumbers Wκ5 h8)
      refine k_X0_200 Wκ5 dX0_addNext_58 rfl (Nat.le_of_ble_eq_true rfl) (Nat.le_of_ble_eq_true rfl)  F (fun r10 κ9 Wκ9 Mκ9 g11 F => ?_) (fun _ _ h9 => False.elim h9)
      replace F := F Wκ9 Mκ9 g11
      have b13 := F.1
      replace F := F.2
      have h14 := (ztm Wκ5 Mκ9 h8)
      refine pf_X0_63 Wκ9 dX0_addNext_61 rfl (Or.inl h14) g11 (fun κ12 eκ12 => ?_)
      replace F := F κ12 eκ12
      have Wκ12 : zW C n0 κ12 := zW_uo Wκ9 eκ12 (fun t ht => by cases ht; exact g11) b13
      have Mκ12 : zM (zn κ9) κ9 κ12 := by rw [eκ12]; exact zM.of rfl rfl rfl
      replace F := F Wκ12
      refine y_aln dX0_addNext_64 rfl ?_
      refine y_aln dX0_addNext_65 rfl ?_
      have h15 := (ztm Wκ9 Mκ12 h14)
      refine gf_X0_66 Wκ12 dX0_addNext_66 rfl h15 ?_
      refine y_il dX0_addNext_69 rfl ?_
      replace F := F (ty_atWeights Wκ12 h15)
      refine k_X0_200 Wκ12 dX0_addNext_71 rfl (Nat.le_of_ble_eq_true rfl) (Nat.le_of_ble_eq_true rfl)  F (fun r17 κ16 Wκ16 Mκ16 g18 F => ?_) (fun _ _ h9 => False.elim h9)
      replace F := F Wκ16 Mκ16 g18
      have b20 := F.1
      replace F := F.2
      have h21 := (ztm Wκ12 Mκ16 h15)
      refine pf_X0_66 Wκ16 dX0_addNext_74 rfl (Or.inl h21) g18 (fun κ19 eκ19 => ?_)
      replace F := F κ19 eκ19
      have Wκ19 : zW C n0 κ19 := zW_uo Wκ16 eκ19 (fun t ht => by cases ht; exact g18) b20
      have Mκ19 : zM (zn κ16) κ16 κ19 := by rw [eκ19]; exact zM.of rfl rfl rfl
      replace F := F Wκ19
      have h22 := (ztm Wκ16 Mκ19 h21)
      exact y_k (t_At_addNext_77  Wκ19 h22 F) ⟨rfl, rfl, rfl, rfl, trivial⟩
  · replace F := F.2 c9
    refine y_ic dX0_addNext_10 zi_0 ?_
    exact y_ri W dX0_addNext_11 rfl (nb_nar nb_0) F

theorem At_addNext_run {C : zC} {n0 : Nat} {Q : Int32 → zS → Prop} {a0 : Nat} {a1 : Int32} {a2 : Int32} {a3 : Int32} {κ : zS} (W : zW C n0 κ) (Ta0 : zT κ a0 = 3) (F : w_At_addNext_0 C (zn κ) Q a0 a1 a2 a3 κ) : zRun C 2 mAt_addNext [.ref a0, .int a1, .int a2, .int a3] κ (oI Q noX) := z_run (m_ent _ 1) (t_At_addNext_0 (W.lo (Nat.le_trans W.1.2.1 W.1.2.2) (Nat.le_refl _)) Ta0 F)

theorem dX3_enter_0 : decode cX3_enter 0 = .ok (.aload_n 0, 1) := by decide +kernel
theorem dX3_enter_1 : decode cX3_enter 1 = .ok (.getfield 25, 3) := by decide +kernel
theorem dX3_enter_4 : decode cX3_enter 4 = .ok (.arraylength, 1) := by decide +kernel
theorem dX3_enter_5 : decode cX3_enter 5 = .ok (.ifCond .eq 9, 3) := by decide +kernel
theorem dX3_enter_8 : decode cX3_enter 8 = .ok (.iload_n 2, 1) := by decide +kernel
theorem dX3_enter_9 : decode cX3_enter 9 = .ok (.aload_n 1, 1) := by decide +kernel
theorem dX3_enter_10 : decode cX3_enter 10 = .ok (.arraylength, 1) := by decide +kernel
theorem dX3_enter_11 : decode cX3_enter 11 = .ok (.if_icmp .le 5, 3) := by decide +kernel
theorem dX3_enter_14 : decode cX3_enter 14 = .ok (.iconst (-1), 1) := by decide +kernel
theorem dX3_enter_15 : decode cX3_enter 15 = .ok (.ireturn, 1) := by decide +kernel
theorem dX3_enter_16 : decode cX3_enter 16 = .ok (.aload_n 0, 1) := by decide +kernel
theorem dX3_enter_17 : decode cX3_enter 17 = .ok (.aload_n 1, 1) := by decide +kernel
theorem dX3_enter_18 : decode cX3_enter 18 = .ok (.iload_n 2, 1) := by decide +kernel
theorem dX3_enter_19 : decode cX3_enter 19 = .ok (.invokevirtual 61, 3) := by decide +kernel
theorem dX3_enter_22 : decode cX3_enter 22 = .ok (.istore 4, 2) := by decide +kernel
theorem dX3_enter_24 : decode cX3_enter 24 = .ok (.aload_n 0, 1) := by decide +kernel
theorem dX3_enter_25 : decode cX3_enter 25 = .ok (.getfield 25, 3) := by decide +kernel
theorem dX3_enter_28 : decode cX3_enter 28 = .ok (.iload 4, 2) := by decide +kernel
theorem dX3_enter_30 : decode cX3_enter 30 = .ok (.iaload, 1) := by decide +kernel
theorem dX3_enter_31 : decode cX3_enter 31 = .ok (.ifCond .eq 13, 3) := by decide +kernel
theorem dX3_enter_34 : decode cX3_enter 34 = .ok (.aload_n 0, 1) := by decide +kernel
theorem dX3_enter_35 : decode cX3_enter 35 = .ok (.getfield 25, 3) := by decide +kernel
theorem dX3_enter_38 : decode cX3_enter 38 = .ok (.iload 4, 2) := by decide +kernel
theorem dX3_enter_40 : decode cX3_enter 40 = .ok (.iaload, 1) := by decide +kernel
theorem dX3_enter_41 : decode cX3_enter 41 = .ok (.iconst 1, 1) := by decide +kernel
theorem dX3_enter_42 : decode cX3_enter 42 = .ok (.isub, 1) := by decide +kernel
theorem dX3_enter_43 : decode cX3_enter 43 = .ok (.ireturn, 1) := by decide +kernel
theorem dX3_enter_44 : decode cX3_enter 44 = .ok (.aload_n 0, 1) := by decide +kernel
theorem dX3_enter_45 : decode cX3_enter 45 = .ok (.getfield 37, 3) := by decide +kernel
theorem dX3_enter_48 : decode cX3_enter 48 = .ok (.iload_n 3, 1) := by decide +kernel
theorem dX3_enter_49 : decode cX3_enter 49 = .ok (.if_icmp .ge 22, 3) := by decide +kernel
theorem dX3_enter_52 : decode cX3_enter 52 = .ok (.aload_n 0, 1) := by decide +kernel
theorem dX3_enter_53 : decode cX3_enter 53 = .ok (.getfield 37, 3) := by decide +kernel
theorem dX3_enter_56 : decode cX3_enter 56 = .ok (.aload_n 0, 1) := by decide +kernel
theorem dX3_enter_57 : decode cX3_enter 57 = .ok (.getfield 9, 3) := by decide +kernel
theorem dX3_enter_60 : decode cX3_enter 60 = .ok (.if_icmp .ge 11, 3) := by decide +kernel
theorem dX3_enter_63 : decode cX3_enter 63 = .ok (.iload_n 2, 1) := by decide +kernel
theorem dX3_enter_64 : decode cX3_enter 64 = .ok (.aload_n 0, 1) := by decide +kernel
theorem dX3_enter_65 : decode cX3_enter 65 = .ok (.getfield 15, 3) := by decide +kernel
theorem dX3_enter_68 : decode cX3_enter 68 = .ok (.if_icmp .le 5, 3) := by decide +kernel
theorem dX3_enter_71 : decode cX3_enter 71 = .ok (.iconst (-1), 1) := by decide +kernel
theorem dX3_enter_72 : decode cX3_enter 72 = .ok (.ireturn, 1) := by decide +kernel
theorem dX3_enter_73 : decode cX3_enter 73 = .ok (.aload_n 0, 1) := by decide +kernel
theorem dX3_enter_74 : decode cX3_enter 74 = .ok (.getfield 21, 3) := by decide +kernel
theorem dX3_enter_77 : decode cX3_enter 77 = .ok (.aload_n 0, 1) := by decide +kernel
theorem dX3_enter_78 : decode cX3_enter 78 = .ok (.getfield 37, 3) := by decide +kernel
theorem dX3_enter_81 : decode cX3_enter 81 = .ok (.iaload, 1) := by decide +kernel
theorem dX3_enter_82 : decode cX3_enter 82 = .ok (.istore 5, 2) := by decide +kernel
theorem dX3_enter_84 : decode cX3_enter 84 = .ok (.iload 5, 2) := by decide +kernel
theorem dX3_enter_86 : decode cX3_enter 86 = .ok (.iload_n 2, 1) := by decide +kernel
theorem dX3_enter_87 : decode cX3_enter 87 = .ok (.iadd, 1) := by decide +kernel
theorem dX3_enter_88 : decode cX3_enter 88 = .ok (.aload_n 0, 1) := by decide +kernel
theorem dX3_enter_89 : decode cX3_enter 89 = .ok (.getfield 28, 3) := by decide +kernel
theorem dX3_enter_92 : decode cX3_enter 92 = .ok (.arraylength, 1) := by decide +kernel
theorem dX3_enter_93 : decode cX3_enter 93 = .ok (.if_icmp .le 32, 3) := by decide +kernel
theorem dX3_enter_96 : decode cX3_enter 96 = .ok (.aload_n 0, 1) := by decide +kernel
theorem dX3_enter_97 : decode cX3_enter 97 = .ok (.aload_n 0, 1) := by decide +kernel
theorem dX3_enter_98 : decode cX3_enter 98 = .ok (.getfield 28, 3) := by decide +kernel
theorem dX3_enter_101 : decode cX3_enter 101 = .ok (.iload 5, 2) := by decide +kernel
theorem dX3_enter_103 : decode cX3_enter 103 = .ok (.iload_n 2, 1) := by decide +kernel
theorem dX3_enter_104 : decode cX3_enter 104 = .ok (.iadd, 1) := by decide +kernel
theorem dX3_enter_105 : decode cX3_enter 105 = .ok (.iconst 2, 1) := by decide +kernel
theorem dX3_enter_106 : decode cX3_enter 106 = .ok (.imul, 1) := by decide +kernel
theorem dX3_enter_107 : decode cX3_enter 107 = .ok (.aload_n 0, 1) := by decide +kernel
theorem dX3_enter_108 : decode cX3_enter 108 = .ok (.getfield 9, 3) := by decide +kernel
theorem dX3_enter_111 : decode cX3_enter 111 = .ok (.aload_n 0, 1) := by decide +kernel
theorem dX3_enter_112 : decode cX3_enter 112 = .ok (.getfield 15, 3) := by decide +kernel
theorem dX3_enter_115 : decode cX3_enter 115 = .ok (.imul, 1) := by decide +kernel
theorem dX3_enter_116 : decode cX3_enter 116 = .ok (.invokestatic 44, 3) := by decide +kernel
theorem dX3_enter_119 : decode cX3_enter 119 = .ok (.invokestatic 65, 3) := by decide +kernel
theorem dX3_enter_122 : decode cX3_enter 122 = .ok (.putfield 28, 3) := by decide +kernel
theorem dX3_enter_125 : decode cX3_enter 125 = .ok (.aload_n 1, 1) := by decide +kernel
theorem dX3_enter_126 : decode cX3_enter 126 = .ok (.iconst 0, 1) := by decide +kernel
theorem dX3_enter_127 : decode cX3_enter 127 = .ok (.aload_n 0, 1) := by decide +kernel
theorem dX3_enter_128 : decode cX3_enter 128 = .ok (.getfield 28, 3) := by decide +kernel
theorem dX3_enter_131 : decode cX3_enter 131 = .ok (.iload 5, 2) := by decide +kernel
theorem dX3_enter_133 : decode cX3_enter 133 = .ok (.iload_n 2, 1) := by decide +kernel
theorem dX3_enter_134 : decode cX3_enter 134 = .ok (.invokestatic 50, 3) := by decide +kernel
theorem dX3_enter_137 : decode cX3_enter 137 = .ok (.aload_n 0, 1) := by decide +kernel
theorem dX3_enter_138 : decode cX3_enter 138 = .ok (.dup, 1) := by decide +kernel
theorem dX3_enter_139 : decode cX3_enter 139 = .ok (.getfield 37, 3) := by decide +kernel
theorem dX3_enter_142 : decode cX3_enter 142 = .ok (.iconst 1, 1) := by decide +kernel
theorem dX3_enter_143 : decode cX3_enter 143 = .ok (.iadd, 1) := by decide +kernel
theorem dX3_enter_144 : decode cX3_enter 144 = .ok (.putfield 37, 3) := by decide +kernel
theorem dX3_enter_147 : decode cX3_enter 147 = .ok (.aload_n 0, 1) := by decide +kernel
theorem dX3_enter_148 : decode cX3_enter 148 = .ok (.getfield 21, 3) := by decide +kernel
theorem dX3_enter_151 : decode cX3_enter 151 = .ok (.aload_n 0, 1) := by decide +kernel
theorem dX3_enter_152 : decode cX3_enter 152 = .ok (.getfield 37, 3) := by decide +kernel
theorem dX3_enter_155 : decode cX3_enter 155 = .ok (.iload 5, 2) := by decide +kernel
theorem dX3_enter_157 : decode cX3_enter 157 = .ok (.iload_n 2, 1) := by decide +kernel
theorem dX3_enter_158 : decode cX3_enter 158 = .ok (.iadd, 1) := by decide +kernel
theorem dX3_enter_159 : decode cX3_enter 159 = .ok (.iastore, 1) := by decide +kernel
theorem dX3_enter_160 : decode cX3_enter 160 = .ok (.aload_n 0, 1) := by decide +kernel
theorem dX3_enter_161 : decode cX3_enter 161 = .ok (.getfield 25, 3) := by decide +kernel
theorem dX3_enter_164 : decode cX3_enter 164 = .ok (.iload 4, 2) := by decide +kernel
theorem dX3_enter_166 : decode cX3_enter 166 = .ok (.aload_n 0, 1) := by decide +kernel
theorem dX3_enter_167 : decode cX3_enter 167 = .ok (.getfield 37, 3) := by decide +kernel
theorem dX3_enter_170 : decode cX3_enter 170 = .ok (.iastore, 1) := by decide +kernel
theorem dX3_enter_171 : decode cX3_enter 171 = .ok (.aload_n 0, 1) := by decide +kernel
theorem dX3_enter_172 : decode cX3_enter 172 = .ok (.getfield 37, 3) := by decide +kernel
theorem dX3_enter_175 : decode cX3_enter 175 = .ok (.iconst 1, 1) := by decide +kernel
theorem dX3_enter_176 : decode cX3_enter 176 = .ok (.isub, 1) := by decide +kernel
theorem dX3_enter_177 : decode cX3_enter 177 = .ok (.ireturn, 1) := by decide +kernel
def w_Ho_enter_125 (C : zC) (n0 : Nat) (Q : Int32 → zS → Prop)  (a0 : Nat) (a1 : Nat) (a2 : Int32) (a4 : Int32) (a5 : Int32) (κ : zS) : Prop :=
  cpo κ a1 (zR κ hoPool a0) (0 : Int32) a5 a2 ∧
  ∀ κ1, κ1 = uc κ a1 (zR κ hoPool a0) ((0 : Int32)).toNatClampNeg (a5).toNatClampNeg (a2).toNatClampNeg →
  ∀ _ : zW C n0 κ1,
  ∀ κ3, κ3 = ui κ1 hoTotal a0 ((zI κ1 hoTotal a0) + (1 : Int32)) →
  ∀ _ : zW C n0 κ3,
  inb (zI κ3 hoTotal a0) (zN κ3 (zR κ3 hoStarts a0)) ∧
  ∀ κ5, κ5 = ua κ3 (zR κ3 hoStarts a0) ((zI κ3 hoTotal a0)).toNatClampNeg (a5 + a2) →
  ∀ _ : zW C n0 κ5,
  inb a4 (zN κ5 (zR κ5 hoTable a0)) ∧
  ∀ κ7, κ7 = ua κ5 (zR κ5 hoTable a0) (a4).toNatClampNeg (zI κ5 hoTotal a0) →
  ∀ _ : zW C n0 κ7,
  Q ((zI κ7 hoTotal a0) - (1 : Int32)) κ7
theorem t_Ho_enter_125 {C : zC} {n0 : Nat} {Q : Int32 → zS → Prop}   {a0 : Nat} {a1 : Nat} {a2 : Int32} {a4 : Int32} {a5 : Int32} {κ : zS} (W : zW C n0 κ) (Ta0 : zT κ a0 = 6) (Ta1 : zT κ a1 = 20) (F : w_Ho_enter_125 C n0 Q  a0 a1 a2 a4 a5 κ) : zG C n0 2 mHo_enter 125 [some (.ref a0), some (.ref a1), some (.int a2), none, some (.int a4), some (.int a5)] [] κ (oI Q noX) := by
  unfold w_Ho_enter_125 at F
  refine y_aln dX3_enter_125 rfl ?_
  refine y_ic dX3_enter_126 zi_0 ?_
  refine y_aln dX3_enter_127 rfl ?_
  refine gf_X3_28 W dX3_enter_128 rfl Ta0 ?_
  refine y_il dX3_enter_131 rfl ?_
  refine y_iln dX3_enter_133 rfl ?_
  refine y_cpy (t := 0) W dX3_enter_134 rfl zbi_X3_50 Ta1 (ty_hoPool W Ta0) (by decide) (Nat.le_of_ble_eq_true rfl) (Nat.le_of_ble_eq_true rfl) F.1 (fun κ1 eκ1 => ?_)
  replace F := F.2 κ1 eκ1
  have Wκ1 : zW C n0 κ1 := zW_uc W eκ1 (Ta1.trans (ty_hoPool W Ta0).symm)
  have Mκ1 : zM (zn κ) κ κ1 := by rw [eκ1]; exact zM.of rfl rfl rfl
  replace F := F Wκ1
  refine y_aln dX3_enter_137 rfl ?_
  refine y_dup dX3_enter_138 rfl ?_
  have h2 := (ztm W Mκ1 Ta0)
  refine gf_X3_37 dX3_enter_139 rfl (Or.inl h2) ?_
  refine y_ic dX3_enter_142 zi_1 ?_
  refine y_iadd dX3_enter_143 ?_
  refine pf_X3_37 Wκ1 dX3_enter_144 rfl (Or.inl h2) (fun κ3 eκ3 => ?_)
  replace F := F κ3 eκ3
  have Wκ3 : zW C n0 κ3 := zW_ui Wκ1 eκ3 (fun h => absurd h (by decide))
  have Mκ3 : zM (zn κ1) κ1 κ3 := by rw [eκ3]; exact zM.of rfl rfl rfl
  replace F := F Wκ3
  refine y_aln dX3_enter_147 rfl ?_
  have h4 := (ztm Wκ1 Mκ3 h2)
  refine gf_X3_21 Wκ3 dX3_enter_148 rfl h4 ?_
  refine y_aln dX3_enter_151 rfl ?_
  refine gf_X3_37 dX3_enter_152 rfl (Or.inl h4) ?_
  refine y_il dX3_enter_155 rfl ?_
  refine y_iln dX3_enter_157 rfl ?_
  refine y_iadd dX3_enter_158 ?_
  refine y_ast Wκ3 dX3_enter_159 (ty_hoStarts Wκ3 h4) F.1 (fun κ5 eκ5 => ?_)
  replace F := F.2 κ5 eκ5
  have Wκ5 : zW C n0 κ5 := zW_ua Wκ3 eκ5 (fun h => absurd (h.symm.trans (ty_hoStarts Wκ3 h4)) (by decide)) (fun h => absurd (h.symm.trans (ty_hoStarts Wκ3 h4)) (by decide))
  have Mκ5 : zM (zn κ3) κ3 κ5 := by rw [eκ5]; exact zM.of rfl rfl rfl
  replace F := F Wκ5
  refine y_aln dX3_enter_160 rfl ?_
  have h6 := (ztm Wκ3 Mκ5 h4)
  refine gf_X3_25 Wκ5 dX3_enter_161 rfl h6 ?_
  refine y_il dX3_enter_164 rfl ?_
  refine y_aln dX3_enter_166 rfl ?_
  refine gf_X3_37 dX3_enter_167 rfl (Or.inl h6) ?_
  refine y_ast Wκ5 dX3_enter_170 (ty_hoTable Wκ5 h6) F.1 (fun κ7 eκ7 => ?_)
  replace F := F.2 κ7 eκ7
  have Wκ7 : zW C n0 κ7 := zW_ua Wκ5 eκ7 (fun h => absurd (h.symm.trans (ty_hoTable Wκ5 h6)) (by decide)) (fun h => absurd (h.symm.trans (ty_hoTable Wκ5 h6)) (by decide))
  have Mκ7 : zM (zn κ5) κ5 κ7 := by rw [eκ7]; exact zM.of rfl rfl rfl
  replace F := F Wκ7
  refine y_aln dX3_enter_171 rfl ?_
  have h8 := (ztm Wκ5 Mκ7 h6)
  refine gf_X3_37 dX3_enter_172 rfl (Or.inl h8) ?_
  refine y_ic dX3_enter_175 zi_1 ?_
  refine y_isub dX3_enter_176 ?_
  exact y_ri Wκ7 dX3_enter_177 rfl in_nar F

def w_Ho_enter_0 (C : zC) (n0 : Nat) (Q : Int32 → zS → Prop)  (a0 : Nat) (a1 : Nat) (a2 : Int32) (a3 : Int32) (κ : zS) : Prop :=
  ((Int32.ofNat (zN κ (zR κ hoTable a0))) = (0 : Int32) →
    Q (-1 : Int32) κ) ∧
  (¬ (Int32.ofNat (zN κ (zR κ hoTable a0))) = (0 : Int32) →
    (a2 ≤ (Int32.ofNat (zN κ a1)) →
      ∀ _ : zT κ a0 = 6,
      ∀ _ : zT κ a1 = 20,
      zRun C 1 mHo_slotOf [.ref a0, .ref a1, .int a2] κ (oI (fun r2 κ1 =>
        ∀ _ : zW C n0 κ1,
        ∀ _ : zM (zn κ) κ κ1,
        inb r2 (zN κ1 (zR κ1 hoTable a0)) ∧
        ((zA κ1 (zR κ1 hoTable a0) (r2).toNatClampNeg) = (0 : Int32) →
          (a3 ≤ (zI κ1 hoTotal a0) →
            Q (-1 : Int32) κ1) ∧
          (¬ a3 ≤ (zI κ1 hoTotal a0) →
            ((zI κ1 hoMost a0) ≤ (zI κ1 hoTotal a0) →
              Q (-1 : Int32) κ1) ∧
            (¬ (zI κ1 hoMost a0) ≤ (zI κ1 hoTotal a0) →
              (a2 ≤ (zI κ1 hoWidest a0) →
                inb (zI κ1 hoTotal a0) (zN κ1 (zR κ1 hoStarts a0)) ∧
                ∀ v5_5 : Int32, v5_5 = (zA κ1 (zR κ1 hoStarts a0) ((zI κ1 hoTotal a0)).toNatClampNeg) →
                ((v5_5 + a2) ≤ (Int32.ofNat (zN κ1 (zR κ1 hoPool a0))) →
                  w_Ho_enter_125 C n0 Q  a0 a1 a2 r2 v5_5 κ1) ∧
                (¬ (v5_5 + a2) ≤ (Int32.ofNat (zN κ1 (zR κ1 hoPool a0))) →
                  ∀ _ : zT κ1 (zR κ1 hoPool a0) = 20,
                  zRun C 1 mAr_copyOf [.ref (zR κ1 hoPool a0), .int (if ((zI κ1 hoMost a0) * (zI κ1 hoWidest a0)) < ((v5_5 + a2) * (2 : Int32)) then ((zI κ1 hoMost a0) * (zI κ1 hoWidest a0)) else ((v5_5 + a2) * (2 : Int32)))] κ1 (oR 20 (fun r8 κ7 =>
                    ∀ _ : zW C n0 κ7,
                    ∀ _ : zM (zn κ1) κ1 κ7,
                    ∀ _ : zT κ7 r8 = 20,
                    zO κ7 r8 = (0, 0) ∧
                    ∀ κ10, κ10 = uo κ7 hoPool a0 r8 →
                    ∀ _ : zW C n0 κ10,
                    w_Ho_enter_125 C n0 Q  a0 a1 a2 r2 v5_5 κ10) noX))) ∧
              (¬ a2 ≤ (zI κ1 hoWidest a0) →
                Q (-1 : Int32) κ1)))) ∧
        (¬ (zA κ1 (zR κ1 hoTable a0) (r2).toNatClampNeg) = (0 : Int32) →
          inb r2 (zN κ1 (zR κ1 hoTable a0)) ∧
          Q ((zA κ1 (zR κ1 hoTable a0) (r2).toNatClampNeg) - (1 : Int32)) κ1)) noX)) ∧
    (¬ a2 ≤ (Int32.ofNat (zN κ a1)) →
      Q (-1 : Int32) κ))
theorem t_Ho_enter_0 {C : zC} {n0 : Nat} {Q : Int32 → zS → Prop}   {a0 : Nat} {a1 : Nat} {a2 : Int32} {a3 : Int32} {κ : zS} (W : zW C n0 κ) (Ta0 : zT κ a0 = 6) (Ta1 : zT κ a1 = 20) (F : w_Ho_enter_0 C n0 Q  a0 a1 a2 a3 κ) : zG C n0 2 mHo_enter 0 [some (.ref a0), some (.ref a1), some (.int a2), some (.int a3), none, none] [] κ (oI Q noX) := by
  unfold w_Ho_enter_0 at F
  refine y_aln dX3_enter_0 rfl ?_
  refine gf_X3_25 W dX3_enter_1 rfl Ta0 ?_
  refine y_alen (t := 0) dX3_enter_4 (ty_hoTable W Ta0) (by decide) ?_
  refine y_i ((Int32.ofNat (zN κ (zR κ hoTable a0))) = (0 : Int32)) dX3_enter_5 (t := 14) rfl rfl (fun c9 => ?_) (fun c9 => ?_)
  · replace F := F.1 c9
    refine y_ic dX3_enter_14 zi_m1 ?_
    exact y_ri W dX3_enter_15 rfl in_nar F
  · replace F := F.2 c9
    refine y_iln dX3_enter_8 rfl ?_
    refine y_aln dX3_enter_9 rfl ?_
    refine y_alen (t := 0) dX3_enter_10 Ta1 (by decide) ?_
    refine y_ii (a2 ≤ (Int32.ofNat (zN κ a1))) dX3_enter_11 (t := 16) rfl rfl (fun c9 => ?_) (fun c9 => ?_)
    · replace F := F.1 c9
      refine y_aln dX3_enter_16 rfl ?_
      refine y_aln dX3_enter_17 rfl ?_
      refine y_iln dX3_enter_18 rfl ?_
      replace F := F Ta0
      replace F := F Ta1
      refine k_X3_61 W dX3_enter_19 rfl (Nat.le_of_ble_eq_true rfl) (Nat.le_of_ble_eq_true rfl) (Or.inl Ta0) F (fun r2 κ1 Wκ1 Mκ1 F => ?_) (fun _ _ h9 => False.elim h9)
      replace F := F Wκ1 Mκ1
      refine y_is dX3_enter_22 (Nat.le_of_ble_eq_true rfl) rfl ?_
      refine y_aln dX3_enter_24 rfl ?_
      have h4 := (ztm W Mκ1 Ta0)
      refine gf_X3_25 Wκ1 dX3_enter_25 rfl h4 ?_
      refine y_il dX3_enter_28 rfl ?_
      refine y_ald dX3_enter_30 (ty_hoTable Wκ1 h4) F.1 ?_
      replace F := F.2
      refine y_i ((zA κ1 (zR κ1 hoTable a0) (r2).toNatClampNeg) = (0 : Int32)) dX3_enter_31 (t := 44) rfl rfl (fun c9 => ?_) (fun c9 => ?_)
      · replace F := F.1 c9
        refine y_aln dX3_enter_44 rfl ?_
        refine gf_X3_37 dX3_enter_45 rfl (Or.inl h4) ?_
        refine y_iln dX3_enter_48 rfl ?_
        refine y_ii (a3 ≤ (zI κ1 hoTotal a0)) dX3_enter_49 (t := 71) rfl rfl (fun c9 => ?_) (fun c9 => ?_)
        · replace F := F.1 c9
          refine y_ic dX3_enter_71 zi_m1 ?_
          exact y_ri Wκ1 dX3_enter_72 rfl in_nar F
        · replace F := F.2 c9
          refine y_aln dX3_enter_52 rfl ?_
          refine gf_X3_37 dX3_enter_53 rfl (Or.inl h4) ?_
          refine y_aln dX3_enter_56 rfl ?_
          refine gf_X3_9 dX3_enter_57 rfl (Or.inl h4) ?_
          refine y_ii ((zI κ1 hoMost a0) ≤ (zI κ1 hoTotal a0)) dX3_enter_60 (t := 71) rfl rfl (fun c9 => ?_) (fun c9 => ?_)
          · replace F := F.1 c9
            refine y_ic dX3_enter_71 zi_m1 ?_
            exact y_ri Wκ1 dX3_enter_72 rfl in_nar F
          · replace F := F.2 c9
            refine y_iln dX3_enter_63 rfl ?_
            refine y_aln dX3_enter_64 rfl ?_
            refine gf_X3_15 dX3_enter_65 rfl (Or.inl h4) ?_
            refine y_ii (a2 ≤ (zI κ1 hoWidest a0)) dX3_enter_68 (t := 73) rfl rfl (fun c9 => ?_) (fun c9 => ?_)
            · replace F := F.1 c9
              refine y_aln dX3_enter_73 rfl ?_
              refine gf_X3_21 Wκ1 dX3_enter_74 rfl h4 ?_
              refine y_aln dX3_enter_77 rfl ?_
              refine gf_X3_37 dX3_enter_78 rfl (Or.inl h4) ?_
              refine y_ald dX3_enter_81 (ty_hoStarts Wκ1 h4) F.1 ?_
              replace F := F.2
              refine y_isb dX3_enter_82 (Nat.le_of_ble_eq_true rfl) (fun v5_5 ev5_5 => ?_)
              replace F := F v5_5 ev5_5
              refine y_il dX3_enter_84 rfl ?_
              refine y_iln dX3_enter_86 rfl ?_
              refine y_iadd dX3_enter_87 ?_
              refine y_aln dX3_enter_88 rfl ?_
              refine gf_X3_28 Wκ1 dX3_enter_89 rfl h4 ?_
              refine y_alen (t := 0) dX3_enter_92 (ty_hoPool Wκ1 h4) (by decide) ?_
              refine y_ii ((v5_5 + a2) ≤ (Int32.ofNat (zN κ1 (zR κ1 hoPool a0)))) dX3_enter_93 (t := 125) rfl rfl (fun c9 => ?_) (fun c9 => ?_)
              · replace F := F.1 c9
                have h6 := (ztm W Mκ1 Ta1)
                exact y_k (t_Ho_enter_125  Wκ1 h4 h6 F) ⟨rfl, rfl, rfl, rfl, rfl, trivial⟩
              · replace F := F.2 c9
                refine y_aln dX3_enter_96 rfl ?_
                refine y_aln dX3_enter_97 rfl ?_
                refine gf_X3_28 Wκ1 dX3_enter_98 rfl h4 ?_
                refine y_il dX3_enter_101 rfl ?_
                refine y_iln dX3_enter_103 rfl ?_
                refine y_iadd dX3_enter_104 ?_
                refine y_ic dX3_enter_105 zi_2 ?_
                refine y_imul dX3_enter_106 ?_
                refine y_aln dX3_enter_107 rfl ?_
                refine gf_X3_9 dX3_enter_108 rfl (Or.inl h4) ?_
                refine y_aln dX3_enter_111 rfl ?_
                refine gf_X3_15 dX3_enter_112 rfl (Or.inl h4) ?_
                refine y_imul dX3_enter_115 ?_
                refine y_min dX3_enter_116 rfl zbi_X3_44 (Nat.le_of_ble_eq_true rfl) (Nat.le_of_ble_eq_true rfl) ?_
                replace F := F (ty_hoPool Wκ1 h4)
                refine k_X3_65 Wκ1 dX3_enter_119 rfl (Nat.le_of_ble_eq_true rfl) (Nat.le_of_ble_eq_true rfl)  F (fun r8 κ7 Wκ7 Mκ7 g9 F => ?_) (fun _ _ h9 => False.elim h9)
                replace F := F Wκ7 Mκ7 g9
                have b11 := F.1
                replace F := F.2
                have h12 := (ztm Wκ1 Mκ7 h4)
                refine pf_X3_28 Wκ7 dX3_enter_122 rfl (Or.inl h12) g9 (fun κ10 eκ10 => ?_)
                replace F := F κ10 eκ10
                have Wκ10 : zW C n0 κ10 := zW_uo Wκ7 eκ10 (fun t ht => by cases ht; exact g9) b11
                have Mκ10 : zM (zn κ7) κ7 κ10 := by rw [eκ10]; exact zM.of rfl rfl rfl
                replace F := F Wκ10
                have h13 := (ztm Wκ7 Mκ10 h12)
                have h14 := (ztm Wκ7 Mκ10 (ztm Wκ1 Mκ7 (ztm W Mκ1 Ta1)))
                exact y_k (t_Ho_enter_125  Wκ10 h13 h14 F) ⟨rfl, rfl, rfl, rfl, rfl, trivial⟩
            · replace F := F.2 c9
              refine y_ic dX3_enter_71 zi_m1 ?_
              exact y_ri Wκ1 dX3_enter_72 rfl in_nar F
      · replace F := F.2 c9
        refine y_aln dX3_enter_34 rfl ?_
        refine gf_X3_25 Wκ1 dX3_enter_35 rfl h4 ?_
        refine y_il dX3_enter_38 rfl ?_
        refine y_ald dX3_enter_40 (ty_hoTable Wκ1 h4) F.1 ?_
        replace F := F.2
        refine y_ic dX3_enter_41 zi_1 ?_
        refine y_isub dX3_enter_42 ?_
        exact y_ri Wκ1 dX3_enter_43 rfl in_nar F
    · replace F := F.2 c9
      refine y_ic dX3_enter_14 zi_m1 ?_
      exact y_ri W dX3_enter_15 rfl in_nar F

theorem Ho_enter_run {C : zC} {n0 : Nat} {Q : Int32 → zS → Prop} {a0 : Nat} {a1 : Nat} {a2 : Int32} {a3 : Int32} {κ : zS} (W : zW C n0 κ) (Ta0 : zT κ a0 = 6) (Ta1 : zT κ a1 = 20) (F : w_Ho_enter_0 C (zn κ) Q a0 a1 a2 a3 κ) : zRun C 2 mHo_enter [.ref a0, .ref a1, .int a2, .int a3] κ (oI Q noX) := z_run (m_ent _ 2) (t_Ho_enter_0 (W.lo (Nat.le_trans W.1.2.1 W.1.2.2) (Nat.le_refl _)) Ta0 Ta1 F)

theorem dX0_lead_0 : decode cX0_lead 0 = .ok (.aload_n 0, 1) := by decide +kernel
theorem dX0_lead_1 : decode cX0_lead 1 = .ok (.getfield 9, 3) := by decide +kernel
theorem dX0_lead_4 : decode cX0_lead 4 = .ok (.getfield 147, 3) := by decide +kernel
theorem dX0_lead_7 : decode cX0_lead 7 = .ok (.istore 4, 2) := by decide +kernel
theorem dX0_lead_9 : decode cX0_lead 9 = .ok (.iconst 0, 1) := by decide +kernel
theorem dX0_lead_10 : decode cX0_lead 10 = .ok (.istore 5, 2) := by decide +kernel
theorem dX0_lead_12 : decode cX0_lead 12 = .ok (.iload 4, 2) := by decide +kernel
theorem dX0_lead_14 : decode cX0_lead 14 = .ok (.ifCond .ne 30, 3) := by decide +kernel
theorem dX0_lead_17 : decode cX0_lead 17 = .ok (.aload_n 0, 1) := by decide +kernel
theorem dX0_lead_18 : decode cX0_lead 18 = .ok (.getfield 33, 3) := by decide +kernel
theorem dX0_lead_21 : decode cX0_lead 21 = .ok (.aload_n 0, 1) := by decide +kernel
theorem dX0_lead_22 : decode cX0_lead 22 = .ok (.getfield 9, 3) := by decide +kernel
theorem dX0_lead_25 : decode cX0_lead 25 = .ok (.getfield 125, 3) := by decide +kernel
theorem dX0_lead_28 : decode cX0_lead 28 = .ok (.aload_n 0, 1) := by decide +kernel
theorem dX0_lead_29 : decode cX0_lead 29 = .ok (.getfield 9, 3) := by decide +kernel
theorem dX0_lead_32 : decode cX0_lead 32 = .ok (.invokevirtual 128, 3) := by decide +kernel
theorem dX0_lead_35 : decode cX0_lead 35 = .ok (.iload_n 3, 1) := by decide +kernel
theorem dX0_lead_36 : decode cX0_lead 36 = .ok (.invokevirtual 152, 3) := by decide +kernel
theorem dX0_lead_39 : decode cX0_lead 39 = .ok (.istore 5, 2) := by decide +kernel
theorem dX0_lead_41 : decode cX0_lead 41 = .ok (.goto 77, 3) := by decide +kernel
theorem dX0_lead_44 : decode cX0_lead 44 = .ok (.iload 4, 2) := by decide +kernel
theorem dX0_lead_46 : decode cX0_lead 46 = .ok (.iconst 1, 1) := by decide +kernel
theorem dX0_lead_47 : decode cX0_lead 47 = .ok (.if_icmp .ne 56, 3) := by decide +kernel
theorem dX0_lead_50 : decode cX0_lead 50 = .ok (.aload_n 0, 1) := by decide +kernel
theorem dX0_lead_51 : decode cX0_lead 51 = .ok (.getfield 9, 3) := by decide +kernel
theorem dX0_lead_54 : decode cX0_lead 54 = .ok (.getfield 125, 3) := by decide +kernel
theorem dX0_lead_57 : decode cX0_lead 57 = .ok (.aload_n 0, 1) := by decide +kernel
theorem dX0_lead_58 : decode cX0_lead 58 = .ok (.getfield 9, 3) := by decide +kernel
theorem dX0_lead_61 : decode cX0_lead 61 = .ok (.getfield 150, 3) := by decide +kernel
theorem dX0_lead_64 : decode cX0_lead 64 = .ok (.aload_n 0, 1) := by decide +kernel
theorem dX0_lead_65 : decode cX0_lead 65 = .ok (.getfield 9, 3) := by decide +kernel
theorem dX0_lead_68 : decode cX0_lead 68 = .ok (.getfield 186, 3) := by decide +kernel
theorem dX0_lead_71 : decode cX0_lead 71 = .ok (.iastore, 1) := by decide +kernel
theorem dX0_lead_72 : decode cX0_lead 72 = .ok (.aload_n 0, 1) := by decide +kernel
theorem dX0_lead_73 : decode cX0_lead 73 = .ok (.getfield 37, 3) := by decide +kernel
theorem dX0_lead_76 : decode cX0_lead 76 = .ok (.aload_n 0, 1) := by decide +kernel
theorem dX0_lead_77 : decode cX0_lead 77 = .ok (.getfield 9, 3) := by decide +kernel
theorem dX0_lead_80 : decode cX0_lead 80 = .ok (.getfield 125, 3) := by decide +kernel
theorem dX0_lead_83 : decode cX0_lead 83 = .ok (.aload_n 0, 1) := by decide +kernel
theorem dX0_lead_84 : decode cX0_lead 84 = .ok (.getfield 9, 3) := by decide +kernel
theorem dX0_lead_87 : decode cX0_lead 87 = .ok (.getfield 150, 3) := by decide +kernel
theorem dX0_lead_90 : decode cX0_lead 90 = .ok (.iconst 1, 1) := by decide +kernel
theorem dX0_lead_91 : decode cX0_lead 91 = .ok (.iadd, 1) := by decide +kernel
theorem dX0_lead_92 : decode cX0_lead 92 = .ok (.sipush 1000, 3) := by decide +kernel
theorem dX0_lead_95 : decode cX0_lead 95 = .ok (.invokevirtual 152, 3) := by decide +kernel
theorem dX0_lead_98 : decode cX0_lead 98 = .ok (.istore 5, 2) := by decide +kernel
theorem dX0_lead_100 : decode cX0_lead 100 = .ok (.goto 18, 3) := by decide +kernel
theorem dX0_lead_103 : decode cX0_lead 103 = .ok (.iload 4, 2) := by decide +kernel
theorem dX0_lead_105 : decode cX0_lead 105 = .ok (.iconst 2, 1) := by decide +kernel
theorem dX0_lead_106 : decode cX0_lead 106 = .ok (.if_icmp .ne 12, 3) := by decide +kernel
theorem dX0_lead_109 : decode cX0_lead 109 = .ok (.aload_n 0, 1) := by decide +kernel
theorem dX0_lead_110 : decode cX0_lead 110 = .ok (.getfield 9, 3) := by decide +kernel
theorem dX0_lead_113 : decode cX0_lead 113 = .ok (.getfield 189, 3) := by decide +kernel
theorem dX0_lead_116 : decode cX0_lead 116 = .ok (.istore 5, 2) := by decide +kernel
theorem dX0_lead_118 : decode cX0_lead 118 = .ok (.iload 5, 2) := by decide +kernel
theorem dX0_lead_120 : decode cX0_lead 120 = .ok (.iconst (-1), 1) := by decide +kernel
theorem dX0_lead_121 : decode cX0_lead 121 = .ok (.if_icmp .ne 5, 3) := by decide +kernel
theorem dX0_lead_124 : decode cX0_lead 124 = .ok (.iconst 0, 1) := by decide +kernel
theorem dX0_lead_125 : decode cX0_lead 125 = .ok (.ireturn, 1) := by decide +kernel
theorem dX0_lead_126 : decode cX0_lead 126 = .ok (.aload_n 0, 1) := by decide +kernel
theorem dX0_lead_127 : decode cX0_lead 127 = .ok (.getfield 40, 3) := by decide +kernel
theorem dX0_lead_130 : decode cX0_lead 130 = .ok (.iload_n 1, 1) := by decide +kernel
theorem dX0_lead_131 : decode cX0_lead 131 = .ok (.iaload, 1) := by decide +kernel
theorem dX0_lead_132 : decode cX0_lead 132 = .ok (.istore 6, 2) := by decide +kernel
theorem dX0_lead_134 : decode cX0_lead 134 = .ok (.iload 6, 2) := by decide +kernel
theorem dX0_lead_136 : decode cX0_lead 136 = .ok (.aload_n 0, 1) := by decide +kernel
theorem dX0_lead_137 : decode cX0_lead 137 = .ok (.getfield 78, 3) := by decide +kernel
theorem dX0_lead_140 : decode cX0_lead 140 = .ok (.if_icmp .ge 55, 3) := by decide +kernel
theorem dX0_lead_143 : decode cX0_lead 143 = .ok (.aload_n 0, 1) := by decide +kernel
theorem dX0_lead_144 : decode cX0_lead 144 = .ok (.getfield 53, 3) := by decide +kernel
theorem dX0_lead_147 : decode cX0_lead 147 = .ok (.iload_n 1, 1) := by decide +kernel
theorem dX0_lead_148 : decode cX0_lead 148 = .ok (.baload, 1) := by decide +kernel
theorem dX0_lead_149 : decode cX0_lead 149 = .ok (.ifCond .ne 46, 3) := by decide +kernel
theorem dX0_lead_152 : decode cX0_lead 152 = .ok (.aload_n 0, 1) := by decide +kernel
theorem dX0_lead_153 : decode cX0_lead 153 = .ok (.getfield 60, 3) := by decide +kernel
theorem dX0_lead_156 : decode cX0_lead 156 = .ok (.iload 6, 2) := by decide +kernel
theorem dX0_lead_158 : decode cX0_lead 158 = .ok (.iaload, 1) := by decide +kernel
theorem dX0_lead_159 : decode cX0_lead 159 = .ok (.iload 4, 2) := by decide +kernel
theorem dX0_lead_161 : decode cX0_lead 161 = .ok (.if_icmp .ne 28, 3) := by decide +kernel
theorem dX0_lead_164 : decode cX0_lead 164 = .ok (.aload_n 0, 1) := by decide +kernel
theorem dX0_lead_165 : decode cX0_lead 165 = .ok (.getfield 63, 3) := by decide +kernel
theorem dX0_lead_168 : decode cX0_lead 168 = .ok (.iload 6, 2) := by decide +kernel
theorem dX0_lead_170 : decode cX0_lead 170 = .ok (.iaload, 1) := by decide +kernel
theorem dX0_lead_171 : decode cX0_lead 171 = .ok (.iload 5, 2) := by decide +kernel
theorem dX0_lead_173 : decode cX0_lead 173 = .ok (.if_icmp .ne 16, 3) := by decide +kernel
theorem dX0_lead_176 : decode cX0_lead 176 = .ok (.aload_n 0, 1) := by decide +kernel
theorem dX0_lead_177 : decode cX0_lead 177 = .ok (.getfield 66, 3) := by decide +kernel
theorem dX0_lead_180 : decode cX0_lead 180 = .ok (.iload 6, 2) := by decide +kernel
theorem dX0_lead_182 : decode cX0_lead 182 = .ok (.dup2, 1) := by decide +kernel
theorem dX0_lead_183 : decode cX0_lead 183 = .ok (.iaload, 1) := by decide +kernel
theorem dX0_lead_184 : decode cX0_lead 184 = .ok (.iload_n 2, 1) := by decide +kernel
theorem dX0_lead_185 : decode cX0_lead 185 = .ok (.iadd, 1) := by decide +kernel
theorem dX0_lead_186 : decode cX0_lead 186 = .ok (.iastore, 1) := by decide +kernel
theorem dX0_lead_187 : decode cX0_lead 187 = .ok (.iconst 1, 1) := by decide +kernel
theorem dX0_lead_188 : decode cX0_lead 188 = .ok (.ireturn, 1) := by decide +kernel
theorem dX0_lead_189 : decode cX0_lead 189 = .ok (.iinc 6 1, 3) := by decide +kernel
theorem dX0_lead_192 : decode cX0_lead 192 = .ok (.goto (-58), 3) := by decide +kernel
theorem dX0_lead_195 : decode cX0_lead 195 = .ok (.aload_n 0, 1) := by decide +kernel
theorem dX0_lead_196 : decode cX0_lead 196 = .ok (.iload 4, 2) := by decide +kernel
theorem dX0_lead_198 : decode cX0_lead 198 = .ok (.iload 5, 2) := by decide +kernel
theorem dX0_lead_200 : decode cX0_lead 200 = .ok (.iload_n 2, 1) := by decide +kernel
theorem dX0_lead_201 : decode cX0_lead 201 = .ok (.invokevirtual 192, 3) := by decide +kernel
theorem dX0_lead_204 : decode cX0_lead 204 = .ok (.ireturn, 1) := by decide +kernel
def w_At_lead_195 (C : zC) (n0 : Nat) (Q : Int32 → zS → Prop)  (a0 : Nat) (a2 : Int32) (a4 : Int32) (a5 : Int32) (κ : zS) : Prop :=
  ∀ _ : zT κ a0 = 3,
  zRun C 2 mAt_addNext [.ref a0, .int a4, .int a5, .int a2] κ (oI (fun r2 κ1 =>
    ∀ _ : zW C n0 κ1,
    ∀ _ : zM (zn κ) κ κ1,
    nb r2 ∧ Q r2 κ1) noX)
theorem t_At_lead_195 {C : zC} {n0 : Nat} {Q : Int32 → zS → Prop}   {a0 : Nat} {a2 : Int32} {a4 : Int32} {a5 : Int32} {κ : zS} (W : zW C n0 κ) (Ta0 : zT κ a0 = 3) (F : w_At_lead_195 C n0 Q  a0 a2 a4 a5 κ) : zG C n0 3 mAt_lead 195 [some (.ref a0), none, some (.int a2), none, some (.int a4), some (.int a5), none] [] κ (oI Q noX) := by
  unfold w_At_lead_195 at F
  refine y_aln dX0_lead_195 rfl ?_
  refine y_il dX0_lead_196 rfl ?_
  refine y_il dX0_lead_198 rfl ?_
  refine y_iln dX0_lead_200 rfl ?_
  replace F := F Ta0
  refine k_X0_192 W dX0_lead_201 rfl (Nat.le_of_ble_eq_true rfl) (Nat.le_of_ble_eq_true rfl) (Or.inl Ta0) F (fun r2 κ1 Wκ1 Mκ1 F => ?_) (fun _ _ h9 => False.elim h9)
  replace F := F Wκ1 Mκ1
  exact y_ri Wκ1 dX0_lead_204 rfl (nb_nar F.1) F.2

def w_At_lead_134 (C : zC) (n0 : Nat) (Q : Int32 → zS → Prop)  (a0 : Nat) (a1 : Int32) (a2 : Int32) (a4 : Int32) (a5 : Int32) (a6 : Int32) (κ : zS) : Prop :=
  ∃ I : Nat → Nat → Int32 → Int32 → Int32 → Int32 → Int32 → zS → Prop, (∃ n, I n a0 a1 a2 a4 a5 a6 κ) ∧ ∀ n a0 a1 a2 a4 a5 a6 κ, zW C n0 κ → zT κ a0 = 3 → I n a0 a1 a2 a4 a5 a6 κ →
    ((zI κ atNexts a0) ≤ a6 →
      w_At_lead_195 C n0 Q  a0 a2 a4 a5 κ) ∧
    (¬ (zI κ atNexts a0) ≤ a6 →
      inb a1 (zN κ (zR κ atChooses a0)) ∧
      (¬ (zA κ (zR κ atChooses a0) (a1).toNatClampNeg) = (0 : Int32) →
        w_At_lead_195 C n0 Q  a0 a2 a4 a5 κ) ∧
      ((zA κ (zR κ atChooses a0) (a1).toNatClampNeg) = (0 : Int32) →
        inb a6 (zN κ (zR κ atSorts a0)) ∧
        (¬ (zA κ (zR κ atSorts a0) (a6).toNatClampNeg) = a4 →
          ∀ v6_1 : Int32, v6_1 = a6 + (1 : Int32) →
          ∃ k < n, I k a0 a1 a2 a4 a5 v6_1 κ) ∧
        ((zA κ (zR κ atSorts a0) (a6).toNatClampNeg) = a4 →
          inb a6 (zN κ (zR κ atNumbers a0)) ∧
          (¬ (zA κ (zR κ atNumbers a0) (a6).toNatClampNeg) = a5 →
            ∀ v6_2 : Int32, v6_2 = a6 + (1 : Int32) →
            ∃ k < n, I k a0 a1 a2 a4 a5 v6_2 κ) ∧
          ((zA κ (zR κ atNumbers a0) (a6).toNatClampNeg) = a5 →
            inb a6 (zN κ (zR κ atWeights a0)) ∧
            inb a6 (zN κ (zR κ atWeights a0)) ∧
            ∀ κ3, κ3 = ua κ (zR κ atWeights a0) (a6).toNatClampNeg ((zA κ (zR κ atWeights a0) (a6).toNatClampNeg) + a2) →
            ∀ _ : zW C n0 κ3,
            Q (1 : Int32) κ3))))
theorem t_At_lead_134 {C : zC} {n0 : Nat} {Q : Int32 → zS → Prop}   {a0 : Nat} {a1 : Int32} {a2 : Int32} {a4 : Int32} {a5 : Int32} {a6 : Int32} {κ : zS} (W : zW C n0 κ) (Ta0 : zT κ a0 = 3) (F : w_At_lead_134 C n0 Q  a0 a1 a2 a4 a5 a6 κ) : zG C n0 3 mAt_lead 134 [some (.ref a0), some (.int a1), some (.int a2), none, some (.int a4), some (.int a5), some (.int a6)] [] κ (oI Q noX) := by
  obtain ⟨I, ⟨m0, hI0⟩, F0⟩ := F
  have key : ∀ n a0 a1 a2 a4 a5 a6 κ, zW C n0 κ → zT κ a0 = 3 → I n a0 a1 a2 a4 a5 a6 κ → zG C n0 3 mAt_lead 134 [some (.ref a0), some (.int a1), some (.int a2), none, some (.int a4), some (.int a5), some (.int a6)] [] κ (oI Q noX) := by
    intro n
    induction n using Nat.strongRecOn with
    | _ n ih =>
      intro a0 a1 a2 a4 a5 a6 κ W Ta0 hI
      have F := F0 n a0 a1 a2 a4 a5 a6 κ W Ta0 hI
      clear hI hI0
      refine y_il dX0_lead_134 rfl ?_
      refine y_aln dX0_lead_136 rfl ?_
      refine gf_X0_78 dX0_lead_137 rfl (Or.inl Ta0) ?_
      refine y_ii ((zI κ atNexts a0) ≤ a6) dX0_lead_140 (t := 195) rfl rfl (fun c9 => ?_) (fun c9 => ?_)
      · replace F := F.1 c9
        exact y_k (t_At_lead_195  W Ta0 F) ⟨rfl, rfl, rfl, rfl, trivial⟩
      · replace F := F.2 c9
        refine y_aln dX0_lead_143 rfl ?_
        refine gf_X0_53 W dX0_lead_144 rfl Ta0 ?_
        refine y_iln dX0_lead_147 rfl ?_
        refine y_zld dX0_lead_148 (ty_atChooses W Ta0) F.1 ?_
        replace F := F.2
        refine y_in ((zA κ (zR κ atChooses a0) (a1).toNatClampNeg) = (0 : Int32)) dX0_lead_149 (t := 195) rfl rfl (fun c9 => ?_) (fun c9 => ?_)
        · replace F := F.1 c9
          exact y_k (t_At_lead_195  W Ta0 F) ⟨rfl, rfl, rfl, rfl, trivial⟩
        · replace F := F.2 c9
          refine y_aln dX0_lead_152 rfl ?_
          refine gf_X0_60 W dX0_lead_153 rfl Ta0 ?_
          refine y_il dX0_lead_156 rfl ?_
          refine y_ald dX0_lead_158 (ty_atSorts W Ta0) F.1 ?_
          replace F := F.2
          refine y_il dX0_lead_159 rfl ?_
          refine y_iin ((zA κ (zR κ atSorts a0) (a6).toNatClampNeg) = a4) dX0_lead_161 (t := 189) rfl rfl (fun c9 => ?_) (fun c9 => ?_)
          · replace F := F.1 c9
            refine y_incb dX0_lead_189 zi_1 rfl (Nat.le_of_ble_eq_true rfl) (fun v6_1 ev6_1 => ?_)
            replace F := F v6_1 ev6_1
            refine y_goto dX0_lead_192 (t := 134) rfl ?_
            obtain ⟨k, hk, hI⟩ := F
            exact y_k (ih k hk _ _ _ _ _ _ _ W Ta0 hI) ⟨rfl, rfl, rfl, rfl, rfl, rfl, trivial⟩
          · replace F := F.2 c9
            refine y_aln dX0_lead_164 rfl ?_
            refine gf_X0_63 W dX0_lead_165 rfl Ta0 ?_
            refine y_il dX0_lead_168 rfl ?_
            refine y_ald dX0_lead_170 (ty_atNumbers W Ta0) F.1 ?_
            replace F := F.2
            refine y_il dX0_lead_171 rfl ?_
            refine y_iin ((zA κ (zR κ atNumbers a0) (a6).toNatClampNeg) = a5) dX0_lead_173 (t := 189) rfl rfl (fun c9 => ?_) (fun c9 => ?_)
            · replace F := F.1 c9
              refine y_incb dX0_lead_189 zi_1 rfl (Nat.le_of_ble_eq_true rfl) (fun v6_2 ev6_2 => ?_)
              replace F := F v6_2 ev6_2
              refine y_goto dX0_lead_192 (t := 134) rfl ?_
              obtain ⟨k, hk, hI⟩ := F
              exact y_k (ih k hk _ _ _ _ _ _ _ W Ta0 hI) ⟨rfl, rfl, rfl, rfl, rfl, rfl, trivial⟩
            · replace F := F.2 c9
              refine y_aln dX0_lead_176 rfl ?_
              refine gf_X0_66 W dX0_lead_177 rfl Ta0 ?_
              refine y_il dX0_lead_180 rfl ?_
              refine y_dup2 dX0_lead_182 rfl rfl ?_
              refine y_ald dX0_lead_183 (ty_atWeights W Ta0) F.1 ?_
              replace F := F.2
              refine y_iln dX0_lead_184 rfl ?_
              refine y_iadd dX0_lead_185 ?_
              refine y_ast W dX0_lead_186 (ty_atWeights W Ta0) F.1 (fun κ3 eκ3 => ?_)
              replace F := F.2 κ3 eκ3
              have Wκ3 : zW C n0 κ3 := zW_ua W eκ3 (fun h => absurd (h.symm.trans (ty_atWeights W Ta0)) (by decide)) (fun h => absurd (h.symm.trans (ty_atWeights W Ta0)) (by decide))
              have Mκ3 : zM (zn κ) κ κ3 := by rw [eκ3]; exact zM.of rfl rfl rfl
              replace F := F Wκ3
              refine y_ic dX0_lead_187 zi_1 ?_
              exact y_ri Wκ3 dX0_lead_188 rfl (nb_nar nb_1) F
  exact key m0 a0 a1 a2 a4 a5 a6 κ W Ta0 hI0

def w_At_lead_118 (C : zC) (n0 : Nat) (Q : Int32 → zS → Prop)  (a0 : Nat) (a1 : Int32) (a2 : Int32) (a4 : Int32) (a5 : Int32) (κ : zS) : Prop :=
  (¬ a5 = (-1 : Int32) →
    inb a1 (zN κ (zR κ atFirsts a0)) ∧
    ∀ v6_1 : Int32, v6_1 = (zA κ (zR κ atFirsts a0) (a1).toNatClampNeg) →
    w_At_lead_134 C n0 Q  a0 a1 a2 a4 a5 v6_1 κ) ∧
  (a5 = (-1 : Int32) →
    Q (0 : Int32) κ)
theorem t_At_lead_118 {C : zC} {n0 : Nat} {Q : Int32 → zS → Prop}   {a0 : Nat} {a1 : Int32} {a2 : Int32} {a4 : Int32} {a5 : Int32} {κ : zS} (W : zW C n0 κ) (Ta0 : zT κ a0 = 3) (F : w_At_lead_118 C n0 Q  a0 a1 a2 a4 a5 κ) : zG C n0 3 mAt_lead 118 [some (.ref a0), some (.int a1), some (.int a2), none, some (.int a4), some (.int a5), none] [] κ (oI Q noX) := by
  unfold w_At_lead_118 at F
  refine y_il dX0_lead_118 rfl ?_
  refine y_ic dX0_lead_120 zi_m1 ?_
  refine y_iin (a5 = (-1 : Int32)) dX0_lead_121 (t := 126) rfl rfl (fun c9 => ?_) (fun c9 => ?_)
  · replace F := F.1 c9
    refine y_aln dX0_lead_126 rfl ?_
    refine gf_X0_40 W dX0_lead_127 rfl Ta0 ?_
    refine y_iln dX0_lead_130 rfl ?_
    refine y_ald dX0_lead_131 (ty_atFirsts W Ta0) F.1 ?_
    replace F := F.2
    refine y_isb dX0_lead_132 (Nat.le_of_ble_eq_true rfl) (fun v6_1 ev6_1 => ?_)
    replace F := F v6_1 ev6_1
    exact y_k (t_At_lead_134  W Ta0 F) ⟨rfl, rfl, rfl, rfl, rfl, rfl, trivial⟩
  · replace F := F.2 c9
    refine y_ic dX0_lead_124 zi_0 ?_
    exact y_ri W dX0_lead_125 rfl (nb_nar nb_0) F

def w_At_lead_0 (C : zC) (n0 : Nat) (Q : Int32 → zS → Prop)  (a0 : Nat) (a1 : Int32) (a2 : Int32) (a3 : Int32) (κ : zS) : Prop :=
  ∀ v4_1 : Int32, v4_1 = (zI κ maOutcome (zR κ atMachine a0)) →
  (¬ v4_1 = (0 : Int32) →
    (¬ v4_1 = (1 : Int32) →
      (¬ v4_1 = (2 : Int32) →
        w_At_lead_118 C n0 Q  a0 a1 a2 v4_1 (0 : Int32) κ) ∧
      (v4_1 = (2 : Int32) →
        ∀ v5_2 : Int32, v5_2 = (zI κ maFailure (zR κ atMachine a0)) →
        w_At_lead_118 C n0 Q  a0 a1 a2 v4_1 v5_2 κ)) ∧
    (v4_1 = (1 : Int32) →
      inb (zI κ maShared (zR κ atMachine a0)) (zN κ (zR κ maMemory (zR κ atMachine a0))) ∧
      ∀ κ3, κ3 = ua κ (zR κ maMemory (zR κ atMachine a0)) ((zI κ maShared (zR κ atMachine a0))).toNatClampNeg (zI κ maNumber (zR κ atMachine a0)) →
      ∀ _ : zW C n0 κ3,
      ∀ _ : zT κ3 (zR κ3 atEndings a0) = 6,
      ∀ _ : zT κ3 (zR κ3 maMemory (zR κ3 atMachine a0)) = 20,
      zRun C 2 mHo_enter [.ref (zR κ3 atEndings a0), .ref (zR κ3 maMemory (zR κ3 atMachine a0)), .int ((zI κ3 maShared (zR κ3 atMachine a0)) + (1 : Int32)), .int (1000 : Int32)] κ3 (oI (fun r6 κ5 =>
        ∀ _ : zW C n0 κ5,
        ∀ _ : zM (zn κ3) κ3 κ5,
        w_At_lead_118 C n0 Q  a0 a1 a2 v4_1 r6 κ5) noX))) ∧
  (v4_1 = (0 : Int32) →
    ∀ _ : zT κ (zR κ atMachine a0) = 7,
    zRun C 0 mMa_length [.ref (zR κ atMachine a0)] κ (oI (fun r10 κ9 =>
      ∀ _ : zW C n0 κ9,
      ∀ _ : zM (zn κ) κ κ9,
      ∀ _ : zT κ9 (zR κ atStates a0) = 6,
      ∀ _ : zT κ9 (zR κ maMemory (zR κ atMachine a0)) = 20,
      zRun C 2 mHo_enter [.ref (zR κ atStates a0), .ref (zR κ maMemory (zR κ atMachine a0)), .int r10, .int a3] κ9 (oI (fun r13 κ12 =>
        ∀ _ : zW C n0 κ12,
        ∀ _ : zM (zn κ9) κ9 κ12,
        w_At_lead_118 C n0 Q  a0 a1 a2 v4_1 r13 κ12) noX)) noX))
theorem t_At_lead_0 {C : zC} {n0 : Nat} {Q : Int32 → zS → Prop}   {a0 : Nat} {a1 : Int32} {a2 : Int32} {a3 : Int32} {κ : zS} (W : zW C n0 κ) (Ta0 : zT κ a0 = 3) (F : w_At_lead_0 C n0 Q  a0 a1 a2 a3 κ) : zG C n0 3 mAt_lead 0 [some (.ref a0), some (.int a1), some (.int a2), some (.int a3), none, none, none] [] κ (oI Q noX) := by
  unfold w_At_lead_0 at F
  refine y_aln dX0_lead_0 rfl ?_
  refine gf_X0_9 W dX0_lead_1 rfl Ta0 ?_
  refine gf_X0_147 dX0_lead_4 rfl (Or.inl (ty_atMachine W Ta0)) ?_
  refine y_isb dX0_lead_7 (Nat.le_of_ble_eq_true rfl) (fun v4_1 ev4_1 => ?_)
  replace F := F v4_1 ev4_1
  refine y_ic dX0_lead_9 zi_0 ?_
  refine y_is dX0_lead_10 (Nat.le_of_ble_eq_true rfl) rfl ?_
  refine y_il dX0_lead_12 rfl ?_
  refine y_in (v4_1 = (0 : Int32)) dX0_lead_14 (t := 44) rfl rfl (fun c9 => ?_) (fun c9 => ?_)
  · replace F := F.1 c9
    refine y_il dX0_lead_44 rfl ?_
    refine y_ic dX0_lead_46 zi_1 ?_
    refine y_iin (v4_1 = (1 : Int32)) dX0_lead_47 (t := 103) rfl rfl (fun c9 => ?_) (fun c9 => ?_)
    · replace F := F.1 c9
      refine y_il dX0_lead_103 rfl ?_
      refine y_ic dX0_lead_105 zi_2 ?_
      refine y_iin (v4_1 = (2 : Int32)) dX0_lead_106 (t := 118) rfl rfl (fun c9 => ?_) (fun c9 => ?_)
      · replace F := F.1 c9
        exact y_k (t_At_lead_118  W Ta0 F) ⟨rfl, rfl, rfl, rfl, rfl, trivial⟩
      · replace F := F.2 c9
        refine y_aln dX0_lead_109 rfl ?_
        refine gf_X0_9 W dX0_lead_110 rfl Ta0 ?_
        refine gf_X0_189 dX0_lead_113 rfl (Or.inl (ty_atMachine W Ta0)) ?_
        refine y_isb dX0_lead_116 (Nat.le_of_ble_eq_true rfl) (fun v5_2 ev5_2 => ?_)
        replace F := F v5_2 ev5_2
        exact y_k (t_At_lead_118  W Ta0 F) ⟨rfl, rfl, rfl, rfl, rfl, trivial⟩
    · replace F := F.2 c9
      refine y_aln dX0_lead_50 rfl ?_
      refine gf_X0_9 W dX0_lead_51 rfl Ta0 ?_
      refine gf_X0_125 W dX0_lead_54 rfl (ty_atMachine W Ta0) ?_
      refine y_aln dX0_lead_57 rfl ?_
      refine gf_X0_9 W dX0_lead_58 rfl Ta0 ?_
      refine gf_X0_150 dX0_lead_61 rfl (Or.inl (ty_atMachine W Ta0)) ?_
      refine y_aln dX0_lead_64 rfl ?_
      refine gf_X0_9 W dX0_lead_65 rfl Ta0 ?_
      refine gf_X0_186 dX0_lead_68 rfl (Or.inl (ty_atMachine W Ta0)) ?_
      refine y_ast W dX0_lead_71 (ty_maMemory W (ty_atMachine W Ta0)) F.1 (fun κ3 eκ3 => ?_)
      replace F := F.2 κ3 eκ3
      have Wκ3 : zW C n0 κ3 := zW_ua W eκ3 (fun h => absurd (h.symm.trans (ty_maMemory W (ty_atMachine W Ta0))) (by decide)) (fun h => absurd (h.symm.trans (ty_maMemory W (ty_atMachine W Ta0))) (by decide))
      have Mκ3 : zM (zn κ) κ κ3 := by rw [eκ3]; exact zM.of rfl rfl rfl
      replace F := F Wκ3
      refine y_aln dX0_lead_72 rfl ?_
      have h4 := (ztm W Mκ3 Ta0)
      refine gf_X0_37 Wκ3 dX0_lead_73 rfl h4 ?_
      refine y_aln dX0_lead_76 rfl ?_
      refine gf_X0_9 Wκ3 dX0_lead_77 rfl h4 ?_
      refine gf_X0_125 Wκ3 dX0_lead_80 rfl (ty_atMachine Wκ3 h4) ?_
      refine y_aln dX0_lead_83 rfl ?_
      refine gf_X0_9 Wκ3 dX0_lead_84 rfl h4 ?_
      refine gf_X0_150 dX0_lead_87 rfl (Or.inl (ty_atMachine Wκ3 h4)) ?_
      refine y_ic dX0_lead_90 zi_1 ?_
      refine y_iadd dX0_lead_91 ?_
      refine y_si dX0_lead_92 zs_1000 ?_
      replace F := F (ty_atEndings Wκ3 h4)
      replace F := F (ty_maMemory Wκ3 (ty_atMachine Wκ3 h4))
      refine k_X0_152 Wκ3 dX0_lead_95 rfl (Nat.le_of_ble_eq_true rfl) (Nat.le_of_ble_eq_true rfl) (Or.inl (ty_atEndings Wκ3 h4)) F (fun r6 κ5 Wκ5 Mκ5 F => ?_) (fun _ _ h9 => False.elim h9)
      replace F := F Wκ5 Mκ5
      refine y_is dX0_lead_98 (Nat.le_of_ble_eq_true rfl) rfl ?_
      refine y_goto dX0_lead_100 (t := 118) rfl ?_
      have h8 := (ztm Wκ3 Mκ5 h4)
      exact y_k (t_At_lead_118  Wκ5 h8 F) ⟨rfl, rfl, rfl, rfl, rfl, trivial⟩
  · replace F := F.2 c9
    refine y_aln dX0_lead_17 rfl ?_
    refine gf_X0_33 W dX0_lead_18 rfl Ta0 ?_
    refine y_aln dX0_lead_21 rfl ?_
    refine gf_X0_9 W dX0_lead_22 rfl Ta0 ?_
    refine gf_X0_125 W dX0_lead_25 rfl (ty_atMachine W Ta0) ?_
    refine y_aln dX0_lead_28 rfl ?_
    refine gf_X0_9 W dX0_lead_29 rfl Ta0 ?_
    replace F := F (ty_atMachine W Ta0)
    refine k_X0_128 W dX0_lead_32 rfl (Nat.le_of_ble_eq_true rfl) (Nat.le_of_ble_eq_true rfl) (Or.inl (ty_atMachine W Ta0)) F (fun r10 κ9 Wκ9 Mκ9 F => ?_) (fun _ _ h9 => False.elim h9)
    replace F := F Wκ9 Mκ9
    refine y_iln dX0_lead_35 rfl ?_
    have h14 := (ztm W Mκ9 (ty_atStates W Ta0))
    replace F := F h14
    have h15 := (ztm W Mκ9 (ty_maMemory W (ty_atMachine W Ta0)))
    replace F := F h15
    refine k_X0_152 Wκ9 dX0_lead_36 rfl (Nat.le_of_ble_eq_true rfl) (Nat.le_of_ble_eq_true rfl) (Or.inl h14) F (fun r13 κ12 Wκ12 Mκ12 F => ?_) (fun _ _ h9 => False.elim h9)
    replace F := F Wκ12 Mκ12
    refine y_is dX0_lead_39 (Nat.le_of_ble_eq_true rfl) rfl ?_
    refine y_goto dX0_lead_41 (t := 118) rfl ?_
    have h17 := (ztm Wκ9 Mκ12 (ztm W Mκ9 Ta0))
    exact y_k (t_At_lead_118  Wκ12 h17 F) ⟨rfl, rfl, rfl, rfl, rfl, trivial⟩

theorem At_lead_run {C : zC} {n0 : Nat} {Q : Int32 → zS → Prop} {a0 : Nat} {a1 : Int32} {a2 : Int32} {a3 : Int32} {κ : zS} (W : zW C n0 κ) (Ta0 : zT κ a0 = 3) (F : w_At_lead_0 C (zn κ) Q a0 a1 a2 a3 κ) : zRun C 3 mAt_lead [.ref a0, .int a1, .int a2, .int a3] κ (oI Q noX) := z_run (m_ent _ 3) (t_At_lead_0 (W.lo (Nat.le_trans W.1.2.1 W.1.2.2) (Nat.le_refl _)) Ta0 F)

theorem dX4_cellAt_0 : decode cX4_cellAt 0 = .ok (.iload_n 1, 1) := by decide +kernel
theorem dX4_cellAt_1 : decode cX4_cellAt 1 = .ok (.ifCond .lt 29, 3) := by decide +kernel
theorem dX4_cellAt_4 : decode cX4_cellAt 4 = .ok (.iload_n 1, 1) := by decide +kernel
theorem dX4_cellAt_5 : decode cX4_cellAt 5 = .ok (.iconst 3, 1) := by decide +kernel
theorem dX4_cellAt_6 : decode cX4_cellAt 6 = .ok (.if_icmp .ge 24, 3) := by decide +kernel
theorem dX4_cellAt_9 : decode cX4_cellAt 9 = .ok (.iload_n 2, 1) := by decide +kernel
theorem dX4_cellAt_10 : decode cX4_cellAt 10 = .ok (.ifCond .lt 20, 3) := by decide +kernel
theorem dX4_cellAt_13 : decode cX4_cellAt 13 = .ok (.iload_n 2, 1) := by decide +kernel
theorem dX4_cellAt_14 : decode cX4_cellAt 14 = .ok (.aload_n 0, 1) := by decide +kernel
theorem dX4_cellAt_15 : decode cX4_cellAt 15 = .ok (.getfield 11, 3) := by decide +kernel
theorem dX4_cellAt_18 : decode cX4_cellAt 18 = .ok (.getfield 136, 3) := by decide +kernel
theorem dX4_cellAt_21 : decode cX4_cellAt 21 = .ok (.iload_n 1, 1) := by decide +kernel
theorem dX4_cellAt_22 : decode cX4_cellAt 22 = .ok (.iaload, 1) := by decide +kernel
theorem dX4_cellAt_23 : decode cX4_cellAt 23 = .ok (.if_icmp .ge 7, 3) := by decide +kernel
theorem dX4_cellAt_26 : decode cX4_cellAt 26 = .ok (.iconst 1, 1) := by decide +kernel
theorem dX4_cellAt_27 : decode cX4_cellAt 27 = .ok (.goto 4, 3) := by decide +kernel
theorem dX4_cellAt_30 : decode cX4_cellAt 30 = .ok (.iconst 0, 1) := by decide +kernel
theorem dX4_cellAt_31 : decode cX4_cellAt 31 = .ok (.istore_n 3, 1) := by decide +kernel
theorem dX4_cellAt_32 : decode cX4_cellAt 32 = .ok (.iload_n 3, 1) := by decide +kernel
theorem dX4_cellAt_33 : decode cX4_cellAt 33 = .ok (.ifCond .eq 25, 3) := by decide +kernel
theorem dX4_cellAt_36 : decode cX4_cellAt 36 = .ok (.aload_n 0, 1) := by decide +kernel
theorem dX4_cellAt_37 : decode cX4_cellAt 37 = .ok (.getfield 11, 3) := by decide +kernel
theorem dX4_cellAt_40 : decode cX4_cellAt 40 = .ok (.getfield 55, 3) := by decide +kernel
theorem dX4_cellAt_43 : decode cX4_cellAt 43 = .ok (.aload_n 0, 1) := by decide +kernel
theorem dX4_cellAt_44 : decode cX4_cellAt 44 = .ok (.getfield 11, 3) := by decide +kernel
theorem dX4_cellAt_47 : decode cX4_cellAt 47 = .ok (.getfield 139, 3) := by decide +kernel
theorem dX4_cellAt_50 : decode cX4_cellAt 50 = .ok (.iload_n 1, 1) := by decide +kernel
theorem dX4_cellAt_51 : decode cX4_cellAt 51 = .ok (.iaload, 1) := by decide +kernel
theorem dX4_cellAt_52 : decode cX4_cellAt 52 = .ok (.iadd, 1) := by decide +kernel
theorem dX4_cellAt_53 : decode cX4_cellAt 53 = .ok (.iload_n 2, 1) := by decide +kernel
theorem dX4_cellAt_54 : decode cX4_cellAt 54 = .ok (.iadd, 1) := by decide +kernel
theorem dX4_cellAt_55 : decode cX4_cellAt 55 = .ok (.goto 4, 3) := by decide +kernel
theorem dX4_cellAt_58 : decode cX4_cellAt 58 = .ok (.iconst (-1), 1) := by decide +kernel
theorem dX4_cellAt_59 : decode cX4_cellAt 59 = .ok (.ireturn, 1) := by decide +kernel
def w_Ma_cellAt_31 (C : zC) (n0 : Nat) (Q : Int32 → zS → Prop)  (a0 : Nat) (a1 : Int32) (a2 : Int32) (s0 : Int32) (κ : zS) : Prop :=
  (s0 = (0 : Int32) →
    Q (-1 : Int32) κ) ∧
  (¬ s0 = (0 : Int32) →
    inb a1 (zN κ (zR κ coArrayBases (zR κ maCode a0))) ∧
    Q (((zI κ coVars (zR κ maCode a0)) + (zA κ (zR κ coArrayBases (zR κ maCode a0)) (a1).toNatClampNeg)) + a2) κ)
theorem t_Ma_cellAt_31 {C : zC} {n0 : Nat} {Q : Int32 → zS → Prop}   {a0 : Nat} {a1 : Int32} {a2 : Int32} {s0 : Int32} {κ : zS} (W : zW C n0 κ) (Ta0 : zT κ a0 = 7) (F : w_Ma_cellAt_31 C n0 Q  a0 a1 a2 s0 κ) : zG C n0 0 mMa_cellAt 31 [some (.ref a0), some (.int a1), some (.int a2), none] [.int s0] κ (oI Q noX) := by
  unfold w_Ma_cellAt_31 at F
  refine y_isn dX4_cellAt_31 (Nat.le_of_ble_eq_true rfl) rfl ?_
  refine y_iln dX4_cellAt_32 rfl ?_
  refine y_i (s0 = (0 : Int32)) dX4_cellAt_33 (t := 58) rfl rfl (fun c9 => ?_) (fun c9 => ?_)
  · replace F := F.1 c9
    refine y_ic dX4_cellAt_58 zi_m1 ?_
    exact y_ri W dX4_cellAt_59 rfl in_nar F
  · replace F := F.2 c9
    refine y_aln dX4_cellAt_36 rfl ?_
    refine gf_X4_11 W dX4_cellAt_37 rfl Ta0 ?_
    refine gf_X4_55 dX4_cellAt_40 rfl (Or.inl (ty_maCode W Ta0)) ?_
    refine y_aln dX4_cellAt_43 rfl ?_
    refine gf_X4_11 W dX4_cellAt_44 rfl Ta0 ?_
    refine gf_X4_139 W dX4_cellAt_47 rfl (ty_maCode W Ta0) ?_
    refine y_iln dX4_cellAt_50 rfl ?_
    refine y_ald dX4_cellAt_51 (ty_coArrayBases W (ty_maCode W Ta0)) F.1 ?_
    replace F := F.2
    refine y_iadd dX4_cellAt_52 ?_
    refine y_iln dX4_cellAt_53 rfl ?_
    refine y_iadd dX4_cellAt_54 ?_
    refine y_goto dX4_cellAt_55 (t := 59) rfl ?_
    exact y_ri W dX4_cellAt_59 rfl in_nar F

def w_Ma_cellAt_0 (C : zC) (n0 : Nat) (Q : Int32 → zS → Prop)  (a0 : Nat) (a1 : Int32) (a2 : Int32) (κ : zS) : Prop :=
  (a1 < (0 : Int32) →
    w_Ma_cellAt_31 C n0 Q  a0 a1 a2 (0 : Int32) κ) ∧
  (¬ a1 < (0 : Int32) →
    ((3 : Int32) ≤ a1 →
      w_Ma_cellAt_31 C n0 Q  a0 a1 a2 (0 : Int32) κ) ∧
    (¬ (3 : Int32) ≤ a1 →
      (a2 < (0 : Int32) →
        w_Ma_cellAt_31 C n0 Q  a0 a1 a2 (0 : Int32) κ) ∧
      (¬ a2 < (0 : Int32) →
        inb a1 (zN κ (zR κ coArraySizes (zR κ maCode a0))) ∧
        ((zA κ (zR κ coArraySizes (zR κ maCode a0)) (a1).toNatClampNeg) ≤ a2 →
          w_Ma_cellAt_31 C n0 Q  a0 a1 a2 (0 : Int32) κ) ∧
        (¬ (zA κ (zR κ coArraySizes (zR κ maCode a0)) (a1).toNatClampNeg) ≤ a2 →
          w_Ma_cellAt_31 C n0 Q  a0 a1 a2 (1 : Int32) κ))))
theorem t_Ma_cellAt_0 {C : zC} {n0 : Nat} {Q : Int32 → zS → Prop}   {a0 : Nat} {a1 : Int32} {a2 : Int32} {κ : zS} (W : zW C n0 κ) (Ta0 : zT κ a0 = 7) (F : w_Ma_cellAt_0 C n0 Q  a0 a1 a2 κ) : zG C n0 0 mMa_cellAt 0 [some (.ref a0), some (.int a1), some (.int a2), none] [] κ (oI Q noX) := by
  unfold w_Ma_cellAt_0 at F
  refine y_iln dX4_cellAt_0 rfl ?_
  refine y_i (a1 < (0 : Int32)) dX4_cellAt_1 (t := 30) rfl rfl (fun c9 => ?_) (fun c9 => ?_)
  · replace F := F.1 c9
    refine y_ic dX4_cellAt_30 zi_0 ?_
    exact y_k (t_Ma_cellAt_31  W Ta0 F) ⟨rfl, rfl, rfl, trivial⟩
  · replace F := F.2 c9
    refine y_iln dX4_cellAt_4 rfl ?_
    refine y_ic dX4_cellAt_5 zi_3 ?_
    refine y_ii ((3 : Int32) ≤ a1) dX4_cellAt_6 (t := 30) rfl rfl (fun c9 => ?_) (fun c9 => ?_)
    · replace F := F.1 c9
      refine y_ic dX4_cellAt_30 zi_0 ?_
      exact y_k (t_Ma_cellAt_31  W Ta0 F) ⟨rfl, rfl, rfl, trivial⟩
    · replace F := F.2 c9
      refine y_iln dX4_cellAt_9 rfl ?_
      refine y_i (a2 < (0 : Int32)) dX4_cellAt_10 (t := 30) rfl rfl (fun c9 => ?_) (fun c9 => ?_)
      · replace F := F.1 c9
        refine y_ic dX4_cellAt_30 zi_0 ?_
        exact y_k (t_Ma_cellAt_31  W Ta0 F) ⟨rfl, rfl, rfl, trivial⟩
      · replace F := F.2 c9
        refine y_iln dX4_cellAt_13 rfl ?_
        refine y_aln dX4_cellAt_14 rfl ?_
        refine gf_X4_11 W dX4_cellAt_15 rfl Ta0 ?_
        refine gf_X4_136 W dX4_cellAt_18 rfl (ty_maCode W Ta0) ?_
        refine y_iln dX4_cellAt_21 rfl ?_
        refine y_ald dX4_cellAt_22 (ty_coArraySizes W (ty_maCode W Ta0)) F.1 ?_
        replace F := F.2
        refine y_ii ((zA κ (zR κ coArraySizes (zR κ maCode a0)) (a1).toNatClampNeg) ≤ a2) dX4_cellAt_23 (t := 30) rfl rfl (fun c9 => ?_) (fun c9 => ?_)
        · replace F := F.1 c9
          refine y_ic dX4_cellAt_30 zi_0 ?_
          exact y_k (t_Ma_cellAt_31  W Ta0 F) ⟨rfl, rfl, rfl, trivial⟩
        · replace F := F.2 c9
          refine y_ic dX4_cellAt_26 zi_1 ?_
          refine y_goto dX4_cellAt_27 (t := 31) rfl ?_
          exact y_k (t_Ma_cellAt_31  W Ta0 F) ⟨rfl, rfl, rfl, trivial⟩

theorem Ma_cellAt_run {C : zC} {n0 : Nat} {Q : Int32 → zS → Prop} {a0 : Nat} {a1 : Int32} {a2 : Int32} {κ : zS} (W : zW C n0 κ) (Ta0 : zT κ a0 = 7) (F : w_Ma_cellAt_0 C (zn κ) Q a0 a1 a2 κ) : zRun C 0 mMa_cellAt [.ref a0, .int a1, .int a2] κ (oI Q noX) := z_run (m_ent _ 1) (t_Ma_cellAt_0 (W.lo (Nat.le_trans W.1.2.1 W.1.2.2) (Nat.le_refl _)) Ta0 F)

theorem dX4_slot_0 : decode cX4_slot 0 = .ok (.iload_n 1, 1) := by decide +kernel
theorem dX4_slot_1 : decode cX4_slot 1 = .ok (.iconst 2, 1) := by decide +kernel
theorem dX4_slot_2 : decode cX4_slot 2 = .ok (.if_icmp .ne 14, 3) := by decide +kernel
theorem dX4_slot_5 : decode cX4_slot 5 = .ok (.aload_n 0, 1) := by decide +kernel
theorem dX4_slot_6 : decode cX4_slot 6 = .ok (.getfield 67, 3) := by decide +kernel
theorem dX4_slot_9 : decode cX4_slot 9 = .ok (.iconst 1, 1) := by decide +kernel
theorem dX4_slot_10 : decode cX4_slot 10 = .ok (.iadd, 1) := by decide +kernel
theorem dX4_slot_11 : decode cX4_slot 11 = .ok (.iload_n 2, 1) := by decide +kernel
theorem dX4_slot_12 : decode cX4_slot 12 = .ok (.iadd, 1) := by decide +kernel
theorem dX4_slot_13 : decode cX4_slot 13 = .ok (.goto 13, 3) := by decide +kernel
theorem dX4_slot_16 : decode cX4_slot 16 = .ok (.iload_n 1, 1) := by decide +kernel
theorem dX4_slot_17 : decode cX4_slot 17 = .ok (.iconst 1, 1) := by decide +kernel
theorem dX4_slot_18 : decode cX4_slot 18 = .ok (.if_icmp .ne 7, 3) := by decide +kernel
theorem dX4_slot_21 : decode cX4_slot 21 = .ok (.iload_n 2, 1) := by decide +kernel
theorem dX4_slot_22 : decode cX4_slot 22 = .ok (.goto 4, 3) := by decide +kernel
theorem dX4_slot_25 : decode cX4_slot 25 = .ok (.iconst (-1), 1) := by decide +kernel
theorem dX4_slot_26 : decode cX4_slot 26 = .ok (.ireturn, 1) := by decide +kernel
def w_Ma_slot_0 (C : zC) (n0 : Nat) (Q : Int32 → zS → Prop)  (a0 : Nat) (a1 : Int32) (a2 : Int32) (κ : zS) : Prop :=
  (¬ a1 = (2 : Int32) →
    (¬ a1 = (1 : Int32) →
      Q (-1 : Int32) κ) ∧
    (a1 = (1 : Int32) →
      Q a2 κ)) ∧
  (a1 = (2 : Int32) →
    Q (((zI κ maFrame a0) + (1 : Int32)) + a2) κ)
theorem t_Ma_slot_0 {C : zC} {n0 : Nat} {Q : Int32 → zS → Prop}   {a0 : Nat} {a1 : Int32} {a2 : Int32} {κ : zS} (W : zW C n0 κ) (Ta0 : zT κ a0 = 7) (F : w_Ma_slot_0 C n0 Q  a0 a1 a2 κ) : zG C n0 0 mMa_slot 0 [some (.ref a0), some (.int a1), some (.int a2)] [] κ (oI Q noX) := by
  unfold w_Ma_slot_0 at F
  refine y_iln dX4_slot_0 rfl ?_
  refine y_ic dX4_slot_1 zi_2 ?_
  refine y_iin (a1 = (2 : Int32)) dX4_slot_2 (t := 16) rfl rfl (fun c9 => ?_) (fun c9 => ?_)
  · replace F := F.1 c9
    refine y_iln dX4_slot_16 rfl ?_
    refine y_ic dX4_slot_17 zi_1 ?_
    refine y_iin (a1 = (1 : Int32)) dX4_slot_18 (t := 25) rfl rfl (fun c9 => ?_) (fun c9 => ?_)
    · replace F := F.1 c9
      refine y_ic dX4_slot_25 zi_m1 ?_
      exact y_ri W dX4_slot_26 rfl in_nar F
    · replace F := F.2 c9
      refine y_iln dX4_slot_21 rfl ?_
      refine y_goto dX4_slot_22 (t := 26) rfl ?_
      exact y_ri W dX4_slot_26 rfl in_nar F
  · replace F := F.2 c9
    refine y_aln dX4_slot_5 rfl ?_
    refine gf_X4_67 dX4_slot_6 rfl (Or.inl Ta0) ?_
    refine y_ic dX4_slot_9 zi_1 ?_
    refine y_iadd dX4_slot_10 ?_
    refine y_iln dX4_slot_11 rfl ?_
    refine y_iadd dX4_slot_12 ?_
    refine y_goto dX4_slot_13 (t := 26) rfl ?_
    exact y_ri W dX4_slot_26 rfl in_nar F

theorem Ma_slot_run {C : zC} {n0 : Nat} {Q : Int32 → zS → Prop} {a0 : Nat} {a1 : Int32} {a2 : Int32} {κ : zS} (W : zW C n0 κ) (Ta0 : zT κ a0 = 7) (F : w_Ma_slot_0 C (zn κ) Q a0 a1 a2 κ) : zRun C 0 mMa_slot [.ref a0, .int a1, .int a2] κ (oI Q noX) := z_run (m_ent _ 0) (t_Ma_slot_0 (W.lo (Nat.le_trans W.1.2.1 W.1.2.2) (Nat.le_refl _)) Ta0 F)

theorem dX4_combine_0 : decode cX4_combine 0 = .ok (.iload_n 0, 1) := by decide +kernel
theorem dX4_combine_1 : decode cX4_combine 1 = .ok (.tableswitch 181 7 18 #[63, 77, 91, 102, 113, 124, 135, 146, 157, 161, 165, 169], 63) := by decide +kernel
theorem dX4_combine_64 : decode cX4_combine 64 = .ok (.iload_n 1, 1) := by decide +kernel
theorem dX4_combine_65 : decode cX4_combine 65 = .ok (.ifCond .ne 7, 3) := by decide +kernel
theorem dX4_combine_68 : decode cX4_combine 68 = .ok (.iload_n 2, 1) := by decide +kernel
theorem dX4_combine_69 : decode cX4_combine 69 = .ok (.ifCond .eq 7, 3) := by decide +kernel
theorem dX4_combine_72 : decode cX4_combine 72 = .ok (.iconst 1, 1) := by decide +kernel
theorem dX4_combine_73 : decode cX4_combine 73 = .ok (.goto 4, 3) := by decide +kernel
theorem dX4_combine_76 : decode cX4_combine 76 = .ok (.iconst 0, 1) := by decide +kernel
theorem dX4_combine_77 : decode cX4_combine 77 = .ok (.ireturn, 1) := by decide +kernel
theorem dX4_combine_78 : decode cX4_combine 78 = .ok (.iload_n 1, 1) := by decide +kernel
theorem dX4_combine_79 : decode cX4_combine 79 = .ok (.ifCond .eq 11, 3) := by decide +kernel
theorem dX4_combine_82 : decode cX4_combine 82 = .ok (.iload_n 2, 1) := by decide +kernel
theorem dX4_combine_83 : decode cX4_combine 83 = .ok (.ifCond .eq 7, 3) := by decide +kernel
theorem dX4_combine_86 : decode cX4_combine 86 = .ok (.iconst 1, 1) := by decide +kernel
theorem dX4_combine_87 : decode cX4_combine 87 = .ok (.goto 4, 3) := by decide +kernel
theorem dX4_combine_90 : decode cX4_combine 90 = .ok (.iconst 0, 1) := by decide +kernel
theorem dX4_combine_91 : decode cX4_combine 91 = .ok (.ireturn, 1) := by decide +kernel
theorem dX4_combine_92 : decode cX4_combine 92 = .ok (.iload_n 1, 1) := by decide +kernel
theorem dX4_combine_93 : decode cX4_combine 93 = .ok (.iload_n 2, 1) := by decide +kernel
theorem dX4_combine_94 : decode cX4_combine 94 = .ok (.if_icmp .ne 7, 3) := by decide +kernel
theorem dX4_combine_97 : decode cX4_combine 97 = .ok (.iconst 1, 1) := by decide +kernel
theorem dX4_combine_98 : decode cX4_combine 98 = .ok (.goto 4, 3) := by decide +kernel
theorem dX4_combine_101 : decode cX4_combine 101 = .ok (.iconst 0, 1) := by decide +kernel
theorem dX4_combine_102 : decode cX4_combine 102 = .ok (.ireturn, 1) := by decide +kernel
theorem dX4_combine_103 : decode cX4_combine 103 = .ok (.iload_n 1, 1) := by decide +kernel
theorem dX4_combine_104 : decode cX4_combine 104 = .ok (.iload_n 2, 1) := by decide +kernel
theorem dX4_combine_105 : decode cX4_combine 105 = .ok (.if_icmp .eq 7, 3) := by decide +kernel
theorem dX4_combine_108 : decode cX4_combine 108 = .ok (.iconst 1, 1) := by decide +kernel
theorem dX4_combine_109 : decode cX4_combine 109 = .ok (.goto 4, 3) := by decide +kernel
theorem dX4_combine_112 : decode cX4_combine 112 = .ok (.iconst 0, 1) := by decide +kernel
theorem dX4_combine_113 : decode cX4_combine 113 = .ok (.ireturn, 1) := by decide +kernel
theorem dX4_combine_114 : decode cX4_combine 114 = .ok (.iload_n 1, 1) := by decide +kernel
theorem dX4_combine_115 : decode cX4_combine 115 = .ok (.iload_n 2, 1) := by decide +kernel
theorem dX4_combine_116 : decode cX4_combine 116 = .ok (.if_icmp .ge 7, 3) := by decide +kernel
theorem dX4_combine_119 : decode cX4_combine 119 = .ok (.iconst 1, 1) := by decide +kernel
theorem dX4_combine_120 : decode cX4_combine 120 = .ok (.goto 4, 3) := by decide +kernel
theorem dX4_combine_123 : decode cX4_combine 123 = .ok (.iconst 0, 1) := by decide +kernel
theorem dX4_combine_124 : decode cX4_combine 124 = .ok (.ireturn, 1) := by decide +kernel
theorem dX4_combine_125 : decode cX4_combine 125 = .ok (.iload_n 1, 1) := by decide +kernel
theorem dX4_combine_126 : decode cX4_combine 126 = .ok (.iload_n 2, 1) := by decide +kernel
theorem dX4_combine_127 : decode cX4_combine 127 = .ok (.if_icmp .gt 7, 3) := by decide +kernel
theorem dX4_combine_130 : decode cX4_combine 130 = .ok (.iconst 1, 1) := by decide +kernel
theorem dX4_combine_131 : decode cX4_combine 131 = .ok (.goto 4, 3) := by decide +kernel
theorem dX4_combine_134 : decode cX4_combine 134 = .ok (.iconst 0, 1) := by decide +kernel
theorem dX4_combine_135 : decode cX4_combine 135 = .ok (.ireturn, 1) := by decide +kernel
theorem dX4_combine_136 : decode cX4_combine 136 = .ok (.iload_n 1, 1) := by decide +kernel
theorem dX4_combine_137 : decode cX4_combine 137 = .ok (.iload_n 2, 1) := by decide +kernel
theorem dX4_combine_138 : decode cX4_combine 138 = .ok (.if_icmp .le 7, 3) := by decide +kernel
theorem dX4_combine_141 : decode cX4_combine 141 = .ok (.iconst 1, 1) := by decide +kernel
theorem dX4_combine_142 : decode cX4_combine 142 = .ok (.goto 4, 3) := by decide +kernel
theorem dX4_combine_145 : decode cX4_combine 145 = .ok (.iconst 0, 1) := by decide +kernel
theorem dX4_combine_146 : decode cX4_combine 146 = .ok (.ireturn, 1) := by decide +kernel
theorem dX4_combine_147 : decode cX4_combine 147 = .ok (.iload_n 1, 1) := by decide +kernel
theorem dX4_combine_148 : decode cX4_combine 148 = .ok (.iload_n 2, 1) := by decide +kernel
theorem dX4_combine_149 : decode cX4_combine 149 = .ok (.if_icmp .lt 7, 3) := by decide +kernel
theorem dX4_combine_152 : decode cX4_combine 152 = .ok (.iconst 1, 1) := by decide +kernel
theorem dX4_combine_153 : decode cX4_combine 153 = .ok (.goto 4, 3) := by decide +kernel
theorem dX4_combine_156 : decode cX4_combine 156 = .ok (.iconst 0, 1) := by decide +kernel
theorem dX4_combine_157 : decode cX4_combine 157 = .ok (.ireturn, 1) := by decide +kernel
theorem dX4_combine_158 : decode cX4_combine 158 = .ok (.iload_n 1, 1) := by decide +kernel
theorem dX4_combine_159 : decode cX4_combine 159 = .ok (.iload_n 2, 1) := by decide +kernel
theorem dX4_combine_160 : decode cX4_combine 160 = .ok (.iadd, 1) := by decide +kernel
theorem dX4_combine_161 : decode cX4_combine 161 = .ok (.ireturn, 1) := by decide +kernel
theorem dX4_combine_162 : decode cX4_combine 162 = .ok (.iload_n 1, 1) := by decide +kernel
theorem dX4_combine_163 : decode cX4_combine 163 = .ok (.iload_n 2, 1) := by decide +kernel
theorem dX4_combine_164 : decode cX4_combine 164 = .ok (.isub, 1) := by decide +kernel
theorem dX4_combine_165 : decode cX4_combine 165 = .ok (.ireturn, 1) := by decide +kernel
theorem dX4_combine_166 : decode cX4_combine 166 = .ok (.iload_n 1, 1) := by decide +kernel
theorem dX4_combine_167 : decode cX4_combine 167 = .ok (.iload_n 2, 1) := by decide +kernel
theorem dX4_combine_168 : decode cX4_combine 168 = .ok (.imul, 1) := by decide +kernel
theorem dX4_combine_169 : decode cX4_combine 169 = .ok (.ireturn, 1) := by decide +kernel
theorem dX4_combine_170 : decode cX4_combine 170 = .ok (.iload_n 2, 1) := by decide +kernel
theorem dX4_combine_171 : decode cX4_combine 171 = .ok (.ifCond .eq 9, 3) := by decide +kernel
theorem dX4_combine_174 : decode cX4_combine 174 = .ok (.iload_n 1, 1) := by decide +kernel
theorem dX4_combine_175 : decode cX4_combine 175 = .ok (.iload_n 2, 1) := by decide +kernel
theorem dX4_combine_176 : decode cX4_combine 176 = .ok (.idiv, 1) := by decide +kernel
theorem dX4_combine_177 : decode cX4_combine 177 = .ok (.goto 4, 3) := by decide +kernel
theorem dX4_combine_180 : decode cX4_combine 180 = .ok (.iconst 0, 1) := by decide +kernel
theorem dX4_combine_181 : decode cX4_combine 181 = .ok (.ireturn, 1) := by decide +kernel
theorem dX4_combine_182 : decode cX4_combine 182 = .ok (.iload_n 2, 1) := by decide +kernel
theorem dX4_combine_183 : decode cX4_combine 183 = .ok (.ifCond .eq 9, 3) := by decide +kernel
theorem dX4_combine_186 : decode cX4_combine 186 = .ok (.iload_n 1, 1) := by decide +kernel
theorem dX4_combine_187 : decode cX4_combine 187 = .ok (.iload_n 2, 1) := by decide +kernel
theorem dX4_combine_188 : decode cX4_combine 188 = .ok (.irem, 1) := by decide +kernel
theorem dX4_combine_189 : decode cX4_combine 189 = .ok (.goto 4, 3) := by decide +kernel
theorem dX4_combine_192 : decode cX4_combine 192 = .ok (.iconst 0, 1) := by decide +kernel
theorem dX4_combine_193 : decode cX4_combine 193 = .ok (.ireturn, 1) := by decide +kernel
def w_Ma_combine_0 (C : zC) (n0 : Nat) (Q : Int32 → zS → Prop)  (a0 : Int32) (a1 : Int32) (a2 : Int32) (κ : zS) : Prop :=
  ((a0).toInt < 7 ∨ 18 < (a0).toInt →
    (a2 = (0 : Int32) →
      Q (0 : Int32) κ) ∧
    (¬ a2 = (0 : Int32) →
      ¬ a2 = 0 ∧
      Q (a1 - a1 / a2 * a2) κ)) ∧
  ((a0).toInt = 7 →
    (¬ a1 = (0 : Int32) →
      Q (1 : Int32) κ) ∧
    (a1 = (0 : Int32) →
      (a2 = (0 : Int32) →
        Q (0 : Int32) κ) ∧
      (¬ a2 = (0 : Int32) →
        Q (1 : Int32) κ))) ∧
  ((a0).toInt = 8 →
    (a1 = (0 : Int32) →
      Q (0 : Int32) κ) ∧
    (¬ a1 = (0 : Int32) →
      (a2 = (0 : Int32) →
        Q (0 : Int32) κ) ∧
      (¬ a2 = (0 : Int32) →
        Q (1 : Int32) κ))) ∧
  ((a0).toInt = 9 →
    (¬ a1 = a2 →
      Q (0 : Int32) κ) ∧
    (a1 = a2 →
      Q (1 : Int32) κ)) ∧
  ((a0).toInt = 10 →
    (a1 = a2 →
      Q (0 : Int32) κ) ∧
    (¬ a1 = a2 →
      Q (1 : Int32) κ)) ∧
  ((a0).toInt = 11 →
    (a2 ≤ a1 →
      Q (0 : Int32) κ) ∧
    (¬ a2 ≤ a1 →
      Q (1 : Int32) κ)) ∧
  ((a0).toInt = 12 →
    (a2 < a1 →
      Q (0 : Int32) κ) ∧
    (¬ a2 < a1 →
      Q (1 : Int32) κ)) ∧
  ((a0).toInt = 13 →
    (a1 ≤ a2 →
      Q (0 : Int32) κ) ∧
    (¬ a1 ≤ a2 →
      Q (1 : Int32) κ)) ∧
  ((a0).toInt = 14 →
    (a1 < a2 →
      Q (0 : Int32) κ) ∧
    (¬ a1 < a2 →
      Q (1 : Int32) κ)) ∧
  ((a0).toInt = 15 →
    Q (a1 + a2) κ) ∧
  ((a0).toInt = 16 →
    Q (a1 - a2) κ) ∧
  ((a0).toInt = 17 →
    Q (a1 * a2) κ) ∧
  ((a0).toInt = 18 →
    (a2 = (0 : Int32) →
      Q (0 : Int32) κ) ∧
    (¬ a2 = (0 : Int32) →
      ¬ a2 = 0 ∧
      Q (a1 / a2) κ))
theorem t_Ma_combine_0 {C : zC} {n0 : Nat} {Q : Int32 → zS → Prop}   {a0 : Int32} {a1 : Int32} {a2 : Int32} {κ : zS} (W : zW C n0 κ)  (F : w_Ma_combine_0 C n0 Q  a0 a1 a2 κ) : zG C n0 0 mMa_combine 0 [some (.int a0), some (.int a1), some (.int a2)] [] κ (oI Q noX) := by
  unfold w_Ma_combine_0 at F
  refine y_iln dX4_combine_0 rfl ?_
  by_cases hsw : (a0).toInt < 7 ∨ 18 < (a0).toInt
  · refine y_swd (t := 182) dX4_combine_1 hsw rfl ?_
    replace F := F.1 hsw
    refine y_iln dX4_combine_182 rfl ?_
    refine y_i (a2 = (0 : Int32)) dX4_combine_183 (t := 192) rfl rfl (fun c9 => ?_) (fun c9 => ?_)
    · replace F := F.1 c9
      refine y_ic dX4_combine_192 zi_0 ?_
      exact y_ri W dX4_combine_193 rfl in_nar F
    · replace F := F.2 c9
      refine y_iln dX4_combine_186 rfl ?_
      refine y_iln dX4_combine_187 rfl ?_
      refine y_rem dX4_combine_188 F.1 ?_
      replace F := F.2
      refine y_goto dX4_combine_189 (t := 193) rfl ?_
      exact y_ri W dX4_combine_193 rfl in_nar F
  replace F := F.2
  by_cases hs0 : (a0).toInt = 7
  · refine y_p (pc' := 64) dX4_combine_1 rfl (fun lo => sw_at (k := 0) hs0 (eq_true (by decide)) rfl rfl) ?_
    replace F := F.1 hs0
    refine y_iln dX4_combine_64 rfl ?_
    refine y_in (a1 = (0 : Int32)) dX4_combine_65 (t := 72) rfl rfl (fun c9 => ?_) (fun c9 => ?_)
    · replace F := F.1 c9
      refine y_ic dX4_combine_72 zi_1 ?_
      refine y_goto dX4_combine_73 (t := 77) rfl ?_
      exact y_ri W dX4_combine_77 rfl in_nar F
    · replace F := F.2 c9
      refine y_iln dX4_combine_68 rfl ?_
      refine y_i (a2 = (0 : Int32)) dX4_combine_69 (t := 76) rfl rfl (fun c9 => ?_) (fun c9 => ?_)
      · replace F := F.1 c9
        refine y_ic dX4_combine_76 zi_0 ?_
        exact y_ri W dX4_combine_77 rfl in_nar F
      · replace F := F.2 c9
        refine y_ic dX4_combine_72 zi_1 ?_
        refine y_goto dX4_combine_73 (t := 77) rfl ?_
        exact y_ri W dX4_combine_77 rfl in_nar F
  replace F := F.2
  by_cases hs1 : (a0).toInt = 8
  · refine y_p (pc' := 78) dX4_combine_1 rfl (fun lo => sw_at (k := 0) hs1 (eq_true (by decide)) rfl rfl) ?_
    replace F := F.1 hs1
    refine y_iln dX4_combine_78 rfl ?_
    refine y_i (a1 = (0 : Int32)) dX4_combine_79 (t := 90) rfl rfl (fun c9 => ?_) (fun c9 => ?_)
    · replace F := F.1 c9
      refine y_ic dX4_combine_90 zi_0 ?_
      exact y_ri W dX4_combine_91 rfl in_nar F
    · replace F := F.2 c9
      refine y_iln dX4_combine_82 rfl ?_
      refine y_i (a2 = (0 : Int32)) dX4_combine_83 (t := 90) rfl rfl (fun c9 => ?_) (fun c9 => ?_)
      · replace F := F.1 c9
        refine y_ic dX4_combine_90 zi_0 ?_
        exact y_ri W dX4_combine_91 rfl in_nar F
      · replace F := F.2 c9
        refine y_ic dX4_combine_86 zi_1 ?_
        refine y_goto dX4_combine_87 (t := 91) rfl ?_
        exact y_ri W dX4_combine_91 rfl in_nar F
  replace F := F.2
  by_cases hs2 : (a0).toInt = 9
  · refine y_p (pc' := 92) dX4_combine_1 rfl (fun lo => sw_at (k := 0) hs2 (eq_true (by decide)) rfl rfl) ?_
    replace F := F.1 hs2
    refine y_iln dX4_combine_92 rfl ?_
    refine y_iln dX4_combine_93 rfl ?_
    refine y_iin (a1 = a2) dX4_combine_94 (t := 101) rfl rfl (fun c9 => ?_) (fun c9 => ?_)
    · replace F := F.1 c9
      refine y_ic dX4_combine_101 zi_0 ?_
      exact y_ri W dX4_combine_102 rfl in_nar F
    · replace F := F.2 c9
      refine y_ic dX4_combine_97 zi_1 ?_
      refine y_goto dX4_combine_98 (t := 102) rfl ?_
      exact y_ri W dX4_combine_102 rfl in_nar F
  replace F := F.2
  by_cases hs3 : (a0).toInt = 10
  · refine y_p (pc' := 103) dX4_combine_1 rfl (fun lo => sw_at (k := 0) hs3 (eq_true (by decide)) rfl rfl) ?_
    replace F := F.1 hs3
    refine y_iln dX4_combine_103 rfl ?_
    refine y_iln dX4_combine_104 rfl ?_
    refine y_ii (a1 = a2) dX4_combine_105 (t := 112) rfl rfl (fun c9 => ?_) (fun c9 => ?_)
    · replace F := F.1 c9
      refine y_ic dX4_combine_112 zi_0 ?_
      exact y_ri W dX4_combine_113 rfl in_nar F
    · replace F := F.2 c9
      refine y_ic dX4_combine_108 zi_1 ?_
      refine y_goto dX4_combine_109 (t := 113) rfl ?_
      exact y_ri W dX4_combine_113 rfl in_nar F
  replace F := F.2
  by_cases hs4 : (a0).toInt = 11
  · refine y_p (pc' := 114) dX4_combine_1 rfl (fun lo => sw_at (k := 0) hs4 (eq_true (by decide)) rfl rfl) ?_
    replace F := F.1 hs4
    refine y_iln dX4_combine_114 rfl ?_
    refine y_iln dX4_combine_115 rfl ?_
    refine y_ii (a2 ≤ a1) dX4_combine_116 (t := 123) rfl rfl (fun c9 => ?_) (fun c9 => ?_)
    · replace F := F.1 c9
      refine y_ic dX4_combine_123 zi_0 ?_
      exact y_ri W dX4_combine_124 rfl in_nar F
    · replace F := F.2 c9
      refine y_ic dX4_combine_119 zi_1 ?_
      refine y_goto dX4_combine_120 (t := 124) rfl ?_
      exact y_ri W dX4_combine_124 rfl in_nar F
  replace F := F.2
  by_cases hs5 : (a0).toInt = 12
  · refine y_p (pc' := 125) dX4_combine_1 rfl (fun lo => sw_at (k := 0) hs5 (eq_true (by decide)) rfl rfl) ?_
    replace F := F.1 hs5
    refine y_iln dX4_combine_125 rfl ?_
    refine y_iln dX4_combine_126 rfl ?_
    refine y_ii (a2 < a1) dX4_combine_127 (t := 134) rfl rfl (fun c9 => ?_) (fun c9 => ?_)
    · replace F := F.1 c9
      refine y_ic dX4_combine_134 zi_0 ?_
      exact y_ri W dX4_combine_135 rfl in_nar F
    · replace F := F.2 c9
      refine y_ic dX4_combine_130 zi_1 ?_
      refine y_goto dX4_combine_131 (t := 135) rfl ?_
      exact y_ri W dX4_combine_135 rfl in_nar F
  replace F := F.2
  by_cases hs6 : (a0).toInt = 13
  · refine y_p (pc' := 136) dX4_combine_1 rfl (fun lo => sw_at (k := 0) hs6 (eq_true (by decide)) rfl rfl) ?_
    replace F := F.1 hs6
    refine y_iln dX4_combine_136 rfl ?_
    refine y_iln dX4_combine_137 rfl ?_
    refine y_ii (a1 ≤ a2) dX4_combine_138 (t := 145) rfl rfl (fun c9 => ?_) (fun c9 => ?_)
    · replace F := F.1 c9
      refine y_ic dX4_combine_145 zi_0 ?_
      exact y_ri W dX4_combine_146 rfl in_nar F
    · replace F := F.2 c9
      refine y_ic dX4_combine_141 zi_1 ?_
      refine y_goto dX4_combine_142 (t := 146) rfl ?_
      exact y_ri W dX4_combine_146 rfl in_nar F
  replace F := F.2
  by_cases hs7 : (a0).toInt = 14
  · refine y_p (pc' := 147) dX4_combine_1 rfl (fun lo => sw_at (k := 0) hs7 (eq_true (by decide)) rfl rfl) ?_
    replace F := F.1 hs7
    refine y_iln dX4_combine_147 rfl ?_
    refine y_iln dX4_combine_148 rfl ?_
    refine y_ii (a1 < a2) dX4_combine_149 (t := 156) rfl rfl (fun c9 => ?_) (fun c9 => ?_)
    · replace F := F.1 c9
      refine y_ic dX4_combine_156 zi_0 ?_
      exact y_ri W dX4_combine_157 rfl in_nar F
    · replace F := F.2 c9
      refine y_ic dX4_combine_152 zi_1 ?_
      refine y_goto dX4_combine_153 (t := 157) rfl ?_
      exact y_ri W dX4_combine_157 rfl in_nar F
  replace F := F.2
  by_cases hs8 : (a0).toInt = 15
  · refine y_p (pc' := 158) dX4_combine_1 rfl (fun lo => sw_at (k := 0) hs8 (eq_true (by decide)) rfl rfl) ?_
    replace F := F.1 hs8
    refine y_iln dX4_combine_158 rfl ?_
    refine y_iln dX4_combine_159 rfl ?_
    refine y_iadd dX4_combine_160 ?_
    exact y_ri W dX4_combine_161 rfl in_nar F
  replace F := F.2
  by_cases hs9 : (a0).toInt = 16
  · refine y_p (pc' := 162) dX4_combine_1 rfl (fun lo => sw_at (k := 0) hs9 (eq_true (by decide)) rfl rfl) ?_
    replace F := F.1 hs9
    refine y_iln dX4_combine_162 rfl ?_
    refine y_iln dX4_combine_163 rfl ?_
    refine y_isub dX4_combine_164 ?_
    exact y_ri W dX4_combine_165 rfl in_nar F
  replace F := F.2
  by_cases hs10 : (a0).toInt = 17
  · refine y_p (pc' := 166) dX4_combine_1 rfl (fun lo => sw_at (k := 0) hs10 (eq_true (by decide)) rfl rfl) ?_
    replace F := F.1 hs10
    refine y_iln dX4_combine_166 rfl ?_
    refine y_iln dX4_combine_167 rfl ?_
    refine y_imul dX4_combine_168 ?_
    exact y_ri W dX4_combine_169 rfl in_nar F
  replace F := F.2
  have hs11 : (a0).toInt = 18 := by omega
  refine y_p (pc' := 170) dX4_combine_1 rfl (fun lo => sw_at (k := 0) hs11 (eq_true (by decide)) rfl rfl) ?_
  replace F := F hs11
  refine y_iln dX4_combine_170 rfl ?_
  refine y_i (a2 = (0 : Int32)) dX4_combine_171 (t := 180) rfl rfl (fun c9 => ?_) (fun c9 => ?_)
  · replace F := F.1 c9
    refine y_ic dX4_combine_180 zi_0 ?_
    exact y_ri W dX4_combine_181 rfl in_nar F
  · replace F := F.2 c9
    refine y_iln dX4_combine_174 rfl ?_
    refine y_iln dX4_combine_175 rfl ?_
    refine y_div dX4_combine_176 F.1 ?_
    replace F := F.2
    refine y_goto dX4_combine_177 (t := 181) rfl ?_
    exact y_ri W dX4_combine_181 rfl in_nar F

theorem Ma_combine_run {C : zC} {n0 : Nat} {Q : Int32 → zS → Prop} {a0 : Int32} {a1 : Int32} {a2 : Int32} {κ : zS} (W : zW C n0 κ)  (F : w_Ma_combine_0 C (zn κ) Q a0 a1 a2 κ) : zRun C 0 mMa_combine [.int a0, .int a1, .int a2] κ (oI Q noX) := z_run (m_ent _ 0) (t_Ma_combine_0 (W.lo (Nat.le_trans W.1.2.1 W.1.2.2) (Nat.le_refl _))  F)

