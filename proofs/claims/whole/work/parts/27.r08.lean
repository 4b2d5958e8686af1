/-! methods of the reference: choose, act, get, pack, unpack, isKey, stateNow, stateNumber -/
theorem dX13_choose_0 : decode cX13_choose 0 = .ok (.aload_n 0, 1) := by decide +kernel
theorem dX13_choose_1 : decode cX13_choose 1 = .ok (.aload_n 0, 1) := by decide +kernel
theorem dX13_choose_2 : decode cX13_choose 2 = .ok (.getfield 72, 3) := by decide +kernel
theorem dX13_choose_5 : decode cX13_choose 5 = .ok (.iload_n 1, 1) := by decide +kernel
theorem dX13_choose_6 : decode cX13_choose 6 = .ok (.iaload, 1) := by decide +kernel
theorem dX13_choose_7 : decode cX13_choose 7 = .ok (.iconst 2, 1) := by decide +kernel
theorem dX13_choose_8 : decode cX13_choose 8 = .ok (.iadd, 1) := by decide +kernel
theorem dX13_choose_9 : decode cX13_choose 9 = .ok (.invokevirtual 569, 3) := by decide +kernel
theorem dX13_choose_12 : decode cX13_choose 12 = .ok (.istore_n 2, 1) := by decide +kernel
theorem dX13_choose_13 : decode cX13_choose 13 = .ok (.aload_n 0, 1) := by decide +kernel
theorem dX13_choose_14 : decode cX13_choose 14 = .ok (.getfield 428, 3) := by decide +kernel
theorem dX13_choose_17 : decode cX13_choose 17 = .ok (.ifCond .gt 14, 3) := by decide +kernel
theorem dX13_choose_20 : decode cX13_choose 20 = .ok (.iload_n 2, 1) := by decide +kernel
theorem dX13_choose_21 : decode cX13_choose 21 = .ok (.iconst 1, 1) := by decide +kernel
theorem dX13_choose_22 : decode cX13_choose 22 = .ok (.if_icmp .lt 9, 3) := by decide +kernel
theorem dX13_choose_25 : decode cX13_choose 25 = .ok (.iload_n 2, 1) := by decide +kernel
theorem dX13_choose_26 : decode cX13_choose 26 = .ok (.bipush 8, 2) := by decide +kernel
theorem dX13_choose_28 : decode cX13_choose 28 = .ok (.if_icmp .le 23, 3) := by decide +kernel
theorem dX13_choose_31 : decode cX13_choose 31 = .ok (.aload_n 0, 1) := by decide +kernel
theorem dX13_choose_32 : decode cX13_choose 32 = .ok (.aload_n 0, 1) := by decide +kernel
theorem dX13_choose_33 : decode cX13_choose 33 = .ok (.getfield 428, 3) := by decide +kernel
theorem dX13_choose_36 : decode cX13_choose 36 = .ok (.ifCond .le 10, 3) := by decide +kernel
theorem dX13_choose_39 : decode cX13_choose 39 = .ok (.aload_n 0, 1) := by decide +kernel
theorem dX13_choose_40 : decode cX13_choose 40 = .ok (.getfield 428, 3) := by decide +kernel
theorem dX13_choose_43 : decode cX13_choose 43 = .ok (.goto 4, 3) := by decide +kernel
theorem dX13_choose_46 : decode cX13_choose 46 = .ok (.iconst 5, 1) := by decide +kernel
theorem dX13_choose_47 : decode cX13_choose 47 = .ok (.invokevirtual 572, 3) := by decide +kernel
theorem dX13_choose_50 : decode cX13_choose 50 = .ok (.ireturn, 1) := by decide +kernel
theorem dX13_choose_51 : decode cX13_choose 51 = .ok (.aload_n 0, 1) := by decide +kernel
theorem dX13_choose_52 : decode cX13_choose 52 = .ok (.iconst 0, 1) := by decide +kernel
theorem dX13_choose_53 : decode cX13_choose 53 = .ok (.putfield 575, 3) := by decide +kernel
theorem dX13_choose_56 : decode cX13_choose 56 = .ok (.iconst 0, 1) := by decide +kernel
theorem dX13_choose_57 : decode cX13_choose 57 = .ok (.istore_n 3, 1) := by decide +kernel
theorem dX13_choose_58 : decode cX13_choose 58 = .ok (.iload_n 3, 1) := by decide +kernel
theorem dX13_choose_59 : decode cX13_choose 59 = .ok (.iload_n 2, 1) := by decide +kernel
theorem dX13_choose_60 : decode cX13_choose 60 = .ok (.if_icmp .ge 15, 3) := by decide +kernel
theorem dX13_choose_63 : decode cX13_choose 63 = .ok (.aload_n 0, 1) := by decide +kernel
theorem dX13_choose_64 : decode cX13_choose 64 = .ok (.iload_n 3, 1) := by decide +kernel
theorem dX13_choose_65 : decode cX13_choose 65 = .ok (.iconst 1, 1) := by decide +kernel
theorem dX13_choose_66 : decode cX13_choose 66 = .ok (.invokevirtual 578, 3) := by decide +kernel
theorem dX13_choose_69 : decode cX13_choose 69 = .ok (.iinc 3 1, 3) := by decide +kernel
theorem dX13_choose_72 : decode cX13_choose 72 = .ok (.goto (-14), 3) := by decide +kernel
theorem dX13_choose_75 : decode cX13_choose 75 = .ok (.aload_n 0, 1) := by decide +kernel
theorem dX13_choose_76 : decode cX13_choose 76 = .ok (.iconst 0, 1) := by decide +kernel
theorem dX13_choose_77 : decode cX13_choose 77 = .ok (.putfield 581, 3) := by decide +kernel
theorem dX13_choose_80 : decode cX13_choose 80 = .ok (.iconst 5, 1) := by decide +kernel
theorem dX13_choose_81 : decode cX13_choose 81 = .ok (.ireturn, 1) := by decide +kernel
def w_choose_31 (C : rCx) (Q : Int32 → rS → Prop)   (σ : rS) : Prop :=
  ((σ.1 47) ≤ 0 →
    cI C 0 m_fail [.ref (co C), .int (5 : Int32)] σ (fun r2 σ1 =>
      Q r2 σ1)) ∧
  (¬ ((σ.1 47) ≤ 0) →
    cI C 0 m_fail [.ref (co C), .int (σ.1 47)] σ (fun r4 σ3 =>
      Q r4 σ3))
theorem t_choose_31 {C : rCx} (hC : cOK C) {Q : Int32 → rS → Prop}    {σ : rS} (F : w_choose_31 C Q   σ) : wG C 8 m_choose 31 [some (.ref (co C)), none, none, none] [] σ (qI Q) := by
  unfold w_choose_31 at F
  refine s_aln dX13_choose_31 rfl ?_
  refine s_aln dX13_choose_32 rfl ?_
  refine gf_428 dX13_choose_33 rfl ?_
  refine s_i (t := 46) ((σ.1 47) ≤ 0) dX13_choose_36 rfl rfl (fun hc => ?_) (fun hc => ?_)
  · replace F := F.1 hc
    refine s_ic dX13_choose_46 ki_5 ?_
    refine k_572 dX13_choose_47 rfl (Nat.le_of_ble_eq_true rfl) (Nat.le_of_ble_eq_true rfl) F (fun r2 σ1 F => ?_)
    exact s_ri dX13_choose_50 rfl in_nar F
  · replace F := F.2 hc
    refine s_aln dX13_choose_39 rfl ?_
    refine gf_428 dX13_choose_40 rfl ?_
    refine s_goto (t := 47) dX13_choose_43 rfl ?_
    refine k_572 dX13_choose_47 rfl (Nat.le_of_ble_eq_true rfl) (Nat.le_of_ble_eq_true rfl) F (fun r4 σ3 F => ?_)
    exact s_ri dX13_choose_50 rfl in_nar F

def w_choose_58 (C : rCx) (Q : Int32 → rS → Prop)  (a2 : Int32) (a3 : Int32) (σ : rS) : Prop :=
  ∃ I : Nat → Int32 → Int32 → rS → Prop, (∃ n, I n a2 a3 σ) ∧ ∀ n a2 a3 σ, I n a2 a3 σ →
    (a2 ≤ a3 →
      ∀ σ1, σ1 = siU σ 66 (0 : Int32) →
      Q (5 : Int32) σ1) ∧
    (¬ (a2 ≤ a3) →
      cV C 0 m_outcome [.ref (co C), .int a3, .int (1 : Int32)] σ (fun σ2 =>
        ∀ v3_4 : Int32, v3_4 = a3 + (1 : Int32) →
        ∃ k < n, I k a2 v3_4 σ2))
theorem t_choose_58 {C : rCx} (hC : cOK C) {Q : Int32 → rS → Prop}   {a2 : Int32} {a3 : Int32} {σ : rS} (F : w_choose_58 C Q  a2 a3 σ) : wG C 8 m_choose 58 [some (.ref (co C)), none, some (.int a2), some (.int a3)] [] σ (qI Q) := by
  obtain ⟨I, ⟨n0, hI0⟩, F0⟩ := F
  have key : ∀ n a2 a3 σ, I n a2 a3 σ → wG C 8 m_choose 58 [some (.ref (co C)), none, some (.int a2), some (.int a3)] [] σ (qI Q) := by
    intro n
    induction n using Nat.strongRecOn with
    | _ n ih =>
      intro a2 a3 σ hI
      have F := F0 n a2 a3 σ hI
      clear hI hI0
      refine s_iln dX13_choose_58 rfl ?_
      refine s_iln dX13_choose_59 rfl ?_
      refine s_ii (t := 75) (a2 ≤ a3) dX13_choose_60 rfl rfl (fun hc => ?_) (fun hc => ?_)
      · replace F := F.1 hc
        refine s_aln dX13_choose_75 rfl ?_
        refine s_ic dX13_choose_76 ki_0 ?_
        refine pf_581 hC dX13_choose_77 rfl (fun σ1 eσ1 => ?_)
        replace F := F σ1 eσ1
        refine s_ic dX13_choose_80 ki_5 ?_
        exact s_ri dX13_choose_81 rfl in_nar F
      · replace F := F.2 hc
        refine s_aln dX13_choose_63 rfl ?_
        refine s_iln dX13_choose_64 rfl ?_
        refine s_ic dX13_choose_65 ki_1 ?_
        refine k_578 dX13_choose_66 rfl (Nat.le_of_ble_eq_true rfl) (Nat.le_of_ble_eq_true rfl) F (fun σ2 F => ?_)
        refine s_incb dX13_choose_69 ki_1 rfl (Nat.le_of_ble_eq_true rfl) (fun v3_4 ev3_4 => ?_)
        replace F := F v3_4 ev3_4
        refine s_goto (t := 58) dX13_choose_72 rfl ?_
        obtain ⟨k, hk, hI⟩ := F
        exact s_k (ih k hk _ _ _ hI) ⟨rfl, rfl, rfl, trivial⟩
  exact key n0 a2 a3 σ hI0

def w_choose_0 (C : rCx) (Q : Int32 → rS → Prop)  (a1 : Int32) (σ : rS) : Prop :=
  inb a1 150 ∧
  cI C 7 m_workAt [.ref (co C), .int ((σ.2.2.1 32 (a1).toNatClampNeg) + (2 : Int32))] σ (fun r2 σ1 =>
    (0 < (σ1.1 47) →
      w_choose_31 C Q   σ1) ∧
    (¬ (0 < (σ1.1 47)) →
      (r2 < (1 : Int32) →
        w_choose_31 C Q   σ1) ∧
      (¬ (r2 < (1 : Int32)) →
        (r2 ≤ (8 : Int32) →
          ∀ σ3, σ3 = siU σ1 63 (0 : Int32) →
          w_choose_58 C Q  r2 (0 : Int32) σ3) ∧
        (¬ (r2 ≤ (8 : Int32)) →
          w_choose_31 C Q   σ1))))
theorem t_choose_0 {C : rCx} (hC : cOK C) {Q : Int32 → rS → Prop}   {a1 : Int32} {σ : rS} (F : w_choose_0 C Q  a1 σ) : wG C 8 m_choose 0 [some (.ref (co C)), some (.int a1), none, none] [] σ (qI Q) := by
  unfold w_choose_0 at F
  refine s_aln dX13_choose_0 rfl ?_
  refine s_aln dX13_choose_1 rfl ?_
  refine gf_72 dX13_choose_2 rfl ?_
  refine s_iln dX13_choose_5 rfl ?_
  refine s_ald hC dX13_choose_6 rt_32 F.1 ?_
  replace F := F.2
  refine s_ic dX13_choose_7 ki_2 ?_
  refine s_iadd dX13_choose_8 ?_
  refine k_569 dX13_choose_9 rfl (Nat.le_of_ble_eq_true rfl) (Nat.le_of_ble_eq_true rfl) F (fun r2 σ1 F => ?_)
  refine s_isn dX13_choose_12 (Nat.le_of_ble_eq_true rfl) rfl ?_
  refine s_aln dX13_choose_13 rfl ?_
  refine gf_428 dX13_choose_14 rfl ?_
  refine s_i (t := 31) (0 < (σ1.1 47)) dX13_choose_17 rfl rfl (fun hc => ?_) (fun hc => ?_)
  · replace F := F.1 hc
    exact s_k (t_choose_31 hC  F) ⟨rfl, trivial⟩
  · replace F := F.2 hc
    refine s_iln dX13_choose_20 rfl ?_
    refine s_ic dX13_choose_21 ki_1 ?_
    refine s_ii (t := 31) (r2 < (1 : Int32)) dX13_choose_22 rfl rfl (fun hc => ?_) (fun hc => ?_)
    · replace F := F.1 hc
      exact s_k (t_choose_31 hC  F) ⟨rfl, trivial⟩
    · replace F := F.2 hc
      refine s_iln dX13_choose_25 rfl ?_
      refine s_bi dX13_choose_26 kb_8 ?_
      refine s_ii (t := 51) (r2 ≤ (8 : Int32)) dX13_choose_28 rfl rfl (fun hc => ?_) (fun hc => ?_)
      · replace F := F.1 hc
        refine s_aln dX13_choose_51 rfl ?_
        refine s_ic dX13_choose_52 ki_0 ?_
        refine pf_575 hC dX13_choose_53 rfl (fun σ3 eσ3 => ?_)
        replace F := F σ3 eσ3
        refine s_ic dX13_choose_56 ki_0 ?_
        refine s_isn dX13_choose_57 (Nat.le_of_ble_eq_true rfl) rfl ?_
        exact s_k (t_choose_58 hC  F) ⟨rfl, rfl, rfl, trivial⟩
      · replace F := F.2 hc
        exact s_k (t_choose_31 hC  F) ⟨rfl, trivial⟩

theorem m_choose_run {C : rCx} (hC : cOK C) {Q : Int32 → rS → Prop} {a1 : Int32} {σ : rS} (F : w_choose_0 C Q a1 σ) : cI C 8 m_choose [.ref (co C), .int a1] σ Q := m_I (m_ent _ 2) (t_choose_0 hC F)

theorem dX13_act_0 : decode cX13_act 0 = .ok (.aload_n 0, 1) := by decide +kernel
theorem dX13_act_1 : decode cX13_act 1 = .ok (.getfield 125, 3) := by decide +kernel
theorem dX13_act_4 : decode cX13_act 4 = .ok (.aload_n 0, 1) := by decide +kernel
theorem dX13_act_5 : decode cX13_act 5 = .ok (.getfield 551, 3) := by decide +kernel
theorem dX13_act_8 : decode cX13_act 8 = .ok (.iconst 1, 1) := by decide +kernel
theorem dX13_act_9 : decode cX13_act 9 = .ok (.isub, 1) := by decide +kernel
theorem dX13_act_10 : decode cX13_act 10 = .ok (.iaload, 1) := by decide +kernel
theorem dX13_act_11 : decode cX13_act 11 = .ok (.istore_n 1, 1) := by decide +kernel
theorem dX13_act_12 : decode cX13_act 12 = .ok (.aload_n 0, 1) := by decide +kernel
theorem dX13_act_13 : decode cX13_act 13 = .ok (.iconst 0, 1) := by decide +kernel
theorem dX13_act_14 : decode cX13_act 14 = .ok (.putfield 300, 3) := by decide +kernel
theorem dX13_act_17 : decode cX13_act 17 = .ok (.aload_n 0, 1) := by decide +kernel
theorem dX13_act_18 : decode cX13_act 18 = .ok (.iconst 0, 1) := by decide +kernel
theorem dX13_act_19 : decode cX13_act 19 = .ok (.putfield 322, 3) := by decide +kernel
theorem dX13_act_22 : decode cX13_act 22 = .ok (.aload_n 0, 1) := by decide +kernel
theorem dX13_act_23 : decode cX13_act 23 = .ok (.iconst 0, 1) := by decide +kernel
theorem dX13_act_24 : decode cX13_act 24 = .ok (.putfield 428, 3) := by decide +kernel
theorem dX13_act_27 : decode cX13_act 27 = .ok (.aload_n 0, 1) := by decide +kernel
theorem dX13_act_28 : decode cX13_act 28 = .ok (.iconst 1, 1) := by decide +kernel
theorem dX13_act_29 : decode cX13_act 29 = .ok (.putfield 438, 3) := by decide +kernel
theorem dX13_act_32 : decode cX13_act 32 = .ok (.aload_n 0, 1) := by decide +kernel
theorem dX13_act_33 : decode cX13_act 33 = .ok (.iconst 0, 1) := by decide +kernel
theorem dX13_act_34 : decode cX13_act 34 = .ok (.putfield 585, 3) := by decide +kernel
theorem dX13_act_37 : decode cX13_act 37 = .ok (.aload_n 0, 1) := by decide +kernel
theorem dX13_act_38 : decode cX13_act 38 = .ok (.getfield 66, 3) := by decide +kernel
theorem dX13_act_41 : decode cX13_act 41 = .ok (.iload_n 1, 1) := by decide +kernel
theorem dX13_act_42 : decode cX13_act 42 = .ok (.iaload, 1) := by decide +kernel
theorem dX13_act_43 : decode cX13_act 43 = .ok (.istore_n 2, 1) := by decide +kernel
theorem dX13_act_44 : decode cX13_act 44 = .ok (.iload_n 2, 1) := by decide +kernel
theorem dX13_act_45 : decode cX13_act 45 = .ok (.iconst 5, 1) := by decide +kernel
theorem dX13_act_46 : decode cX13_act 46 = .ok (.if_icmp .ne 9, 3) := by decide +kernel
theorem dX13_act_49 : decode cX13_act 49 = .ok (.aload_n 0, 1) := by decide +kernel
theorem dX13_act_50 : decode cX13_act 50 = .ok (.iload_n 1, 1) := by decide +kernel
theorem dX13_act_51 : decode cX13_act 51 = .ok (.invokevirtual 588, 3) := by decide +kernel
theorem dX13_act_54 : decode cX13_act 54 = .ok (.ireturn, 1) := by decide +kernel
theorem dX13_act_55 : decode cX13_act 55 = .ok (.iload_n 2, 1) := by decide +kernel
theorem dX13_act_56 : decode cX13_act 56 = .ok (.iconst 4, 1) := by decide +kernel
theorem dX13_act_57 : decode cX13_act 57 = .ok (.if_icmp .gt 24, 3) := by decide +kernel
theorem dX13_act_60 : decode cX13_act 60 = .ok (.aload_n 0, 1) := by decide +kernel
theorem dX13_act_61 : decode cX13_act 61 = .ok (.iload_n 1, 1) := by decide +kernel
theorem dX13_act_62 : decode cX13_act 62 = .ok (.invokevirtual 591, 3) := by decide +kernel
theorem dX13_act_65 : decode cX13_act 65 = .ok (.aload_n 0, 1) := by decide +kernel
theorem dX13_act_66 : decode cX13_act 66 = .ok (.getfield 428, 3) := by decide +kernel
theorem dX13_act_69 : decode cX13_act 69 = .ok (.ifCond .le 12, 3) := by decide +kernel
theorem dX13_act_72 : decode cX13_act 72 = .ok (.aload_n 0, 1) := by decide +kernel
theorem dX13_act_73 : decode cX13_act 73 = .ok (.aload_n 0, 1) := by decide +kernel
theorem dX13_act_74 : decode cX13_act 74 = .ok (.getfield 428, 3) := by decide +kernel
theorem dX13_act_77 : decode cX13_act 77 = .ok (.invokevirtual 572, 3) := by decide +kernel
theorem dX13_act_80 : decode cX13_act 80 = .ok (.ireturn, 1) := by decide +kernel
theorem dX13_act_81 : decode cX13_act 81 = .ok (.iload_n 2, 1) := by decide +kernel
theorem dX13_act_82 : decode cX13_act 82 = .ok (.iconst 3, 1) := by decide +kernel
theorem dX13_act_83 : decode cX13_act 83 = .ok (.if_icmp .ne 9, 3) := by decide +kernel
theorem dX13_act_86 : decode cX13_act 86 = .ok (.aload_n 0, 1) := by decide +kernel
theorem dX13_act_87 : decode cX13_act 87 = .ok (.iload_n 1, 1) := by decide +kernel
theorem dX13_act_88 : decode cX13_act 88 = .ok (.invokevirtual 594, 3) := by decide +kernel
theorem dX13_act_91 : decode cX13_act 91 = .ok (.ireturn, 1) := by decide +kernel
theorem dX13_act_92 : decode cX13_act 92 = .ok (.iload_n 2, 1) := by decide +kernel
theorem dX13_act_93 : decode cX13_act 93 = .ok (.iconst 4, 1) := by decide +kernel
theorem dX13_act_94 : decode cX13_act 94 = .ok (.if_icmp .ne 9, 3) := by decide +kernel
theorem dX13_act_97 : decode cX13_act 97 = .ok (.aload_n 0, 1) := by decide +kernel
theorem dX13_act_98 : decode cX13_act 98 = .ok (.iload_n 1, 1) := by decide +kernel
theorem dX13_act_99 : decode cX13_act 99 = .ok (.invokevirtual 597, 3) := by decide +kernel
theorem dX13_act_102 : decode cX13_act 102 = .ok (.ireturn, 1) := by decide +kernel
theorem dX13_act_103 : decode cX13_act 103 = .ok (.aload_n 0, 1) := by decide +kernel
theorem dX13_act_104 : decode cX13_act 104 = .ok (.aload_n 0, 1) := by decide +kernel
theorem dX13_act_105 : decode cX13_act 105 = .ok (.getfield 72, 3) := by decide +kernel
theorem dX13_act_108 : decode cX13_act 108 = .ok (.iload_n 1, 1) := by decide +kernel
theorem dX13_act_109 : decode cX13_act 109 = .ok (.iaload, 1) := by decide +kernel
theorem dX13_act_110 : decode cX13_act 110 = .ok (.invokevirtual 569, 3) := by decide +kernel
theorem dX13_act_113 : decode cX13_act 113 = .ok (.istore_n 3, 1) := by decide +kernel
theorem dX13_act_114 : decode cX13_act 114 = .ok (.aload_n 0, 1) := by decide +kernel
theorem dX13_act_115 : decode cX13_act 115 = .ok (.getfield 428, 3) := by decide +kernel
theorem dX13_act_118 : decode cX13_act 118 = .ok (.ifCond .le 12, 3) := by decide +kernel
theorem dX13_act_121 : decode cX13_act 121 = .ok (.aload_n 0, 1) := by decide +kernel
theorem dX13_act_122 : decode cX13_act 122 = .ok (.aload_n 0, 1) := by decide +kernel
theorem dX13_act_123 : decode cX13_act 123 = .ok (.getfield 428, 3) := by decide +kernel
theorem dX13_act_126 : decode cX13_act 126 = .ok (.invokevirtual 572, 3) := by decide +kernel
theorem dX13_act_129 : decode cX13_act 129 = .ok (.ireturn, 1) := by decide +kernel
theorem dX13_act_130 : decode cX13_act 130 = .ok (.iload_n 2, 1) := by decide +kernel
theorem dX13_act_131 : decode cX13_act 131 = .ok (.tableswitch 174 6 10 #[33, 95, 133, 139, 158], 33) := by decide +kernel
theorem dX13_act_164 : decode cX13_act 164 = .ok (.aload_n 0, 1) := by decide +kernel
theorem dX13_act_165 : decode cX13_act 165 = .ok (.iload_n 3, 1) := by decide +kernel
theorem dX13_act_166 : decode cX13_act 166 = .ok (.ifCond .eq 31, 3) := by decide +kernel
theorem dX13_act_169 : decode cX13_act 169 = .ok (.aload_n 0, 1) := by decide +kernel
theorem dX13_act_170 : decode cX13_act 170 = .ok (.getfield 75, 3) := by decide +kernel
theorem dX13_act_173 : decode cX13_act 173 = .ok (.iload_n 1, 1) := by decide +kernel
theorem dX13_act_174 : decode cX13_act 174 = .ok (.iaload, 1) := by decide +kernel
theorem dX13_act_175 : decode cX13_act 175 = .ok (.iconst (-1), 1) := by decide +kernel
theorem dX13_act_176 : decode cX13_act 176 = .ok (.if_icmp .eq 12, 3) := by decide +kernel
theorem dX13_act_179 : decode cX13_act 179 = .ok (.aload_n 0, 1) := by decide +kernel
theorem dX13_act_180 : decode cX13_act 180 = .ok (.getfield 75, 3) := by decide +kernel
theorem dX13_act_183 : decode cX13_act 183 = .ok (.iload_n 1, 1) := by decide +kernel
theorem dX13_act_184 : decode cX13_act 184 = .ok (.iaload, 1) := by decide +kernel
theorem dX13_act_185 : decode cX13_act 185 = .ok (.goto 37, 3) := by decide +kernel
theorem dX13_act_188 : decode cX13_act 188 = .ok (.aload_n 0, 1) := by decide +kernel
theorem dX13_act_189 : decode cX13_act 189 = .ok (.getfield 87, 3) := by decide +kernel
theorem dX13_act_192 : decode cX13_act 192 = .ok (.iload_n 1, 1) := by decide +kernel
theorem dX13_act_193 : decode cX13_act 193 = .ok (.iaload, 1) := by decide +kernel
theorem dX13_act_194 : decode cX13_act 194 = .ok (.goto 28, 3) := by decide +kernel
theorem dX13_act_197 : decode cX13_act 197 = .ok (.aload_n 0, 1) := by decide +kernel
theorem dX13_act_198 : decode cX13_act 198 = .ok (.getfield 78, 3) := by decide +kernel
theorem dX13_act_201 : decode cX13_act 201 = .ok (.iload_n 1, 1) := by decide +kernel
theorem dX13_act_202 : decode cX13_act 202 = .ok (.iaload, 1) := by decide +kernel
theorem dX13_act_203 : decode cX13_act 203 = .ok (.iconst (-1), 1) := by decide +kernel
theorem dX13_act_204 : decode cX13_act 204 = .ok (.if_icmp .eq 12, 3) := by decide +kernel
theorem dX13_act_207 : decode cX13_act 207 = .ok (.aload_n 0, 1) := by decide +kernel
theorem dX13_act_208 : decode cX13_act 208 = .ok (.getfield 78, 3) := by decide +kernel
theorem dX13_act_211 : decode cX13_act 211 = .ok (.iload_n 1, 1) := by decide +kernel
theorem dX13_act_212 : decode cX13_act 212 = .ok (.iaload, 1) := by decide +kernel
theorem dX13_act_213 : decode cX13_act 213 = .ok (.goto 9, 3) := by decide +kernel
theorem dX13_act_216 : decode cX13_act 216 = .ok (.aload_n 0, 1) := by decide +kernel
theorem dX13_act_217 : decode cX13_act 217 = .ok (.getfield 87, 3) := by decide +kernel
theorem dX13_act_220 : decode cX13_act 220 = .ok (.iload_n 1, 1) := by decide +kernel
theorem dX13_act_221 : decode cX13_act 221 = .ok (.iaload, 1) := by decide +kernel
theorem dX13_act_222 : decode cX13_act 222 = .ok (.invokevirtual 563, 3) := by decide +kernel
theorem dX13_act_225 : decode cX13_act 225 = .ok (.ireturn, 1) := by decide +kernel
theorem dX13_act_226 : decode cX13_act 226 = .ok (.aload_n 0, 1) := by decide +kernel
theorem dX13_act_227 : decode cX13_act 227 = .ok (.iload_n 3, 1) := by decide +kernel
theorem dX13_act_228 : decode cX13_act 228 = .ok (.ifCond .ne 12, 3) := by decide +kernel
theorem dX13_act_231 : decode cX13_act 231 = .ok (.aload_n 0, 1) := by decide +kernel
theorem dX13_act_232 : decode cX13_act 232 = .ok (.getfield 87, 3) := by decide +kernel
theorem dX13_act_235 : decode cX13_act 235 = .ok (.iload_n 1, 1) := by decide +kernel
theorem dX13_act_236 : decode cX13_act 236 = .ok (.iaload, 1) := by decide +kernel
theorem dX13_act_237 : decode cX13_act 237 = .ok (.goto 23, 3) := by decide +kernel
theorem dX13_act_240 : decode cX13_act 240 = .ok (.aload_n 0, 1) := by decide +kernel
theorem dX13_act_241 : decode cX13_act 241 = .ok (.getfield 75, 3) := by decide +kernel
theorem dX13_act_244 : decode cX13_act 244 = .ok (.iload_n 1, 1) := by decide +kernel
theorem dX13_act_245 : decode cX13_act 245 = .ok (.iaload, 1) := by decide +kernel
theorem dX13_act_246 : decode cX13_act 246 = .ok (.iconst (-1), 1) := by decide +kernel
theorem dX13_act_247 : decode cX13_act 247 = .ok (.if_icmp .eq 12, 3) := by decide +kernel
theorem dX13_act_250 : decode cX13_act 250 = .ok (.aload_n 0, 1) := by decide +kernel
theorem dX13_act_251 : decode cX13_act 251 = .ok (.getfield 75, 3) := by decide +kernel
theorem dX13_act_254 : decode cX13_act 254 = .ok (.iload_n 1, 1) := by decide +kernel
theorem dX13_act_255 : decode cX13_act 255 = .ok (.iaload, 1) := by decide +kernel
theorem dX13_act_256 : decode cX13_act 256 = .ok (.goto 4, 3) := by decide +kernel
theorem dX13_act_259 : decode cX13_act 259 = .ok (.iload_n 1, 1) := by decide +kernel
theorem dX13_act_260 : decode cX13_act 260 = .ok (.invokevirtual 563, 3) := by decide +kernel
theorem dX13_act_263 : decode cX13_act 263 = .ok (.ireturn, 1) := by decide +kernel
theorem dX13_act_264 : decode cX13_act 264 = .ok (.aload_n 0, 1) := by decide +kernel
theorem dX13_act_265 : decode cX13_act 265 = .ok (.iload_n 3, 1) := by decide +kernel
theorem dX13_act_266 : decode cX13_act 266 = .ok (.invokevirtual 560, 3) := by decide +kernel
theorem dX13_act_269 : decode cX13_act 269 = .ok (.ireturn, 1) := by decide +kernel
theorem dX13_act_270 : decode cX13_act 270 = .ok (.iload_n 3, 1) := by decide +kernel
theorem dX13_act_271 : decode cX13_act 271 = .ok (.ifCond .ne 7, 3) := by decide +kernel
theorem dX13_act_274 : decode cX13_act 274 = .ok (.iconst 3, 1) := by decide +kernel
theorem dX13_act_275 : decode cX13_act 275 = .ok (.goto 13, 3) := by decide +kernel
theorem dX13_act_278 : decode cX13_act 278 = .ok (.aload_n 0, 1) := by decide +kernel
theorem dX13_act_279 : decode cX13_act 279 = .ok (.aload_n 0, 1) := by decide +kernel
theorem dX13_act_280 : decode cX13_act 280 = .ok (.getfield 87, 3) := by decide +kernel
theorem dX13_act_283 : decode cX13_act 283 = .ok (.iload_n 1, 1) := by decide +kernel
theorem dX13_act_284 : decode cX13_act 284 = .ok (.iaload, 1) := by decide +kernel
theorem dX13_act_285 : decode cX13_act 285 = .ok (.invokevirtual 563, 3) := by decide +kernel
theorem dX13_act_288 : decode cX13_act 288 = .ok (.ireturn, 1) := by decide +kernel
theorem dX13_act_289 : decode cX13_act 289 = .ok (.aload_n 0, 1) := by decide +kernel
theorem dX13_act_290 : decode cX13_act 290 = .ok (.iload_n 3, 1) := by decide +kernel
theorem dX13_act_291 : decode cX13_act 291 = .ok (.putfield 585, 3) := by decide +kernel
theorem dX13_act_294 : decode cX13_act 294 = .ok (.aload_n 0, 1) := by decide +kernel
theorem dX13_act_295 : decode cX13_act 295 = .ok (.aload_n 0, 1) := by decide +kernel
theorem dX13_act_296 : decode cX13_act 296 = .ok (.getfield 87, 3) := by decide +kernel
theorem dX13_act_299 : decode cX13_act 299 = .ok (.iload_n 1, 1) := by decide +kernel
theorem dX13_act_300 : decode cX13_act 300 = .ok (.iaload, 1) := by decide +kernel
theorem dX13_act_301 : decode cX13_act 301 = .ok (.invokevirtual 563, 3) := by decide +kernel
theorem dX13_act_304 : decode cX13_act 304 = .ok (.ireturn, 1) := by decide +kernel
theorem dX13_act_305 : decode cX13_act 305 = .ok (.aload_n 0, 1) := by decide +kernel
theorem dX13_act_306 : decode cX13_act 306 = .ok (.aload_n 0, 1) := by decide +kernel
theorem dX13_act_307 : decode cX13_act 307 = .ok (.getfield 566, 3) := by decide +kernel
theorem dX13_act_310 : decode cX13_act 310 = .ok (.iload_n 3, 1) := by decide +kernel
theorem dX13_act_311 : decode cX13_act 311 = .ok (.invokevirtual 557, 3) := by decide +kernel
theorem dX13_act_314 : decode cX13_act 314 = .ok (.aload_n 0, 1) := by decide +kernel
theorem dX13_act_315 : decode cX13_act 315 = .ok (.aload_n 0, 1) := by decide +kernel
theorem dX13_act_316 : decode cX13_act 316 = .ok (.getfield 87, 3) := by decide +kernel
theorem dX13_act_319 : decode cX13_act 319 = .ok (.iload_n 1, 1) := by decide +kernel
theorem dX13_act_320 : decode cX13_act 320 = .ok (.iaload, 1) := by decide +kernel
theorem dX13_act_321 : decode cX13_act 321 = .ok (.invokevirtual 563, 3) := by decide +kernel
theorem dX13_act_324 : decode cX13_act 324 = .ok (.ireturn, 1) := by decide +kernel
def w_act_81 (C : rCx) (Q : Int32 → rS → Prop)  (a1 : Int32) (a2 : Int32) (σ : rS) : Prop :=
  (¬ (a2 = (3 : Int32)) →
    (¬ (a2 = (4 : Int32)) →
      inb a1 150 ∧
      cI C 7 m_workAt [.ref (co C), .int (σ.2.2.1 32 (a1).toNatClampNeg)] σ (fun r2 σ1 =>
        ((σ1.1 47) ≤ 0 →
          ((a2).toInt < 6 ∨ 10 < (a2).toInt →
            cV C 0 m_store [.ref (co C), .int (σ1.1 67), .int r2] σ1 (fun σ3 =>
              inb a1 150 ∧
              cI C 2 m_moveTo [.ref (co C), .int (σ3.2.2.1 37 (a1).toNatClampNeg)] σ3 (fun r6 σ5 =>
                Q r6 σ5))) ∧
          ((a2).toInt = 6 →
            (r2 = 0 →
              inb a1 150 ∧
              ((σ1.2.2.1 34 (a1).toNatClampNeg) = (-1 : Int32) →
                inb a1 150 ∧
                cI C 2 m_moveTo [.ref (co C), .int (σ1.2.2.1 37 (a1).toNatClampNeg)] σ1 (fun r8 σ7 =>
                  Q r8 σ7)) ∧
              (¬ ((σ1.2.2.1 34 (a1).toNatClampNeg) = (-1 : Int32)) →
                inb a1 150 ∧
                cI C 2 m_moveTo [.ref (co C), .int (σ1.2.2.1 34 (a1).toNatClampNeg)] σ1 (fun r10 σ9 =>
                  Q r10 σ9))) ∧
            (¬ (r2 = 0) →
              inb a1 150 ∧
              ((σ1.2.2.1 33 (a1).toNatClampNeg) = (-1 : Int32) →
                inb a1 150 ∧
                cI C 2 m_moveTo [.ref (co C), .int (σ1.2.2.1 37 (a1).toNatClampNeg)] σ1 (fun r12 σ11 =>
                  Q r12 σ11)) ∧
              (¬ ((σ1.2.2.1 33 (a1).toNatClampNeg) = (-1 : Int32)) →
                inb a1 150 ∧
                cI C 2 m_moveTo [.ref (co C), .int (σ1.2.2.1 33 (a1).toNatClampNeg)] σ1 (fun r14 σ13 =>
                  Q r14 σ13)))) ∧
          ((a2).toInt = 7 →
            (¬ (r2 = 0) →
              inb a1 150 ∧
              ((σ1.2.2.1 33 (a1).toNatClampNeg) = (-1 : Int32) →
                cI C 2 m_moveTo [.ref (co C), .int a1] σ1 (fun r16 σ15 =>
                  Q r16 σ15)) ∧
              (¬ ((σ1.2.2.1 33 (a1).toNatClampNeg) = (-1 : Int32)) →
                inb a1 150 ∧
                cI C 2 m_moveTo [.ref (co C), .int (σ1.2.2.1 33 (a1).toNatClampNeg)] σ1 (fun r18 σ17 =>
                  Q r18 σ17))) ∧
            (r2 = 0 →
              inb a1 150 ∧
              cI C 2 m_moveTo [.ref (co C), .int (σ1.2.2.1 37 (a1).toNatClampNeg)] σ1 (fun r20 σ19 =>
                Q r20 σ19))) ∧
          ((a2).toInt = 8 →
            cI C 1 m_leave [.ref (co C), .int r2] σ1 (fun r22 σ21 =>
              Q r22 σ21)) ∧
          ((a2).toInt = 9 →
            (¬ (r2 = 0) →
              inb a1 150 ∧
              cI C 2 m_moveTo [.ref (co C), .int (σ1.2.2.1 37 (a1).toNatClampNeg)] σ1 (fun r24 σ23 =>
                Q r24 σ23)) ∧
            (r2 = 0 →
              Q (3 : Int32) σ1)) ∧
          ((a2).toInt = 10 →
            ∀ σ25, σ25 = siU σ1 62 r2 →
            inb a1 150 ∧
            cI C 2 m_moveTo [.ref (co C), .int (σ25.2.2.1 37 (a1).toNatClampNeg)] σ25 (fun r27 σ26 =>
              Q r27 σ26))) ∧
        (¬ ((σ1.1 47) ≤ 0) →
          cI C 0 m_fail [.ref (co C), .int (σ1.1 47)] σ1 (fun r29 σ28 =>
            Q r29 σ28)))) ∧
    (a2 = (4 : Int32) →
      cI C 8 m_choose [.ref (co C), .int a1] σ (fun r31 σ30 =>
        Q r31 σ30))) ∧
  (a2 = (3 : Int32) →
    cI C 8 m_draw [.ref (co C), .int a1] σ (fun r33 σ32 =>
      Q r33 σ32))
theorem t_act_81 {C : rCx} (hC : cOK C) {Q : Int32 → rS → Prop}   {a1 : Int32} {a2 : Int32} {σ : rS} (F : w_act_81 C Q  a1 a2 σ) : wG C 9 m_act 81 [some (.ref (co C)), some (.int a1), some (.int a2), none] [] σ (qI Q) := by
  unfold w_act_81 at F
  refine s_iln dX13_act_81 rfl ?_
  refine s_ic dX13_act_82 ki_3 ?_
  refine s_iin (t := 92) (a2 = (3 : Int32)) dX13_act_83 rfl rfl (fun hc => ?_) (fun hc => ?_)
  · replace F := F.1 hc
    refine s_iln dX13_act_92 rfl ?_
    refine s_ic dX13_act_93 ki_4 ?_
    refine s_iin (t := 103) (a2 = (4 : Int32)) dX13_act_94 rfl rfl (fun hc => ?_) (fun hc => ?_)
    · replace F := F.1 hc
      refine s_aln dX13_act_103 rfl ?_
      refine s_aln dX13_act_104 rfl ?_
      refine gf_72 dX13_act_105 rfl ?_
      refine s_iln dX13_act_108 rfl ?_
      refine s_ald hC dX13_act_109 rt_32 F.1 ?_
      replace F := F.2
      refine k_569 dX13_act_110 rfl (Nat.le_of_ble_eq_true rfl) (Nat.le_of_ble_eq_true rfl) F (fun r2 σ1 F => ?_)
      refine s_isn dX13_act_113 (Nat.le_of_ble_eq_true rfl) rfl ?_
      refine s_aln dX13_act_114 rfl ?_
      refine gf_428 dX13_act_115 rfl ?_
      refine s_i (t := 130) ((σ1.1 47) ≤ 0) dX13_act_118 rfl rfl (fun hc => ?_) (fun hc => ?_)
      · replace F := F.1 hc
        refine s_iln dX13_act_130 rfl ?_
        by_cases hsw : (a2).toInt < 6 ∨ 10 < (a2).toInt
        · refine s_swd (t := 305) dX13_act_131 hsw rfl ?_
          replace F := F.1 hsw
          refine s_aln dX13_act_305 rfl ?_
          refine s_aln dX13_act_306 rfl ?_
          refine gf_566 dX13_act_307 rfl ?_
          refine s_iln dX13_act_310 rfl ?_
          refine k_557 dX13_act_311 rfl (Nat.le_of_ble_eq_true rfl) (Nat.le_of_ble_eq_true rfl) F (fun σ3 F => ?_)
          refine s_aln dX13_act_314 rfl ?_
          refine s_aln dX13_act_315 rfl ?_
          refine gf_87 dX13_act_316 rfl ?_
          refine s_iln dX13_act_319 rfl ?_
          refine s_ald hC dX13_act_320 rt_37 F.1 ?_
          replace F := F.2
          refine k_563 dX13_act_321 rfl (Nat.le_of_ble_eq_true rfl) (Nat.le_of_ble_eq_true rfl) F (fun r6 σ5 F => ?_)
          exact s_ri dX13_act_324 rfl in_nar F
        replace F := F.2
        by_cases hs0 : (a2).toInt = 6
        · refine s_p (pc' := 164) dX13_act_131 (fun lo => sw_at (k := 0) hs0 (eq_true (by decide)) rfl rfl) ?_
          replace F := F.1 hs0
          refine s_aln dX13_act_164 rfl ?_
          refine s_iln dX13_act_165 rfl ?_
          refine s_i (t := 197) (r2 = 0) dX13_act_166 rfl rfl (fun hc => ?_) (fun hc => ?_)
          · replace F := F.1 hc
            refine s_aln dX13_act_197 rfl ?_
            refine gf_78 dX13_act_198 rfl ?_
            refine s_iln dX13_act_201 rfl ?_
            refine s_ald hC dX13_act_202 rt_34 F.1 ?_
            replace F := F.2
            refine s_ic dX13_act_203 ki_m1 ?_
            refine s_ii (t := 216) ((σ1.2.2.1 34 (a1).toNatClampNeg) = (-1 : Int32)) dX13_act_204 rfl rfl (fun hc => ?_) (fun hc => ?_)
            · replace F := F.1 hc
              refine s_aln dX13_act_216 rfl ?_
              refine gf_87 dX13_act_217 rfl ?_
              refine s_iln dX13_act_220 rfl ?_
              refine s_ald hC dX13_act_221 rt_37 F.1 ?_
              replace F := F.2
              refine k_563 dX13_act_222 rfl (Nat.le_of_ble_eq_true rfl) (Nat.le_of_ble_eq_true rfl) F (fun r8 σ7 F => ?_)
              exact s_ri dX13_act_225 rfl in_nar F
            · replace F := F.2 hc
              refine s_aln dX13_act_207 rfl ?_
              refine gf_78 dX13_act_208 rfl ?_
              refine s_iln dX13_act_211 rfl ?_
              refine s_ald hC dX13_act_212 rt_34 F.1 ?_
              replace F := F.2
              refine s_goto (t := 222) dX13_act_213 rfl ?_
              refine k_563 dX13_act_222 rfl (Nat.le_of_ble_eq_true rfl) (Nat.le_of_ble_eq_true rfl) F (fun r10 σ9 F => ?_)
              exact s_ri dX13_act_225 rfl in_nar F
          · replace F := F.2 hc
            refine s_aln dX13_act_169 rfl ?_
            refine gf_75 dX13_act_170 rfl ?_
            refine s_iln dX13_act_173 rfl ?_
            refine s_ald hC dX13_act_174 rt_33 F.1 ?_
            replace F := F.2
            refine s_ic dX13_act_175 ki_m1 ?_
            refine s_ii (t := 188) ((σ1.2.2.1 33 (a1).toNatClampNeg) = (-1 : Int32)) dX13_act_176 rfl rfl (fun hc => ?_) (fun hc => ?_)
            · replace F := F.1 hc
              refine s_aln dX13_act_188 rfl ?_
              refine gf_87 dX13_act_189 rfl ?_
              refine s_iln dX13_act_192 rfl ?_
              refine s_ald hC dX13_act_193 rt_37 F.1 ?_
              replace F := F.2
              refine s_goto (t := 222) dX13_act_194 rfl ?_
              refine k_563 dX13_act_222 rfl (Nat.le_of_ble_eq_true rfl) (Nat.le_of_ble_eq_true rfl) F (fun r12 σ11 F => ?_)
              exact s_ri dX13_act_225 rfl in_nar F
            · replace F := F.2 hc
              refine s_aln dX13_act_179 rfl ?_
              refine gf_75 dX13_act_180 rfl ?_
              refine s_iln dX13_act_183 rfl ?_
              refine s_ald hC dX13_act_184 rt_33 F.1 ?_
              replace F := F.2
              refine s_goto (t := 222) dX13_act_185 rfl ?_
              refine k_563 dX13_act_222 rfl (Nat.le_of_ble_eq_true rfl) (Nat.le_of_ble_eq_true rfl) F (fun r14 σ13 F => ?_)
              exact s_ri dX13_act_225 rfl in_nar F
        replace F := F.2
        by_cases hs1 : (a2).toInt = 7
        · refine s_p (pc' := 226) dX13_act_131 (fun lo => sw_at (k := 0) hs1 (eq_true (by decide)) rfl rfl) ?_
          replace F := F.1 hs1
          refine s_aln dX13_act_226 rfl ?_
          refine s_iln dX13_act_227 rfl ?_
          refine s_in (t := 240) (r2 = 0) dX13_act_228 rfl rfl (fun hc => ?_) (fun hc => ?_)
          · replace F := F.1 hc
            refine s_aln dX13_act_240 rfl ?_
            refine gf_75 dX13_act_241 rfl ?_
            refine s_iln dX13_act_244 rfl ?_
            refine s_ald hC dX13_act_245 rt_33 F.1 ?_
            replace F := F.2
            refine s_ic dX13_act_246 ki_m1 ?_
            refine s_ii (t := 259) ((σ1.2.2.1 33 (a1).toNatClampNeg) = (-1 : Int32)) dX13_act_247 rfl rfl (fun hc => ?_) (fun hc => ?_)
            · replace F := F.1 hc
              refine s_iln dX13_act_259 rfl ?_
              refine k_563 dX13_act_260 rfl (Nat.le_of_ble_eq_true rfl) (Nat.le_of_ble_eq_true rfl) F (fun r16 σ15 F => ?_)
              exact s_ri dX13_act_263 rfl in_nar F
            · replace F := F.2 hc
              refine s_aln dX13_act_250 rfl ?_
              refine gf_75 dX13_act_251 rfl ?_
              refine s_iln dX13_act_254 rfl ?_
              refine s_ald hC dX13_act_255 rt_33 F.1 ?_
              replace F := F.2
              refine s_goto (t := 260) dX13_act_256 rfl ?_
              refine k_563 dX13_act_260 rfl (Nat.le_of_ble_eq_true rfl) (Nat.le_of_ble_eq_true rfl) F (fun r18 σ17 F => ?_)
              exact s_ri dX13_act_263 rfl in_nar F
          · replace F := F.2 hc
            refine s_aln dX13_act_231 rfl ?_
            refine gf_87 dX13_act_232 rfl ?_
            refine s_iln dX13_act_235 rfl ?_
            refine s_ald hC dX13_act_236 rt_37 F.1 ?_
            replace F := F.2
            refine s_goto (t := 260) dX13_act_237 rfl ?_
            refine k_563 dX13_act_260 rfl (Nat.le_of_ble_eq_true rfl) (Nat.le_of_ble_eq_true rfl) F (fun r20 σ19 F => ?_)
            exact s_ri dX13_act_263 rfl in_nar F
        replace F := F.2
        by_cases hs2 : (a2).toInt = 8
        · refine s_p (pc' := 264) dX13_act_131 (fun lo => sw_at (k := 0) hs2 (eq_true (by decide)) rfl rfl) ?_
          replace F := F.1 hs2
          refine s_aln dX13_act_264 rfl ?_
          refine s_iln dX13_act_265 rfl ?_
          refine k_560 dX13_act_266 rfl (Nat.le_of_ble_eq_true rfl) (Nat.le_of_ble_eq_true rfl) F (fun r22 σ21 F => ?_)
          exact s_ri dX13_act_269 rfl in_nar F
        replace F := F.2
        by_cases hs3 : (a2).toInt = 9
        · refine s_p (pc' := 270) dX13_act_131 (fun lo => sw_at (k := 0) hs3 (eq_true (by decide)) rfl rfl) ?_
          replace F := F.1 hs3
          refine s_iln dX13_act_270 rfl ?_
          refine s_in (t := 278) (r2 = 0) dX13_act_271 rfl rfl (fun hc => ?_) (fun hc => ?_)
          · replace F := F.1 hc
            refine s_aln dX13_act_278 rfl ?_
            refine s_aln dX13_act_279 rfl ?_
            refine gf_87 dX13_act_280 rfl ?_
            refine s_iln dX13_act_283 rfl ?_
            refine s_ald hC dX13_act_284 rt_37 F.1 ?_
            replace F := F.2
            refine k_563 dX13_act_285 rfl (Nat.le_of_ble_eq_true rfl) (Nat.le_of_ble_eq_true rfl) F (fun r24 σ23 F => ?_)
            exact s_ri dX13_act_288 rfl in_nar F
          · replace F := F.2 hc
            refine s_ic dX13_act_274 ki_3 ?_
            refine s_goto (t := 288) dX13_act_275 rfl ?_
            exact s_ri dX13_act_288 rfl in_nar F
        replace F := F.2
        have hs4 : (a2).toInt = 10 := by omega
        refine s_p (pc' := 289) dX13_act_131 (fun lo => sw_at (k := 0) hs4 (eq_true (by decide)) rfl rfl) ?_
        replace F := F hs4
        refine s_aln dX13_act_289 rfl ?_
        refine s_iln dX13_act_290 rfl ?_
        refine pf_585 hC dX13_act_291 rfl (fun σ25 eσ25 => ?_)
        replace F := F σ25 eσ25
        refine s_aln dX13_act_294 rfl ?_
        refine s_aln dX13_act_295 rfl ?_
        refine gf_87 dX13_act_296 rfl ?_
        refine s_iln dX13_act_299 rfl ?_
        refine s_ald hC dX13_act_300 rt_37 F.1 ?_
        replace F := F.2
        refine k_563 dX13_act_301 rfl (Nat.le_of_ble_eq_true rfl) (Nat.le_of_ble_eq_true rfl) F (fun r27 σ26 F => ?_)
        exact s_ri dX13_act_304 rfl in_nar F
      · replace F := F.2 hc
        refine s_aln dX13_act_121 rfl ?_
        refine s_aln dX13_act_122 rfl ?_
        refine gf_428 dX13_act_123 rfl ?_
        refine k_572 dX13_act_126 rfl (Nat.le_of_ble_eq_true rfl) (Nat.le_of_ble_eq_true rfl) F (fun r29 σ28 F => ?_)
        exact s_ri dX13_act_129 rfl in_nar F
    · replace F := F.2 hc
      refine s_aln dX13_act_97 rfl ?_
      refine s_iln dX13_act_98 rfl ?_
      refine k_597 dX13_act_99 rfl (Nat.le_of_ble_eq_true rfl) (Nat.le_of_ble_eq_true rfl) F (fun r31 σ30 F => ?_)
      exact s_ri dX13_act_102 rfl in_nar F
  · replace F := F.2 hc
    refine s_aln dX13_act_86 rfl ?_
    refine s_iln dX13_act_87 rfl ?_
    refine k_594 dX13_act_88 rfl (Nat.le_of_ble_eq_true rfl) (Nat.le_of_ble_eq_true rfl) F (fun r33 σ32 F => ?_)
    exact s_ri dX13_act_91 rfl in_nar F

def w_act_0 (C : rCx) (Q : Int32 → rS → Prop)   (σ : rS) : Prop :=
  inb ((σ.1 58) - (1 : Int32)) 12 ∧
  ∀ v1_1 : Int32, v1_1 = (σ.2.2.1 59 (((σ.1 58) - (1 : Int32))).toNatClampNeg) →
  ∀ σ2, σ2 = siU σ 11 (0 : Int32) →
  ∀ σ3, σ3 = siU σ2 13 (0 : Int32) →
  ∀ σ4, σ4 = siU σ3 47 (0 : Int32) →
  ∀ σ5, σ5 = siU σ4 46 (1 : Int32) →
  ∀ σ6, σ6 = siU σ5 62 (0 : Int32) →
  inb v1_1 150 ∧
  ∀ v2_7 : Int32, v2_7 = (σ6.2.2.1 30 (v1_1).toNatClampNeg) →
  (¬ (v2_7 = (5 : Int32)) →
    ((4 : Int32) < v2_7 →
      w_act_81 C Q  v1_1 v2_7 σ6) ∧
    (¬ ((4 : Int32) < v2_7) →
      cV C 8 m_findPlace [.ref (co C), .int v1_1] σ6 (fun σ8 =>
        ((σ8.1 47) ≤ 0 →
          w_act_81 C Q  v1_1 v2_7 σ8) ∧
        (¬ ((σ8.1 47) ≤ 0) →
          cI C 0 m_fail [.ref (co C), .int (σ8.1 47)] σ8 (fun r11 σ10 =>
            Q r11 σ10))))) ∧
  (v2_7 = (5 : Int32) →
    cI C 7 m_call [.ref (co C), .int v1_1] σ6 (fun r13 σ12 =>
      Q r13 σ12))
theorem t_act_0 {C : rCx} (hC : cOK C) {Q : Int32 → rS → Prop}    {σ : rS} (F : w_act_0 C Q   σ) : wG C 9 m_act 0 [some (.ref (co C)), none, none, none] [] σ (qI Q) := by
  unfold w_act_0 at F
  refine s_aln dX13_act_0 rfl ?_
  refine gf_125 dX13_act_1 rfl ?_
  refine s_aln dX13_act_4 rfl ?_
  refine gf_551 dX13_act_5 rfl ?_
  refine s_ic dX13_act_8 ki_1 ?_
  refine s_isub dX13_act_9 ?_
  refine s_ald hC dX13_act_10 rt_59 F.1 ?_
  replace F := F.2
  refine s_isnb dX13_act_11 (Nat.le_of_ble_eq_true rfl) (fun v1_1 ev1_1 => ?_)
  replace F := F v1_1 ev1_1
  refine s_aln dX13_act_12 rfl ?_
  refine s_ic dX13_act_13 ki_0 ?_
  refine pf_300 hC dX13_act_14 rfl (fun σ2 eσ2 => ?_)
  replace F := F σ2 eσ2
  refine s_aln dX13_act_17 rfl ?_
  refine s_ic dX13_act_18 ki_0 ?_
  refine pf_322 hC dX13_act_19 rfl (fun σ3 eσ3 => ?_)
  replace F := F σ3 eσ3
  refine s_aln dX13_act_22 rfl ?_
  refine s_ic dX13_act_23 ki_0 ?_
  refine pf_428 hC dX13_act_24 rfl (fun σ4 eσ4 => ?_)
  replace F := F σ4 eσ4
  refine s_aln dX13_act_27 rfl ?_
  refine s_ic dX13_act_28 ki_1 ?_
  refine pf_438 hC dX13_act_29 rfl (fun σ5 eσ5 => ?_)
  replace F := F σ5 eσ5
  refine s_aln dX13_act_32 rfl ?_
  refine s_ic dX13_act_33 ki_0 ?_
  refine pf_585 hC dX13_act_34 rfl (fun σ6 eσ6 => ?_)
  replace F := F σ6 eσ6
  refine s_aln dX13_act_37 rfl ?_
  refine gf_66 dX13_act_38 rfl ?_
  refine s_iln dX13_act_41 rfl ?_
  refine s_ald hC dX13_act_42 rt_30 F.1 ?_
  replace F := F.2
  refine s_isnb dX13_act_43 (Nat.le_of_ble_eq_true rfl) (fun v2_7 ev2_7 => ?_)
  replace F := F v2_7 ev2_7
  refine s_iln dX13_act_44 rfl ?_
  refine s_ic dX13_act_45 ki_5 ?_
  refine s_iin (t := 55) (v2_7 = (5 : Int32)) dX13_act_46 rfl rfl (fun hc => ?_) (fun hc => ?_)
  · replace F := F.1 hc
    refine s_iln dX13_act_55 rfl ?_
    refine s_ic dX13_act_56 ki_4 ?_
    refine s_ii (t := 81) ((4 : Int32) < v2_7) dX13_act_57 rfl rfl (fun hc => ?_) (fun hc => ?_)
    · replace F := F.1 hc
      exact s_k (t_act_81 hC  F) ⟨rfl, rfl, rfl, trivial⟩
    · replace F := F.2 hc
      refine s_aln dX13_act_60 rfl ?_
      refine s_iln dX13_act_61 rfl ?_
      refine k_591 dX13_act_62 rfl (Nat.le_of_ble_eq_true rfl) (Nat.le_of_ble_eq_true rfl) F (fun σ8 F => ?_)
      refine s_aln dX13_act_65 rfl ?_
      refine gf_428 dX13_act_66 rfl ?_
      refine s_i (t := 81) ((σ8.1 47) ≤ 0) dX13_act_69 rfl rfl (fun hc => ?_) (fun hc => ?_)
      · replace F := F.1 hc
        exact s_k (t_act_81 hC  F) ⟨rfl, rfl, rfl, trivial⟩
      · replace F := F.2 hc
        refine s_aln dX13_act_72 rfl ?_
        refine s_aln dX13_act_73 rfl ?_
        refine gf_428 dX13_act_74 rfl ?_
        refine k_572 dX13_act_77 rfl (Nat.le_of_ble_eq_true rfl) (Nat.le_of_ble_eq_true rfl) F (fun r11 σ10 F => ?_)
        exact s_ri dX13_act_80 rfl in_nar F
  · replace F := F.2 hc
    refine s_aln dX13_act_49 rfl ?_
    refine s_iln dX13_act_50 rfl ?_
    refine k_588 dX13_act_51 rfl (Nat.le_of_ble_eq_true rfl) (Nat.le_of_ble_eq_true rfl) F (fun r13 σ12 F => ?_)
    exact s_ri dX13_act_54 rfl in_nar F

theorem m_act_run {C : rCx} (hC : cOK C) {Q : Int32 → rS → Prop}  {σ : rS} (F : w_act_0 C Q  σ) : cI C 9 m_act [.ref (co C)] σ Q := m_I (m_ent _ 3) (t_act_0 hC F)

theorem dX13_get_0 : decode cX13_get 0 = .ok (.aload_n 0, 1) := by decide +kernel
theorem dX13_get_1 : decode cX13_get 1 = .ok (.aload_n 0, 1) := by decide +kernel
theorem dX13_get_2 : decode cX13_get 2 = .ok (.getfield 566, 3) := by decide +kernel
theorem dX13_get_5 : decode cX13_get 5 = .ok (.aload_n 0, 1) := by decide +kernel
theorem dX13_get_6 : decode cX13_get 6 = .ok (.getfield 131, 3) := by decide +kernel
theorem dX13_get_9 : decode cX13_get 9 = .ok (.iload_n 1, 1) := by decide +kernel
theorem dX13_get_10 : decode cX13_get 10 = .ok (.iaload, 1) := by decide +kernel
theorem dX13_get_11 : decode cX13_get 11 = .ok (.invokevirtual 557, 3) := by decide +kernel
theorem dX13_get_14 : decode cX13_get 14 = .ok (.aload_n 0, 1) := by decide +kernel
theorem dX13_get_15 : decode cX13_get 15 = .ok (.aload_n 0, 1) := by decide +kernel
theorem dX13_get_16 : decode cX13_get 16 = .ok (.getfield 87, 3) := by decide +kernel
theorem dX13_get_19 : decode cX13_get 19 = .ok (.aload_n 0, 1) := by decide +kernel
theorem dX13_get_20 : decode cX13_get 20 = .ok (.getfield 125, 3) := by decide +kernel
theorem dX13_get_23 : decode cX13_get 23 = .ok (.aload_n 0, 1) := by decide +kernel
theorem dX13_get_24 : decode cX13_get 24 = .ok (.getfield 551, 3) := by decide +kernel
theorem dX13_get_27 : decode cX13_get 27 = .ok (.iconst 1, 1) := by decide +kernel
theorem dX13_get_28 : decode cX13_get 28 = .ok (.isub, 1) := by decide +kernel
theorem dX13_get_29 : decode cX13_get 29 = .ok (.iaload, 1) := by decide +kernel
theorem dX13_get_30 : decode cX13_get 30 = .ok (.iaload, 1) := by decide +kernel
theorem dX13_get_31 : decode cX13_get 31 = .ok (.invokevirtual 563, 3) := by decide +kernel
theorem dX13_get_34 : decode cX13_get 34 = .ok (.ireturn, 1) := by decide +kernel
def w_get_0 (C : rCx) (Q : Int32 → rS → Prop)  (a1 : Int32) (σ : rS) : Prop :=
  inb a1 64 ∧
  cV C 0 m_store [.ref (co C), .int (σ.1 67), .int (σ.2.2.1 64 (a1).toNatClampNeg)] σ (fun σ1 =>
    inb ((σ1.1 58) - (1 : Int32)) 12 ∧
    inb (σ1.2.2.1 59 (((σ1.1 58) - (1 : Int32))).toNatClampNeg) 150 ∧
    cI C 2 m_moveTo [.ref (co C), .int (σ1.2.2.1 37 ((σ1.2.2.1 59 (((σ1.1 58) - (1 : Int32))).toNatClampNeg)).toNatClampNeg)] σ1 (fun r4 σ3 =>
      Q r4 σ3))
theorem t_get_0 {C : rCx} (hC : cOK C) {Q : Int32 → rS → Prop}   {a1 : Int32} {σ : rS} (F : w_get_0 C Q  a1 σ) : wG C 3 m_get 0 [some (.ref (co C)), some (.int a1)] [] σ (qI Q) := by
  unfold w_get_0 at F
  refine s_aln dX13_get_0 rfl ?_
  refine s_aln dX13_get_1 rfl ?_
  refine gf_566 dX13_get_2 rfl ?_
  refine s_aln dX13_get_5 rfl ?_
  refine gf_131 dX13_get_6 rfl ?_
  refine s_iln dX13_get_9 rfl ?_
  refine s_ald hC dX13_get_10 rt_64 F.1 ?_
  replace F := F.2
  refine k_557 dX13_get_11 rfl (Nat.le_of_ble_eq_true rfl) (Nat.le_of_ble_eq_true rfl) F (fun σ1 F => ?_)
  refine s_aln dX13_get_14 rfl ?_
  refine s_aln dX13_get_15 rfl ?_
  refine gf_87 dX13_get_16 rfl ?_
  refine s_aln dX13_get_19 rfl ?_
  refine gf_125 dX13_get_20 rfl ?_
  refine s_aln dX13_get_23 rfl ?_
  refine gf_551 dX13_get_24 rfl ?_
  refine s_ic dX13_get_27 ki_1 ?_
  refine s_isub dX13_get_28 ?_
  refine s_ald hC dX13_get_29 rt_59 F.1 ?_
  replace F := F.2
  refine s_ald hC dX13_get_30 rt_37 F.1 ?_
  replace F := F.2
  refine k_563 dX13_get_31 rfl (Nat.le_of_ble_eq_true rfl) (Nat.le_of_ble_eq_true rfl) F (fun r4 σ3 F => ?_)
  exact s_ri dX13_get_34 rfl in_nar F

theorem m_get_run {C : rCx} (hC : cOK C) {Q : Int32 → rS → Prop} {a1 : Int32} {σ : rS} (F : w_get_0 C Q a1 σ) : cI C 3 m_get [.ref (co C), .int a1] σ Q := m_I (m_ent _ 0) (t_get_0 hC F)

theorem dX13_pack_0 : decode cX13_pack 0 = .ok (.iconst 0, 1) := by decide +kernel
theorem dX13_pack_1 : decode cX13_pack 1 = .ok (.istore_n 1, 1) := by decide +kernel
theorem dX13_pack_2 : decode cX13_pack 2 = .ok (.iload_n 1, 1) := by decide +kernel
theorem dX13_pack_3 : decode cX13_pack 3 = .ok (.sipush 143, 3) := by decide +kernel
theorem dX13_pack_6 : decode cX13_pack 6 = .ok (.if_icmp .ge 16, 3) := by decide +kernel
theorem dX13_pack_9 : decode cX13_pack 9 = .ok (.aload_n 0, 1) := by decide +kernel
theorem dX13_pack_10 : decode cX13_pack 10 = .ok (.getfield 175, 3) := by decide +kernel
theorem dX13_pack_13 : decode cX13_pack 13 = .ok (.iload_n 1, 1) := by decide +kernel
theorem dX13_pack_14 : decode cX13_pack 14 = .ok (.iconst 0, 1) := by decide +kernel
theorem dX13_pack_15 : decode cX13_pack 15 = .ok (.iastore, 1) := by decide +kernel
theorem dX13_pack_16 : decode cX13_pack 16 = .ok (.iinc 1 1, 3) := by decide +kernel
theorem dX13_pack_19 : decode cX13_pack 19 = .ok (.goto (-17), 3) := by decide +kernel
theorem dX13_pack_22 : decode cX13_pack 22 = .ok (.aload_n 0, 1) := by decide +kernel
theorem dX13_pack_23 : decode cX13_pack 23 = .ok (.getfield 175, 3) := by decide +kernel
theorem dX13_pack_26 : decode cX13_pack 26 = .ok (.iconst 0, 1) := by decide +kernel
theorem dX13_pack_27 : decode cX13_pack 27 = .ok (.aload_n 0, 1) := by decide +kernel
theorem dX13_pack_28 : decode cX13_pack 28 = .ok (.getfield 551, 3) := by decide +kernel
theorem dX13_pack_31 : decode cX13_pack 31 = .ok (.iastore, 1) := by decide +kernel
theorem dX13_pack_32 : decode cX13_pack 32 = .ok (.iconst 0, 1) := by decide +kernel
theorem dX13_pack_33 : decode cX13_pack 33 = .ok (.istore_n 1, 1) := by decide +kernel
theorem dX13_pack_34 : decode cX13_pack 34 = .ok (.iload_n 1, 1) := by decide +kernel
theorem dX13_pack_35 : decode cX13_pack 35 = .ok (.bipush 34, 2) := by decide +kernel
theorem dX13_pack_37 : decode cX13_pack 37 = .ok (.if_icmp .ge 23, 3) := by decide +kernel
theorem dX13_pack_40 : decode cX13_pack 40 = .ok (.aload_n 0, 1) := by decide +kernel
theorem dX13_pack_41 : decode cX13_pack 41 = .ok (.getfield 175, 3) := by decide +kernel
theorem dX13_pack_44 : decode cX13_pack 44 = .ok (.iconst 1, 1) := by decide +kernel
theorem dX13_pack_45 : decode cX13_pack 45 = .ok (.iload_n 1, 1) := by decide +kernel
theorem dX13_pack_46 : decode cX13_pack 46 = .ok (.iadd, 1) := by decide +kernel
theorem dX13_pack_47 : decode cX13_pack 47 = .ok (.aload_n 0, 1) := by decide +kernel
theorem dX13_pack_48 : decode cX13_pack 48 = .ok (.getfield 122, 3) := by decide +kernel
theorem dX13_pack_51 : decode cX13_pack 51 = .ok (.iload_n 1, 1) := by decide +kernel
theorem dX13_pack_52 : decode cX13_pack 52 = .ok (.iaload, 1) := by decide +kernel
theorem dX13_pack_53 : decode cX13_pack 53 = .ok (.iastore, 1) := by decide +kernel
theorem dX13_pack_54 : decode cX13_pack 54 = .ok (.iinc 1 1, 3) := by decide +kernel
theorem dX13_pack_57 : decode cX13_pack 57 = .ok (.goto (-23), 3) := by decide +kernel
theorem dX13_pack_60 : decode cX13_pack 60 = .ok (.iconst 0, 1) := by decide +kernel
theorem dX13_pack_61 : decode cX13_pack 61 = .ok (.istore_n 1, 1) := by decide +kernel
theorem dX13_pack_62 : decode cX13_pack 62 = .ok (.iload_n 1, 1) := by decide +kernel
theorem dX13_pack_63 : decode cX13_pack 63 = .ok (.aload_n 0, 1) := by decide +kernel
theorem dX13_pack_64 : decode cX13_pack 64 = .ok (.getfield 551, 3) := by decide +kernel
theorem dX13_pack_67 : decode cX13_pack 67 = .ok (.if_icmp .ge 66, 3) := by decide +kernel
theorem dX13_pack_70 : decode cX13_pack 70 = .ok (.aload_n 0, 1) := by decide +kernel
theorem dX13_pack_71 : decode cX13_pack 71 = .ok (.getfield 175, 3) := by decide +kernel
theorem dX13_pack_74 : decode cX13_pack 74 = .ok (.bipush 35, 2) := by decide +kernel
theorem dX13_pack_76 : decode cX13_pack 76 = .ok (.bipush 9, 2) := by decide +kernel
theorem dX13_pack_78 : decode cX13_pack 78 = .ok (.iload_n 1, 1) := by decide +kernel
theorem dX13_pack_79 : decode cX13_pack 79 = .ok (.imul, 1) := by decide +kernel
theorem dX13_pack_80 : decode cX13_pack 80 = .ok (.iadd, 1) := by decide +kernel
theorem dX13_pack_81 : decode cX13_pack 81 = .ok (.aload_n 0, 1) := by decide +kernel
theorem dX13_pack_82 : decode cX13_pack 82 = .ok (.getfield 125, 3) := by decide +kernel
theorem dX13_pack_85 : decode cX13_pack 85 = .ok (.iload_n 1, 1) := by decide +kernel
theorem dX13_pack_86 : decode cX13_pack 86 = .ok (.iaload, 1) := by decide +kernel
theorem dX13_pack_87 : decode cX13_pack 87 = .ok (.iastore, 1) := by decide +kernel
theorem dX13_pack_88 : decode cX13_pack 88 = .ok (.iconst 0, 1) := by decide +kernel
theorem dX13_pack_89 : decode cX13_pack 89 = .ok (.istore_n 2, 1) := by decide +kernel
theorem dX13_pack_90 : decode cX13_pack 90 = .ok (.iload_n 2, 1) := by decide +kernel
theorem dX13_pack_91 : decode cX13_pack 91 = .ok (.bipush 8, 2) := by decide +kernel
theorem dX13_pack_93 : decode cX13_pack 93 = .ok (.if_icmp .ge 34, 3) := by decide +kernel
theorem dX13_pack_96 : decode cX13_pack 96 = .ok (.aload_n 0, 1) := by decide +kernel
theorem dX13_pack_97 : decode cX13_pack 97 = .ok (.getfield 175, 3) := by decide +kernel
theorem dX13_pack_100 : decode cX13_pack 100 = .ok (.bipush 36, 2) := by decide +kernel
theorem dX13_pack_102 : decode cX13_pack 102 = .ok (.bipush 9, 2) := by decide +kernel
theorem dX13_pack_104 : decode cX13_pack 104 = .ok (.iload_n 1, 1) := by decide +kernel
theorem dX13_pack_105 : decode cX13_pack 105 = .ok (.imul, 1) := by decide +kernel
theorem dX13_pack_106 : decode cX13_pack 106 = .ok (.iadd, 1) := by decide +kernel
theorem dX13_pack_107 : decode cX13_pack 107 = .ok (.iload_n 2, 1) := by decide +kernel
theorem dX13_pack_108 : decode cX13_pack 108 = .ok (.iadd, 1) := by decide +kernel
theorem dX13_pack_109 : decode cX13_pack 109 = .ok (.aload_n 0, 1) := by decide +kernel
theorem dX13_pack_110 : decode cX13_pack 110 = .ok (.getfield 128, 3) := by decide +kernel
theorem dX13_pack_113 : decode cX13_pack 113 = .ok (.bipush 8, 2) := by decide +kernel
theorem dX13_pack_115 : decode cX13_pack 115 = .ok (.iload_n 1, 1) := by decide +kernel
theorem dX13_pack_116 : decode cX13_pack 116 = .ok (.imul, 1) := by decide +kernel
theorem dX13_pack_117 : decode cX13_pack 117 = .ok (.iload_n 2, 1) := by decide +kernel
theorem dX13_pack_118 : decode cX13_pack 118 = .ok (.iadd, 1) := by decide +kernel
theorem dX13_pack_119 : decode cX13_pack 119 = .ok (.iaload, 1) := by decide +kernel
theorem dX13_pack_120 : decode cX13_pack 120 = .ok (.iastore, 1) := by decide +kernel
theorem dX13_pack_121 : decode cX13_pack 121 = .ok (.iinc 2 1, 3) := by decide +kernel
theorem dX13_pack_124 : decode cX13_pack 124 = .ok (.goto (-34), 3) := by decide +kernel
theorem dX13_pack_127 : decode cX13_pack 127 = .ok (.iinc 1 1, 3) := by decide +kernel
theorem dX13_pack_130 : decode cX13_pack 130 = .ok (.goto (-68), 3) := by decide +kernel
theorem dX13_pack_133 : decode cX13_pack 133 = .ok (.iconst 0, 1) := by decide +kernel
theorem dX13_pack_134 : decode cX13_pack 134 = .ok (.istore_n 1, 1) := by decide +kernel
theorem dX13_pack_135 : decode cX13_pack 135 = .ok (.iconst 0, 1) := by decide +kernel
theorem dX13_pack_136 : decode cX13_pack 136 = .ok (.istore_n 2, 1) := by decide +kernel
theorem dX13_pack_137 : decode cX13_pack 137 = .ok (.iload_n 2, 1) := by decide +kernel
theorem dX13_pack_138 : decode cX13_pack 138 = .ok (.sipush 143, 3) := by decide +kernel
theorem dX13_pack_141 : decode cX13_pack 141 = .ok (.if_icmp .ge 21, 3) := by decide +kernel
theorem dX13_pack_144 : decode cX13_pack 144 = .ok (.bipush 31, 2) := by decide +kernel
theorem dX13_pack_146 : decode cX13_pack 146 = .ok (.iload_n 1, 1) := by decide +kernel
theorem dX13_pack_147 : decode cX13_pack 147 = .ok (.imul, 1) := by decide +kernel
theorem dX13_pack_148 : decode cX13_pack 148 = .ok (.aload_n 0, 1) := by decide +kernel
theorem dX13_pack_149 : decode cX13_pack 149 = .ok (.getfield 175, 3) := by decide +kernel
theorem dX13_pack_152 : decode cX13_pack 152 = .ok (.iload_n 2, 1) := by decide +kernel
theorem dX13_pack_153 : decode cX13_pack 153 = .ok (.iaload, 1) := by decide +kernel
theorem dX13_pack_154 : decode cX13_pack 154 = .ok (.iadd, 1) := by decide +kernel
theorem dX13_pack_155 : decode cX13_pack 155 = .ok (.istore_n 1, 1) := by decide +kernel
theorem dX13_pack_156 : decode cX13_pack 156 = .ok (.iinc 2 1, 3) := by decide +kernel
theorem dX13_pack_159 : decode cX13_pack 159 = .ok (.goto (-22), 3) := by decide +kernel
theorem dX13_pack_162 : decode cX13_pack 162 = .ok (.iload_n 1, 1) := by decide +kernel
theorem dX13_pack_163 : decode cX13_pack 163 = .ok (.ireturn, 1) := by decide +kernel
def w_pack_90 (C : rCx) (Q : Int32 → rS → Prop) (B62 : Int32 → rS → Prop) (a1 : Int32) (a2 : Int32) (σ : rS) : Prop :=
  ∃ I : Nat → Int32 → Int32 → rS → Prop, (∃ n, I n a1 a2 σ) ∧ ∀ n a1 a2 σ, I n a1 a2 σ →
    ((8 : Int32) ≤ a2 →
      ∀ v1_1 : Int32, v1_1 = a1 + (1 : Int32) →
      B62 v1_1 σ) ∧
    (¬ ((8 : Int32) ≤ a2) →
      inb (((8 : Int32) * a1) + a2) 96 ∧
      inb (((36 : Int32) + ((9 : Int32) * a1)) + a2) 143 ∧
      ∀ σ2, σ2 = riU σ 84 ((((36 : Int32) + ((9 : Int32) * a1)) + a2)).toNatClampNeg (σ.2.2.1 60 ((((8 : Int32) * a1) + a2)).toNatClampNeg) →
      ∀ v2_3 : Int32, v2_3 = a2 + (1 : Int32) →
      ∃ k < n, I k a1 v2_3 σ2)
theorem t_pack_90 {C : rCx} (hC : cOK C) {Q : Int32 → rS → Prop} {B62 : Int32 → rS → Prop} (hB62 : ∀ a1' τ, B62 a1' τ → wG C 0 m_pack 62 [some (.ref (co C)), some (.int a1'), none] [] τ (qI Q)) {a1 : Int32} {a2 : Int32} {σ : rS} (F : w_pack_90 C Q B62 a1 a2 σ) : wG C 0 m_pack 90 [some (.ref (co C)), some (.int a1), some (.int a2)] [] σ (qI Q) := by
  obtain ⟨I, ⟨n0, hI0⟩, F0⟩ := F
  have key : ∀ n a1 a2 σ, I n a1 a2 σ → wG C 0 m_pack 90 [some (.ref (co C)), some (.int a1), some (.int a2)] [] σ (qI Q) := by
    intro n
    induction n using Nat.strongRecOn with
    | _ n ih =>
      intro a1 a2 σ hI
      have F := F0 n a1 a2 σ hI
      clear hI hI0
      refine s_iln dX13_pack_90 rfl ?_
      refine s_bi dX13_pack_91 kb_8 ?_
      refine s_ii (t := 127) ((8 : Int32) ≤ a2) dX13_pack_93 rfl rfl (fun hc => ?_) (fun hc => ?_)
      · replace F := F.1 hc
        refine s_incb dX13_pack_127 ki_1 rfl (Nat.le_of_ble_eq_true rfl) (fun v1_1 ev1_1 => ?_)
        replace F := F v1_1 ev1_1
        refine s_goto (t := 62) dX13_pack_130 rfl ?_
        exact s_k (hB62 _ _ F) ⟨rfl, rfl, trivial⟩
      · replace F := F.2 hc
        refine s_aln dX13_pack_96 rfl ?_
        refine gf_175 dX13_pack_97 rfl ?_
        refine s_bi dX13_pack_100 kb_36 ?_
        refine s_bi dX13_pack_102 kb_9 ?_
        refine s_iln dX13_pack_104 rfl ?_
        refine s_imul dX13_pack_105 ?_
        refine s_iadd dX13_pack_106 ?_
        refine s_iln dX13_pack_107 rfl ?_
        refine s_iadd dX13_pack_108 ?_
        refine s_aln dX13_pack_109 rfl ?_
        refine gf_128 dX13_pack_110 rfl ?_
        refine s_bi dX13_pack_113 kb_8 ?_
        refine s_iln dX13_pack_115 rfl ?_
        refine s_imul dX13_pack_116 ?_
        refine s_iln dX13_pack_117 rfl ?_
        refine s_iadd dX13_pack_118 ?_
        refine s_ald hC dX13_pack_119 rt_60 F.1 ?_
        replace F := F.2
        refine s_astb hC dX13_pack_120 rt_84 F.1 (fun σ2 eσ2 => ?_)
        replace F := F.2 σ2 eσ2
        refine s_incb dX13_pack_121 ki_1 rfl (Nat.le_of_ble_eq_true rfl) (fun v2_3 ev2_3 => ?_)
        replace F := F v2_3 ev2_3
        refine s_goto (t := 90) dX13_pack_124 rfl ?_
        obtain ⟨k, hk, hI⟩ := F
        exact s_k (ih k hk _ _ _ hI) ⟨rfl, rfl, rfl, trivial⟩
  exact key n0 a1 a2 σ hI0

def w_pack_137 (C : rCx) (Q : Int32 → rS → Prop)  (a1 : Int32) (a2 : Int32) (σ : rS) : Prop :=
  ∃ I : Nat → Int32 → Int32 → rS → Prop, (∃ n, I n a1 a2 σ) ∧ ∀ n a1 a2 σ, I n a1 a2 σ →
    ((143 : Int32) ≤ a2 →
      Q a1 σ) ∧
    (¬ ((143 : Int32) ≤ a2) →
      inb a2 143 ∧
      ∀ v1_1 : Int32, v1_1 = (((31 : Int32) * a1) + (σ.2.2.1 84 (a2).toNatClampNeg)) →
      ∀ v2_2 : Int32, v2_2 = a2 + (1 : Int32) →
      ∃ k < n, I k v1_1 v2_2 σ)
theorem t_pack_137 {C : rCx} (hC : cOK C) {Q : Int32 → rS → Prop}   {a1 : Int32} {a2 : Int32} {σ : rS} (F : w_pack_137 C Q  a1 a2 σ) : wG C 0 m_pack 137 [some (.ref (co C)), some (.int a1), some (.int a2)] [] σ (qI Q) := by
  obtain ⟨I, ⟨n0, hI0⟩, F0⟩ := F
  have key : ∀ n a1 a2 σ, I n a1 a2 σ → wG C 0 m_pack 137 [some (.ref (co C)), some (.int a1), some (.int a2)] [] σ (qI Q) := by
    intro n
    induction n using Nat.strongRecOn with
    | _ n ih =>
      intro a1 a2 σ hI
      have F := F0 n a1 a2 σ hI
      clear hI hI0
      refine s_iln dX13_pack_137 rfl ?_
      refine s_si dX13_pack_138 ks_143 ?_
      refine s_ii (t := 162) ((143 : Int32) ≤ a2) dX13_pack_141 rfl rfl (fun hc => ?_) (fun hc => ?_)
      · replace F := F.1 hc
        refine s_iln dX13_pack_162 rfl ?_
        exact s_ri dX13_pack_163 rfl in_nar F
      · replace F := F.2 hc
        refine s_bi dX13_pack_144 kb_31 ?_
        refine s_iln dX13_pack_146 rfl ?_
        refine s_imul dX13_pack_147 ?_
        refine s_aln dX13_pack_148 rfl ?_
        refine gf_175 dX13_pack_149 rfl ?_
        refine s_iln dX13_pack_152 rfl ?_
        refine s_ald hC dX13_pack_153 rt_84 F.1 ?_
        replace F := F.2
        refine s_iadd dX13_pack_154 ?_
        refine s_isnb dX13_pack_155 (Nat.le_of_ble_eq_true rfl) (fun v1_1 ev1_1 => ?_)
        replace F := F v1_1 ev1_1
        refine s_incb dX13_pack_156 ki_1 rfl (Nat.le_of_ble_eq_true rfl) (fun v2_2 ev2_2 => ?_)
        replace F := F v2_2 ev2_2
        refine s_goto (t := 137) dX13_pack_159 rfl ?_
        obtain ⟨k, hk, hI⟩ := F
        exact s_k (ih k hk _ _ _ hI) ⟨rfl, rfl, rfl, trivial⟩
  exact key n0 a1 a2 σ hI0

def w_pack_62 (C : rCx) (Q : Int32 → rS → Prop)  (a1 : Int32) (σ : rS) : Prop :=
  ∃ I : Nat → Int32 → rS → Prop, (∃ n, I n a1 σ) ∧ ∀ n a1 σ, I n a1 σ →
    ((σ.1 58) ≤ a1 →
      w_pack_137 C Q  (0 : Int32) (0 : Int32) σ) ∧
    (¬ ((σ.1 58) ≤ a1) →
      inb a1 12 ∧
      inb ((35 : Int32) + ((9 : Int32) * a1)) 143 ∧
      ∀ σ1, σ1 = riU σ 84 (((35 : Int32) + ((9 : Int32) * a1))).toNatClampNeg (σ.2.2.1 59 (a1).toNatClampNeg) →
      w_pack_90 C Q (fun a1' τ => ∃ k < n, I k a1' τ) a1 (0 : Int32) σ1)
theorem t_pack_62 {C : rCx} (hC : cOK C) {Q : Int32 → rS → Prop}   {a1 : Int32} {σ : rS} (F : w_pack_62 C Q  a1 σ) : wG C 0 m_pack 62 [some (.ref (co C)), some (.int a1), none] [] σ (qI Q) := by
  obtain ⟨I, ⟨n0, hI0⟩, F0⟩ := F
  have key : ∀ n a1 σ, I n a1 σ → wG C 0 m_pack 62 [some (.ref (co C)), some (.int a1), none] [] σ (qI Q) := by
    intro n
    induction n using Nat.strongRecOn with
    | _ n ih =>
      intro a1 σ hI
      have F := F0 n a1 σ hI
      clear hI hI0
      refine s_iln dX13_pack_62 rfl ?_
      refine s_aln dX13_pack_63 rfl ?_
      refine gf_551 dX13_pack_64 rfl ?_
      refine s_ii (t := 133) ((σ.1 58) ≤ a1) dX13_pack_67 rfl rfl (fun hc => ?_) (fun hc => ?_)
      · replace F := F.1 hc
        refine s_ic dX13_pack_133 ki_0 ?_
        refine s_isn dX13_pack_134 (Nat.le_of_ble_eq_true rfl) rfl ?_
        refine s_ic dX13_pack_135 ki_0 ?_
        refine s_isn dX13_pack_136 (Nat.le_of_ble_eq_true rfl) rfl ?_
        exact s_k (t_pack_137 hC  F) ⟨rfl, rfl, rfl, trivial⟩
      · replace F := F.2 hc
        refine s_aln dX13_pack_70 rfl ?_
        refine gf_175 dX13_pack_71 rfl ?_
        refine s_bi dX13_pack_74 kb_35 ?_
        refine s_bi dX13_pack_76 kb_9 ?_
        refine s_iln dX13_pack_78 rfl ?_
        refine s_imul dX13_pack_79 ?_
        refine s_iadd dX13_pack_80 ?_
        refine s_aln dX13_pack_81 rfl ?_
        refine gf_125 dX13_pack_82 rfl ?_
        refine s_iln dX13_pack_85 rfl ?_
        refine s_ald hC dX13_pack_86 rt_59 F.1 ?_
        replace F := F.2
        refine s_astb hC dX13_pack_87 rt_84 F.1 (fun σ1 eσ1 => ?_)
        replace F := F.2 σ1 eσ1
        refine s_ic dX13_pack_88 ki_0 ?_
        refine s_isn dX13_pack_89 (Nat.le_of_ble_eq_true rfl) rfl ?_
        exact s_k (t_pack_90 hC (fun a1' τ hb => by obtain ⟨k, hk, hI⟩ := hb; exact ih k hk a1' τ hI) F) ⟨rfl, rfl, rfl, trivial⟩
  exact key n0 a1 σ hI0

def w_pack_34 (C : rCx) (Q : Int32 → rS → Prop)  (a1 : Int32) (σ : rS) : Prop :=
  ∃ I : Nat → Int32 → rS → Prop, (∃ n, I n a1 σ) ∧ ∀ n a1 σ, I n a1 σ →
    ((34 : Int32) ≤ a1 →
      w_pack_62 C Q  (0 : Int32) σ) ∧
    (¬ ((34 : Int32) ≤ a1) →
      inb a1 34 ∧
      inb ((1 : Int32) + a1) 143 ∧
      ∀ σ1, σ1 = riU σ 84 (((1 : Int32) + a1)).toNatClampNeg (σ.2.2.1 57 (a1).toNatClampNeg) →
      ∀ v1_2 : Int32, v1_2 = a1 + (1 : Int32) →
      ∃ k < n, I k v1_2 σ1)
theorem t_pack_34 {C : rCx} (hC : cOK C) {Q : Int32 → rS → Prop}   {a1 : Int32} {σ : rS} (F : w_pack_34 C Q  a1 σ) : wG C 0 m_pack 34 [some (.ref (co C)), some (.int a1), none] [] σ (qI Q) := by
  obtain ⟨I, ⟨n0, hI0⟩, F0⟩ := F
  have key : ∀ n a1 σ, I n a1 σ → wG C 0 m_pack 34 [some (.ref (co C)), some (.int a1), none] [] σ (qI Q) := by
    intro n
    induction n using Nat.strongRecOn with
    | _ n ih =>
      intro a1 σ hI
      have F := F0 n a1 σ hI
      clear hI hI0
      refine s_iln dX13_pack_34 rfl ?_
      refine s_bi dX13_pack_35 kb_34 ?_
      refine s_ii (t := 60) ((34 : Int32) ≤ a1) dX13_pack_37 rfl rfl (fun hc => ?_) (fun hc => ?_)
      · replace F := F.1 hc
        refine s_ic dX13_pack_60 ki_0 ?_
        refine s_isn dX13_pack_61 (Nat.le_of_ble_eq_true rfl) rfl ?_
        exact s_k (t_pack_62 hC  F) ⟨rfl, rfl, trivial⟩
      · replace F := F.2 hc
        refine s_aln dX13_pack_40 rfl ?_
        refine gf_175 dX13_pack_41 rfl ?_
        refine s_ic dX13_pack_44 ki_1 ?_
        refine s_iln dX13_pack_45 rfl ?_
        refine s_iadd dX13_pack_46 ?_
        refine s_aln dX13_pack_47 rfl ?_
        refine gf_122 dX13_pack_48 rfl ?_
        refine s_iln dX13_pack_51 rfl ?_
        refine s_ald hC dX13_pack_52 rt_57 F.1 ?_
        replace F := F.2
        refine s_astb hC dX13_pack_53 rt_84 F.1 (fun σ1 eσ1 => ?_)
        replace F := F.2 σ1 eσ1
        refine s_incb dX13_pack_54 ki_1 rfl (Nat.le_of_ble_eq_true rfl) (fun v1_2 ev1_2 => ?_)
        replace F := F v1_2 ev1_2
        refine s_goto (t := 34) dX13_pack_57 rfl ?_
        obtain ⟨k, hk, hI⟩ := F
        exact s_k (ih k hk _ _ hI) ⟨rfl, rfl, trivial⟩
  exact key n0 a1 σ hI0

def w_pack_2 (C : rCx) (Q : Int32 → rS → Prop)  (a1 : Int32) (σ : rS) : Prop :=
  ∃ I : Nat → Int32 → rS → Prop, (∃ n, I n a1 σ) ∧ ∀ n a1 σ, I n a1 σ →
    ((143 : Int32) ≤ a1 →
      inb (0 : Int32) 143 ∧
      ∀ σ1, σ1 = riU σ 84 ((0 : Int32)).toNatClampNeg (σ.1 58) →
      w_pack_34 C Q  (0 : Int32) σ1) ∧
    (¬ ((143 : Int32) ≤ a1) →
      inb a1 143 ∧
      ∀ σ2, σ2 = riU σ 84 (a1).toNatClampNeg (0 : Int32) →
      ∀ v1_3 : Int32, v1_3 = a1 + (1 : Int32) →
      ∃ k < n, I k v1_3 σ2)
theorem t_pack_2 {C : rCx} (hC : cOK C) {Q : Int32 → rS → Prop}   {a1 : Int32} {σ : rS} (F : w_pack_2 C Q  a1 σ) : wG C 0 m_pack 2 [some (.ref (co C)), some (.int a1), none] [] σ (qI Q) := by
  obtain ⟨I, ⟨n0, hI0⟩, F0⟩ := F
  have key : ∀ n a1 σ, I n a1 σ → wG C 0 m_pack 2 [some (.ref (co C)), some (.int a1), none] [] σ (qI Q) := by
    intro n
    induction n using Nat.strongRecOn with
    | _ n ih =>
      intro a1 σ hI
      have F := F0 n a1 σ hI
      clear hI hI0
      refine s_iln dX13_pack_2 rfl ?_
      refine s_si dX13_pack_3 ks_143 ?_
      refine s_ii (t := 22) ((143 : Int32) ≤ a1) dX13_pack_6 rfl rfl (fun hc => ?_) (fun hc => ?_)
      · replace F := F.1 hc
        refine s_aln dX13_pack_22 rfl ?_
        refine gf_175 dX13_pack_23 rfl ?_
        refine s_ic dX13_pack_26 ki_0 ?_
        refine s_aln dX13_pack_27 rfl ?_
        refine gf_551 dX13_pack_28 rfl ?_
        refine s_astb hC dX13_pack_31 rt_84 F.1 (fun σ1 eσ1 => ?_)
        replace F := F.2 σ1 eσ1
        refine s_ic dX13_pack_32 ki_0 ?_
        refine s_isn dX13_pack_33 (Nat.le_of_ble_eq_true rfl) rfl ?_
        exact s_k (t_pack_34 hC  F) ⟨rfl, rfl, trivial⟩
      · replace F := F.2 hc
        refine s_aln dX13_pack_9 rfl ?_
        refine gf_175 dX13_pack_10 rfl ?_
        refine s_iln dX13_pack_13 rfl ?_
        refine s_ic dX13_pack_14 ki_0 ?_
        refine s_astb hC dX13_pack_15 rt_84 F.1 (fun σ2 eσ2 => ?_)
        replace F := F.2 σ2 eσ2
        refine s_incb dX13_pack_16 ki_1 rfl (Nat.le_of_ble_eq_true rfl) (fun v1_3 ev1_3 => ?_)
        replace F := F v1_3 ev1_3
        refine s_goto (t := 2) dX13_pack_19 rfl ?_
        obtain ⟨k, hk, hI⟩ := F
        exact s_k (ih k hk _ _ hI) ⟨rfl, rfl, trivial⟩
  exact key n0 a1 σ hI0

def w_pack_0 (C : rCx) (Q : Int32 → rS → Prop)   (σ : rS) : Prop :=
  w_pack_2 C Q  (0 : Int32) σ
theorem t_pack_0 {C : rCx} (hC : cOK C) {Q : Int32 → rS → Prop}    {σ : rS} (F : w_pack_0 C Q   σ) : wG C 0 m_pack 0 [some (.ref (co C)), none, none] [] σ (qI Q) := by
  unfold w_pack_0 at F
  refine s_ic dX13_pack_0 ki_0 ?_
  refine s_isn dX13_pack_1 (Nat.le_of_ble_eq_true rfl) rfl ?_
  exact s_k (t_pack_2 hC  F) ⟨rfl, rfl, trivial⟩

theorem m_pack_run {C : rCx} (hC : cOK C) {Q : Int32 → rS → Prop}  {σ : rS} (F : w_pack_0 C Q  σ) : cI C 0 m_pack [.ref (co C)] σ Q := m_I (m_ent _ 2) (t_pack_0 hC F)

theorem dX13_unpack_0 : decode cX13_unpack 0 = .ok (.sipush 143, 3) := by decide +kernel
theorem dX13_unpack_3 : decode cX13_unpack 3 = .ok (.iload_n 1, 1) := by decide +kernel
theorem dX13_unpack_4 : decode cX13_unpack 4 = .ok (.imul, 1) := by decide +kernel
theorem dX13_unpack_5 : decode cX13_unpack 5 = .ok (.istore_n 2, 1) := by decide +kernel
theorem dX13_unpack_6 : decode cX13_unpack 6 = .ok (.aload_n 0, 1) := by decide +kernel
theorem dX13_unpack_7 : decode cX13_unpack 7 = .ok (.aload_n 0, 1) := by decide +kernel
theorem dX13_unpack_8 : decode cX13_unpack 8 = .ok (.getfield 141, 3) := by decide +kernel
theorem dX13_unpack_11 : decode cX13_unpack 11 = .ok (.iload_n 2, 1) := by decide +kernel
theorem dX13_unpack_12 : decode cX13_unpack 12 = .ok (.iaload, 1) := by decide +kernel
theorem dX13_unpack_13 : decode cX13_unpack 13 = .ok (.putfield 551, 3) := by decide +kernel
theorem dX13_unpack_16 : decode cX13_unpack 16 = .ok (.iconst 0, 1) := by decide +kernel
theorem dX13_unpack_17 : decode cX13_unpack 17 = .ok (.istore_n 3, 1) := by decide +kernel
theorem dX13_unpack_18 : decode cX13_unpack 18 = .ok (.iload_n 3, 1) := by decide +kernel
theorem dX13_unpack_19 : decode cX13_unpack 19 = .ok (.bipush 34, 2) := by decide +kernel
theorem dX13_unpack_21 : decode cX13_unpack 21 = .ok (.if_icmp .ge 25, 3) := by decide +kernel
theorem dX13_unpack_24 : decode cX13_unpack 24 = .ok (.aload_n 0, 1) := by decide +kernel
theorem dX13_unpack_25 : decode cX13_unpack 25 = .ok (.getfield 122, 3) := by decide +kernel
theorem dX13_unpack_28 : decode cX13_unpack 28 = .ok (.iload_n 3, 1) := by decide +kernel
theorem dX13_unpack_29 : decode cX13_unpack 29 = .ok (.aload_n 0, 1) := by decide +kernel
theorem dX13_unpack_30 : decode cX13_unpack 30 = .ok (.getfield 141, 3) := by decide +kernel
theorem dX13_unpack_33 : decode cX13_unpack 33 = .ok (.iload_n 2, 1) := by decide +kernel
theorem dX13_unpack_34 : decode cX13_unpack 34 = .ok (.iconst 1, 1) := by decide +kernel
theorem dX13_unpack_35 : decode cX13_unpack 35 = .ok (.iadd, 1) := by decide +kernel
theorem dX13_unpack_36 : decode cX13_unpack 36 = .ok (.iload_n 3, 1) := by decide +kernel
theorem dX13_unpack_37 : decode cX13_unpack 37 = .ok (.iadd, 1) := by decide +kernel
theorem dX13_unpack_38 : decode cX13_unpack 38 = .ok (.iaload, 1) := by decide +kernel
theorem dX13_unpack_39 : decode cX13_unpack 39 = .ok (.iastore, 1) := by decide +kernel
theorem dX13_unpack_40 : decode cX13_unpack 40 = .ok (.iinc 3 1, 3) := by decide +kernel
theorem dX13_unpack_43 : decode cX13_unpack 43 = .ok (.goto (-25), 3) := by decide +kernel
theorem dX13_unpack_46 : decode cX13_unpack 46 = .ok (.iconst 0, 1) := by decide +kernel
theorem dX13_unpack_47 : decode cX13_unpack 47 = .ok (.istore_n 3, 1) := by decide +kernel
theorem dX13_unpack_48 : decode cX13_unpack 48 = .ok (.iload_n 3, 1) := by decide +kernel
theorem dX13_unpack_49 : decode cX13_unpack 49 = .ok (.aload_n 0, 1) := by decide +kernel
theorem dX13_unpack_50 : decode cX13_unpack 50 = .ok (.getfield 551, 3) := by decide +kernel
theorem dX13_unpack_53 : decode cX13_unpack 53 = .ok (.if_icmp .ge 74, 3) := by decide +kernel
theorem dX13_unpack_56 : decode cX13_unpack 56 = .ok (.aload_n 0, 1) := by decide +kernel
theorem dX13_unpack_57 : decode cX13_unpack 57 = .ok (.getfield 125, 3) := by decide +kernel
theorem dX13_unpack_60 : decode cX13_unpack 60 = .ok (.iload_n 3, 1) := by decide +kernel
theorem dX13_unpack_61 : decode cX13_unpack 61 = .ok (.aload_n 0, 1) := by decide +kernel
theorem dX13_unpack_62 : decode cX13_unpack 62 = .ok (.getfield 141, 3) := by decide +kernel
theorem dX13_unpack_65 : decode cX13_unpack 65 = .ok (.iload_n 2, 1) := by decide +kernel
theorem dX13_unpack_66 : decode cX13_unpack 66 = .ok (.bipush 35, 2) := by decide +kernel
theorem dX13_unpack_68 : decode cX13_unpack 68 = .ok (.iadd, 1) := by decide +kernel
theorem dX13_unpack_69 : decode cX13_unpack 69 = .ok (.bipush 9, 2) := by decide +kernel
theorem dX13_unpack_71 : decode cX13_unpack 71 = .ok (.iload_n 3, 1) := by decide +kernel
theorem dX13_unpack_72 : decode cX13_unpack 72 = .ok (.imul, 1) := by decide +kernel
theorem dX13_unpack_73 : decode cX13_unpack 73 = .ok (.iadd, 1) := by decide +kernel
theorem dX13_unpack_74 : decode cX13_unpack 74 = .ok (.iaload, 1) := by decide +kernel
theorem dX13_unpack_75 : decode cX13_unpack 75 = .ok (.iastore, 1) := by decide +kernel
theorem dX13_unpack_76 : decode cX13_unpack 76 = .ok (.iconst 0, 1) := by decide +kernel
theorem dX13_unpack_77 : decode cX13_unpack 77 = .ok (.istore 4, 2) := by decide +kernel
theorem dX13_unpack_79 : decode cX13_unpack 79 = .ok (.iload 4, 2) := by decide +kernel
theorem dX13_unpack_81 : decode cX13_unpack 81 = .ok (.bipush 8, 2) := by decide +kernel
theorem dX13_unpack_83 : decode cX13_unpack 83 = .ok (.if_icmp .ge 38, 3) := by decide +kernel
theorem dX13_unpack_86 : decode cX13_unpack 86 = .ok (.aload_n 0, 1) := by decide +kernel
theorem dX13_unpack_87 : decode cX13_unpack 87 = .ok (.getfield 128, 3) := by decide +kernel
theorem dX13_unpack_90 : decode cX13_unpack 90 = .ok (.bipush 8, 2) := by decide +kernel
theorem dX13_unpack_92 : decode cX13_unpack 92 = .ok (.iload_n 3, 1) := by decide +kernel
theorem dX13_unpack_93 : decode cX13_unpack 93 = .ok (.imul, 1) := by decide +kernel
theorem dX13_unpack_94 : decode cX13_unpack 94 = .ok (.iload 4, 2) := by decide +kernel
theorem dX13_unpack_96 : decode cX13_unpack 96 = .ok (.iadd, 1) := by decide +kernel
theorem dX13_unpack_97 : decode cX13_unpack 97 = .ok (.aload_n 0, 1) := by decide +kernel
theorem dX13_unpack_98 : decode cX13_unpack 98 = .ok (.getfield 141, 3) := by decide +kernel
theorem dX13_unpack_101 : decode cX13_unpack 101 = .ok (.iload_n 2, 1) := by decide +kernel
theorem dX13_unpack_102 : decode cX13_unpack 102 = .ok (.bipush 36, 2) := by decide +kernel
theorem dX13_unpack_104 : decode cX13_unpack 104 = .ok (.iadd, 1) := by decide +kernel
theorem dX13_unpack_105 : decode cX13_unpack 105 = .ok (.bipush 9, 2) := by decide +kernel
theorem dX13_unpack_107 : decode cX13_unpack 107 = .ok (.iload_n 3, 1) := by decide +kernel
theorem dX13_unpack_108 : decode cX13_unpack 108 = .ok (.imul, 1) := by decide +kernel
theorem dX13_unpack_109 : decode cX13_unpack 109 = .ok (.iadd, 1) := by decide +kernel
theorem dX13_unpack_110 : decode cX13_unpack 110 = .ok (.iload 4, 2) := by decide +kernel
theorem dX13_unpack_112 : decode cX13_unpack 112 = .ok (.iadd, 1) := by decide +kernel
theorem dX13_unpack_113 : decode cX13_unpack 113 = .ok (.iaload, 1) := by decide +kernel
theorem dX13_unpack_114 : decode cX13_unpack 114 = .ok (.iastore, 1) := by decide +kernel
theorem dX13_unpack_115 : decode cX13_unpack 115 = .ok (.iinc 4 1, 3) := by decide +kernel
theorem dX13_unpack_118 : decode cX13_unpack 118 = .ok (.goto (-39), 3) := by decide +kernel
theorem dX13_unpack_121 : decode cX13_unpack 121 = .ok (.iinc 3 1, 3) := by decide +kernel
theorem dX13_unpack_124 : decode cX13_unpack 124 = .ok (.goto (-76), 3) := by decide +kernel
theorem dX13_unpack_127 : decode cX13_unpack 127 = .ok (.return_, 1) := by decide +kernel
def w_unpack_79 (C : rCx) (Q : rS → Prop) (B48 : Int32 → Int32 → rS → Prop) (a2 : Int32) (a3 : Int32) (a4 : Int32) (σ : rS) : Prop :=
  ∃ I : Nat → Int32 → Int32 → Int32 → rS → Prop, (∃ n, I n a2 a3 a4 σ) ∧ ∀ n a2 a3 a4 σ, I n a2 a3 a4 σ →
    ((8 : Int32) ≤ a4 →
      ∀ v3_1 : Int32, v3_1 = a3 + (1 : Int32) →
      B48 a2 v3_1 σ) ∧
    (¬ ((8 : Int32) ≤ a4) →
      inb (((a2 + (36 : Int32)) + ((9 : Int32) * a3)) + a4) 143000 ∧
      inb (((8 : Int32) * a3) + a4) 96 ∧
      ∀ σ2, σ2 = riU σ 60 ((((8 : Int32) * a3) + a4)).toNatClampNeg (σ.2.2.1 73 ((((a2 + (36 : Int32)) + ((9 : Int32) * a3)) + a4)).toNatClampNeg) →
      ∀ v4_3 : Int32, v4_3 = a4 + (1 : Int32) →
      ∃ k < n, I k a2 a3 v4_3 σ2)
theorem t_unpack_79 {C : rCx} (hC : cOK C) {Q : rS → Prop} {B48 : Int32 → Int32 → rS → Prop} (hB48 : ∀ a2' a3' τ, B48 a2' a3' τ → wG C 0 m_unpack 48 [some (.ref (co C)), none, some (.int a2'), some (.int a3'), none] [] τ (qV Q)) {a2 : Int32} {a3 : Int32} {a4 : Int32} {σ : rS} (F : w_unpack_79 C Q B48 a2 a3 a4 σ) : wG C 0 m_unpack 79 [some (.ref (co C)), none, some (.int a2), some (.int a3), some (.int a4)] [] σ (qV Q) := by
  obtain ⟨I, ⟨n0, hI0⟩, F0⟩ := F
  have key : ∀ n a2 a3 a4 σ, I n a2 a3 a4 σ → wG C 0 m_unpack 79 [some (.ref (co C)), none, some (.int a2), some (.int a3), some (.int a4)] [] σ (qV Q) := by
    intro n
    induction n using Nat.strongRecOn with
    | _ n ih =>
      intro a2 a3 a4 σ hI
      have F := F0 n a2 a3 a4 σ hI
      clear hI hI0
      refine s_il dX13_unpack_79 rfl ?_
      refine s_bi dX13_unpack_81 kb_8 ?_
      refine s_ii (t := 121) ((8 : Int32) ≤ a4) dX13_unpack_83 rfl rfl (fun hc => ?_) (fun hc => ?_)
      · replace F := F.1 hc
        refine s_incb dX13_unpack_121 ki_1 rfl (Nat.le_of_ble_eq_true rfl) (fun v3_1 ev3_1 => ?_)
        replace F := F v3_1 ev3_1
        refine s_goto (t := 48) dX13_unpack_124 rfl ?_
        exact s_k (hB48 _ _ _ F) ⟨rfl, rfl, rfl, trivial⟩
      · replace F := F.2 hc
        refine s_aln dX13_unpack_86 rfl ?_
        refine gf_128 dX13_unpack_87 rfl ?_
        refine s_bi dX13_unpack_90 kb_8 ?_
        refine s_iln dX13_unpack_92 rfl ?_
        refine s_imul dX13_unpack_93 ?_
        refine s_il dX13_unpack_94 rfl ?_
        refine s_iadd dX13_unpack_96 ?_
        refine s_aln dX13_unpack_97 rfl ?_
        refine gf_141 dX13_unpack_98 rfl ?_
        refine s_iln dX13_unpack_101 rfl ?_
        refine s_bi dX13_unpack_102 kb_36 ?_
        refine s_iadd dX13_unpack_104 ?_
        refine s_bi dX13_unpack_105 kb_9 ?_
        refine s_iln dX13_unpack_107 rfl ?_
        refine s_imul dX13_unpack_108 ?_
        refine s_iadd dX13_unpack_109 ?_
        refine s_il dX13_unpack_110 rfl ?_
        refine s_iadd dX13_unpack_112 ?_
        refine s_ald hC dX13_unpack_113 rt_73 F.1 ?_
        replace F := F.2
        refine s_astb hC dX13_unpack_114 rt_60 F.1 (fun σ2 eσ2 => ?_)
        replace F := F.2 σ2 eσ2
        refine s_incb dX13_unpack_115 ki_1 rfl (Nat.le_of_ble_eq_true rfl) (fun v4_3 ev4_3 => ?_)
        replace F := F v4_3 ev4_3
        refine s_goto (t := 79) dX13_unpack_118 rfl ?_
        obtain ⟨k, hk, hI⟩ := F
        exact s_k (ih k hk _ _ _ _ hI) ⟨rfl, rfl, rfl, rfl, trivial⟩
  exact key n0 a2 a3 a4 σ hI0

def w_unpack_48 (C : rCx) (Q : rS → Prop)  (a2 : Int32) (a3 : Int32) (σ : rS) : Prop :=
  ∃ I : Nat → Int32 → Int32 → rS → Prop, (∃ n, I n a2 a3 σ) ∧ ∀ n a2 a3 σ, I n a2 a3 σ →
    ((σ.1 58) ≤ a3 →
      Q σ) ∧
    (¬ ((σ.1 58) ≤ a3) →
      inb ((a2 + (35 : Int32)) + ((9 : Int32) * a3)) 143000 ∧
      inb a3 12 ∧
      ∀ σ1, σ1 = riU σ 59 (a3).toNatClampNeg (σ.2.2.1 73 (((a2 + (35 : Int32)) + ((9 : Int32) * a3))).toNatClampNeg) →
      w_unpack_79 C Q (fun a2' a3' τ => ∃ k < n, I k a2' a3' τ) a2 a3 (0 : Int32) σ1)
theorem t_unpack_48 {C : rCx} (hC : cOK C) {Q : rS → Prop}   {a2 : Int32} {a3 : Int32} {σ : rS} (F : w_unpack_48 C Q  a2 a3 σ) : wG C 0 m_unpack 48 [some (.ref (co C)), none, some (.int a2), some (.int a3), none] [] σ (qV Q) := by
  obtain ⟨I, ⟨n0, hI0⟩, F0⟩ := F
  have key : ∀ n a2 a3 σ, I n a2 a3 σ → wG C 0 m_unpack 48 [some (.ref (co C)), none, some (.int a2), some (.int a3), none] [] σ (qV Q) := by
    intro n
    induction n using Nat.strongRecOn with
    | _ n ih =>
      intro a2 a3 σ hI
      have F := F0 n a2 a3 σ hI
      clear hI hI0
      refine s_iln dX13_unpack_48 rfl ?_
      refine s_aln dX13_unpack_49 rfl ?_
      refine gf_551 dX13_unpack_50 rfl ?_
      refine s_ii (t := 127) ((σ.1 58) ≤ a3) dX13_unpack_53 rfl rfl (fun hc => ?_) (fun hc => ?_)
      · replace F := F.1 hc
        exact s_rv dX13_unpack_127 rfl F
      · replace F := F.2 hc
        refine s_aln dX13_unpack_56 rfl ?_
        refine gf_125 dX13_unpack_57 rfl ?_
        refine s_iln dX13_unpack_60 rfl ?_
        refine s_aln dX13_unpack_61 rfl ?_
        refine gf_141 dX13_unpack_62 rfl ?_
        refine s_iln dX13_unpack_65 rfl ?_
        refine s_bi dX13_unpack_66 kb_35 ?_
        refine s_iadd dX13_unpack_68 ?_
        refine s_bi dX13_unpack_69 kb_9 ?_
        refine s_iln dX13_unpack_71 rfl ?_
        refine s_imul dX13_unpack_72 ?_
        refine s_iadd dX13_unpack_73 ?_
        refine s_ald hC dX13_unpack_74 rt_73 F.1 ?_
        replace F := F.2
        refine s_astb hC dX13_unpack_75 rt_59 F.1 (fun σ1 eσ1 => ?_)
        replace F := F.2 σ1 eσ1
        refine s_ic dX13_unpack_76 ki_0 ?_
        refine s_is dX13_unpack_77 (Nat.le_of_ble_eq_true rfl) rfl ?_
        exact s_k (t_unpack_79 hC (fun a2' a3' τ hb => by obtain ⟨k, hk, hI⟩ := hb; exact ih k hk a2' a3' τ hI) F) ⟨rfl, rfl, rfl, rfl, trivial⟩
  exact key n0 a2 a3 σ hI0

def w_unpack_18 (C : rCx) (Q : rS → Prop)  (a2 : Int32) (a3 : Int32) (σ : rS) : Prop :=
  ∃ I : Nat → Int32 → Int32 → rS → Prop, (∃ n, I n a2 a3 σ) ∧ ∀ n a2 a3 σ, I n a2 a3 σ →
    ((34 : Int32) ≤ a3 →
      w_unpack_48 C Q  a2 (0 : Int32) σ) ∧
    (¬ ((34 : Int32) ≤ a3) →
      inb ((a2 + (1 : Int32)) + a3) 143000 ∧
      inb a3 34 ∧
      ∀ σ1, σ1 = riU σ 57 (a3).toNatClampNeg (σ.2.2.1 73 (((a2 + (1 : Int32)) + a3)).toNatClampNeg) →
      ∀ v3_2 : Int32, v3_2 = a3 + (1 : Int32) →
      ∃ k < n, I k a2 v3_2 σ1)
theorem t_unpack_18 {C : rCx} (hC : cOK C) {Q : rS → Prop}   {a2 : Int32} {a3 : Int32} {σ : rS} (F : w_unpack_18 C Q  a2 a3 σ) : wG C 0 m_unpack 18 [some (.ref (co C)), none, some (.int a2), some (.int a3), none] [] σ (qV Q) := by
  obtain ⟨I, ⟨n0, hI0⟩, F0⟩ := F
  have key : ∀ n a2 a3 σ, I n a2 a3 σ → wG C 0 m_unpack 18 [some (.ref (co C)), none, some (.int a2), some (.int a3), none] [] σ (qV Q) := by
    intro n
    induction n using Nat.strongRecOn with
    | _ n ih =>
      intro a2 a3 σ hI
      have F := F0 n a2 a3 σ hI
      clear hI hI0
      refine s_iln dX13_unpack_18 rfl ?_
      refine s_bi dX13_unpack_19 kb_34 ?_
      refine s_ii (t := 46) ((34 : Int32) ≤ a3) dX13_unpack_21 rfl rfl (fun hc => ?_) (fun hc => ?_)
      · replace F := F.1 hc
        refine s_ic dX13_unpack_46 ki_0 ?_
        refine s_isn dX13_unpack_47 (Nat.le_of_ble_eq_true rfl) rfl ?_
        exact s_k (t_unpack_48 hC  F) ⟨rfl, rfl, rfl, trivial⟩
      · replace F := F.2 hc
        refine s_aln dX13_unpack_24 rfl ?_
        refine gf_122 dX13_unpack_25 rfl ?_
        refine s_iln dX13_unpack_28 rfl ?_
        refine s_aln dX13_unpack_29 rfl ?_
        refine gf_141 dX13_unpack_30 rfl ?_
        refine s_iln dX13_unpack_33 rfl ?_
        refine s_ic dX13_unpack_34 ki_1 ?_
        refine s_iadd dX13_unpack_35 ?_
        refine s_iln dX13_unpack_36 rfl ?_
        refine s_iadd dX13_unpack_37 ?_
        refine s_ald hC dX13_unpack_38 rt_73 F.1 ?_
        replace F := F.2
        refine s_astb hC dX13_unpack_39 rt_57 F.1 (fun σ1 eσ1 => ?_)
        replace F := F.2 σ1 eσ1
        refine s_incb dX13_unpack_40 ki_1 rfl (Nat.le_of_ble_eq_true rfl) (fun v3_2 ev3_2 => ?_)
        replace F := F v3_2 ev3_2
        refine s_goto (t := 18) dX13_unpack_43 rfl ?_
        obtain ⟨k, hk, hI⟩ := F
        exact s_k (ih k hk _ _ _ hI) ⟨rfl, rfl, rfl, trivial⟩
  exact key n0 a2 a3 σ hI0

def w_unpack_0 (C : rCx) (Q : rS → Prop)  (a1 : Int32) (σ : rS) : Prop :=
  ∀ v2_1 : Int32, v2_1 = ((143 : Int32) * a1) →
  inb v2_1 143000 ∧
  ∀ σ2, σ2 = siU σ 58 (σ.2.2.1 73 (v2_1).toNatClampNeg) →
  w_unpack_18 C Q  v2_1 (0 : Int32) σ2
theorem t_unpack_0 {C : rCx} (hC : cOK C) {Q : rS → Prop}   {a1 : Int32} {σ : rS} (F : w_unpack_0 C Q  a1 σ) : wG C 0 m_unpack 0 [some (.ref (co C)), some (.int a1), none, none, none] [] σ (qV Q) := by
  unfold w_unpack_0 at F
  refine s_si dX13_unpack_0 ks_143 ?_
  refine s_iln dX13_unpack_3 rfl ?_
  refine s_imul dX13_unpack_4 ?_
  refine s_isnb dX13_unpack_5 (Nat.le_of_ble_eq_true rfl) (fun v2_1 ev2_1 => ?_)
  replace F := F v2_1 ev2_1
  refine s_aln dX13_unpack_6 rfl ?_
  refine s_aln dX13_unpack_7 rfl ?_
  refine gf_141 dX13_unpack_8 rfl ?_
  refine s_iln dX13_unpack_11 rfl ?_
  refine s_ald hC dX13_unpack_12 rt_73 F.1 ?_
  replace F := F.2
  refine pf_551 hC dX13_unpack_13 rfl (fun σ2 eσ2 => ?_)
  replace F := F σ2 eσ2
  refine s_ic dX13_unpack_16 ki_0 ?_
  refine s_isn dX13_unpack_17 (Nat.le_of_ble_eq_true rfl) rfl ?_
  exact s_k (t_unpack_18 hC  F) ⟨rfl, rfl, rfl, trivial⟩

theorem m_unpack_run {C : rCx} (hC : cOK C) {Q : rS → Prop} {a1 : Int32} {σ : rS} (F : w_unpack_0 C Q a1 σ) : cV C 0 m_unpack [.ref (co C), .int a1] σ Q := m_V (m_ent _ 3) (t_unpack_0 hC F)

theorem dX13_isKey_0 : decode cX13_isKey 0 = .ok (.iconst 1, 1) := by decide +kernel
theorem dX13_isKey_1 : decode cX13_isKey 1 = .ok (.istore_n 2, 1) := by decide +kernel
theorem dX13_isKey_2 : decode cX13_isKey 2 = .ok (.iconst 0, 1) := by decide +kernel
theorem dX13_isKey_3 : decode cX13_isKey 3 = .ok (.istore_n 3, 1) := by decide +kernel
theorem dX13_isKey_4 : decode cX13_isKey 4 = .ok (.iload_n 3, 1) := by decide +kernel
theorem dX13_isKey_5 : decode cX13_isKey 5 = .ok (.sipush 143, 3) := by decide +kernel
theorem dX13_isKey_8 : decode cX13_isKey 8 = .ok (.if_icmp .ge 40, 3) := by decide +kernel
theorem dX13_isKey_11 : decode cX13_isKey 11 = .ok (.iload_n 2, 1) := by decide +kernel
theorem dX13_isKey_12 : decode cX13_isKey 12 = .ok (.ifCond .eq 36, 3) := by decide +kernel
theorem dX13_isKey_15 : decode cX13_isKey 15 = .ok (.aload_n 0, 1) := by decide +kernel
theorem dX13_isKey_16 : decode cX13_isKey 16 = .ok (.getfield 141, 3) := by decide +kernel
theorem dX13_isKey_19 : decode cX13_isKey 19 = .ok (.sipush 143, 3) := by decide +kernel
theorem dX13_isKey_22 : decode cX13_isKey 22 = .ok (.iload_n 1, 1) := by decide +kernel
theorem dX13_isKey_23 : decode cX13_isKey 23 = .ok (.imul, 1) := by decide +kernel
theorem dX13_isKey_24 : decode cX13_isKey 24 = .ok (.iload_n 3, 1) := by decide +kernel
theorem dX13_isKey_25 : decode cX13_isKey 25 = .ok (.iadd, 1) := by decide +kernel
theorem dX13_isKey_26 : decode cX13_isKey 26 = .ok (.iaload, 1) := by decide +kernel
theorem dX13_isKey_27 : decode cX13_isKey 27 = .ok (.aload_n 0, 1) := by decide +kernel
theorem dX13_isKey_28 : decode cX13_isKey 28 = .ok (.getfield 175, 3) := by decide +kernel
theorem dX13_isKey_31 : decode cX13_isKey 31 = .ok (.iload_n 3, 1) := by decide +kernel
theorem dX13_isKey_32 : decode cX13_isKey 32 = .ok (.iaload, 1) := by decide +kernel
theorem dX13_isKey_33 : decode cX13_isKey 33 = .ok (.if_icmp .ne 7, 3) := by decide +kernel
theorem dX13_isKey_36 : decode cX13_isKey 36 = .ok (.iconst 1, 1) := by decide +kernel
theorem dX13_isKey_37 : decode cX13_isKey 37 = .ok (.goto 4, 3) := by decide +kernel
theorem dX13_isKey_40 : decode cX13_isKey 40 = .ok (.iconst 0, 1) := by decide +kernel
theorem dX13_isKey_41 : decode cX13_isKey 41 = .ok (.istore_n 2, 1) := by decide +kernel
theorem dX13_isKey_42 : decode cX13_isKey 42 = .ok (.iinc 3 1, 3) := by decide +kernel
theorem dX13_isKey_45 : decode cX13_isKey 45 = .ok (.goto (-41), 3) := by decide +kernel
theorem dX13_isKey_48 : decode cX13_isKey 48 = .ok (.iload_n 2, 1) := by decide +kernel
theorem dX13_isKey_49 : decode cX13_isKey 49 = .ok (.ireturn, 1) := by decide +kernel
def w_isKey_41 (C : rCx) (Q : Int32 → rS → Prop) (B4 : Int32 → Int32 → Int32 → rS → Prop) (a1 : Int32) (a3 : Int32) (s0 : Int32) (σ : rS) : Prop :=
  ∀ v3_1 : Int32, v3_1 = a3 + (1 : Int32) →
  B4 a1 s0 v3_1 σ
theorem t_isKey_41 {C : rCx} (hC : cOK C) {Q : Int32 → rS → Prop} {B4 : Int32 → Int32 → Int32 → rS → Prop} (hB4 : ∀ a1' a2' a3' τ, B4 a1' a2' a3' τ → wG C 0 m_isKey 4 [some (.ref (co C)), some (.int a1'), some (.int a2'), some (.int a3')] [] τ (qI Q)) {a1 : Int32} {a3 : Int32} {s0 : Int32} {σ : rS} (F : w_isKey_41 C Q B4 a1 a3 s0 σ) : wG C 0 m_isKey 41 [some (.ref (co C)), some (.int a1), none, some (.int a3)] [.int s0] σ (qI Q) := by
  unfold w_isKey_41 at F
  refine s_isn dX13_isKey_41 (Nat.le_of_ble_eq_true rfl) rfl ?_
  refine s_incb dX13_isKey_42 ki_1 rfl (Nat.le_of_ble_eq_true rfl) (fun v3_1 ev3_1 => ?_)
  replace F := F v3_1 ev3_1
  refine s_goto (t := 4) dX13_isKey_45 rfl ?_
  exact s_k (hB4 _ _ _ _ F) ⟨rfl, rfl, rfl, rfl, trivial⟩

def w_isKey_4 (C : rCx) (Q : Int32 → rS → Prop)  (a1 : Int32) (a2 : Int32) (a3 : Int32) (σ : rS) : Prop :=
  ∃ I : Nat → Int32 → Int32 → Int32 → rS → Prop, (∃ n, I n a1 a2 a3 σ) ∧ ∀ n a1 a2 a3 σ, I n a1 a2 a3 σ →
    ((143 : Int32) ≤ a3 →
      nb a2 ∧ Q a2 σ) ∧
    (¬ ((143 : Int32) ≤ a3) →
      (a2 = 0 →
        nb a2 ∧ Q a2 σ) ∧
      (¬ (a2 = 0) →
        inb (((143 : Int32) * a1) + a3) 143000 ∧
        inb a3 143 ∧
        (¬ ((σ.2.2.1 73 ((((143 : Int32) * a1) + a3)).toNatClampNeg) = (σ.2.2.1 84 (a3).toNatClampNeg)) →
          w_isKey_41 C Q (fun a1' a2' a3' τ => ∃ k < n, I k a1' a2' a3' τ) a1 a3 (0 : Int32) σ) ∧
        ((σ.2.2.1 73 ((((143 : Int32) * a1) + a3)).toNatClampNeg) = (σ.2.2.1 84 (a3).toNatClampNeg) →
          w_isKey_41 C Q (fun a1' a2' a3' τ => ∃ k < n, I k a1' a2' a3' τ) a1 a3 (1 : Int32) σ)))
theorem t_isKey_4 {C : rCx} (hC : cOK C) {Q : Int32 → rS → Prop}   {a1 : Int32} {a2 : Int32} {a3 : Int32} {σ : rS} (F : w_isKey_4 C Q  a1 a2 a3 σ) : wG C 0 m_isKey 4 [some (.ref (co C)), some (.int a1), some (.int a2), some (.int a3)] [] σ (qI Q) := by
  obtain ⟨I, ⟨n0, hI0⟩, F0⟩ := F
  have key : ∀ n a1 a2 a3 σ, I n a1 a2 a3 σ → wG C 0 m_isKey 4 [some (.ref (co C)), some (.int a1), some (.int a2), some (.int a3)] [] σ (qI Q) := by
    intro n
    induction n using Nat.strongRecOn with
    | _ n ih =>
      intro a1 a2 a3 σ hI
      have F := F0 n a1 a2 a3 σ hI
      clear hI hI0
      refine s_iln dX13_isKey_4 rfl ?_
      refine s_si dX13_isKey_5 ks_143 ?_
      refine s_ii (t := 48) ((143 : Int32) ≤ a3) dX13_isKey_8 rfl rfl (fun hc => ?_) (fun hc => ?_)
      · replace F := F.1 hc
        refine s_iln dX13_isKey_48 rfl ?_
        exact s_ri dX13_isKey_49 rfl (nb_nar F.1) F.2
      · replace F := F.2 hc
        refine s_iln dX13_isKey_11 rfl ?_
        refine s_i (t := 48) (a2 = 0) dX13_isKey_12 rfl rfl (fun hc => ?_) (fun hc => ?_)
        · replace F := F.1 hc
          refine s_iln dX13_isKey_48 rfl ?_
          exact s_ri dX13_isKey_49 rfl (nb_nar F.1) F.2
        · replace F := F.2 hc
          refine s_aln dX13_isKey_15 rfl ?_
          refine gf_141 dX13_isKey_16 rfl ?_
          refine s_si dX13_isKey_19 ks_143 ?_
          refine s_iln dX13_isKey_22 rfl ?_
          refine s_imul dX13_isKey_23 ?_
          refine s_iln dX13_isKey_24 rfl ?_
          refine s_iadd dX13_isKey_25 ?_
          refine s_ald hC dX13_isKey_26 rt_73 F.1 ?_
          replace F := F.2
          refine s_aln dX13_isKey_27 rfl ?_
          refine gf_175 dX13_isKey_28 rfl ?_
          refine s_iln dX13_isKey_31 rfl ?_
          refine s_ald hC dX13_isKey_32 rt_84 F.1 ?_
          replace F := F.2
          refine s_iin (t := 40) ((σ.2.2.1 73 ((((143 : Int32) * a1) + a3)).toNatClampNeg) = (σ.2.2.1 84 (a3).toNatClampNeg)) dX13_isKey_33 rfl rfl (fun hc => ?_) (fun hc => ?_)
          · replace F := F.1 hc
            refine s_ic dX13_isKey_40 ki_0 ?_
            exact s_k (t_isKey_41 hC (fun a1' a2' a3' τ hb => by obtain ⟨k, hk, hI⟩ := hb; exact ih k hk a1' a2' a3' τ hI) F) ⟨rfl, rfl, rfl, trivial⟩
          · replace F := F.2 hc
            refine s_ic dX13_isKey_36 ki_1 ?_
            refine s_goto (t := 41) dX13_isKey_37 rfl ?_
            exact s_k (t_isKey_41 hC (fun a1' a2' a3' τ hb => by obtain ⟨k, hk, hI⟩ := hb; exact ih k hk a1' a2' a3' τ hI) F) ⟨rfl, rfl, rfl, trivial⟩
  exact key n0 a1 a2 a3 σ hI0

def w_isKey_0 (C : rCx) (Q : Int32 → rS → Prop)  (a1 : Int32) (σ : rS) : Prop :=
  w_isKey_4 C Q  a1 (1 : Int32) (0 : Int32) σ
theorem t_isKey_0 {C : rCx} (hC : cOK C) {Q : Int32 → rS → Prop}   {a1 : Int32} {σ : rS} (F : w_isKey_0 C Q  a1 σ) : wG C 0 m_isKey 0 [some (.ref (co C)), some (.int a1), none, none] [] σ (qI Q) := by
  unfold w_isKey_0 at F
  refine s_ic dX13_isKey_0 ki_1 ?_
  refine s_isn dX13_isKey_1 (Nat.le_of_ble_eq_true rfl) rfl ?_
  refine s_ic dX13_isKey_2 ki_0 ?_
  refine s_isn dX13_isKey_3 (Nat.le_of_ble_eq_true rfl) rfl ?_
  exact s_k (t_isKey_4 hC  F) ⟨rfl, rfl, rfl, rfl, trivial⟩

theorem m_isKey_run {C : rCx} (hC : cOK C) {Q : Int32 → rS → Prop} {a1 : Int32} {σ : rS} (F : w_isKey_0 C Q a1 σ) : cI C 0 m_isKey [.ref (co C), .int a1] σ Q := m_I (m_ent _ 2) (t_isKey_0 hC F)

theorem dX13_stateNow_0 : decode cX13_stateNow 0 = .ok (.aload_n 0, 1) := by decide +kernel
theorem dX13_stateNow_1 : decode cX13_stateNow 1 = .ok (.invokevirtual 600, 3) := by decide +kernel
theorem dX13_stateNow_4 : decode cX13_stateNow 4 = .ok (.istore_n 1, 1) := by decide +kernel
theorem dX13_stateNow_5 : decode cX13_stateNow 5 = .ok (.iconst 0, 1) := by decide +kernel
theorem dX13_stateNow_6 : decode cX13_stateNow 6 = .ok (.istore_n 2, 1) := by decide +kernel
theorem dX13_stateNow_7 : decode cX13_stateNow 7 = .ok (.iload_n 2, 1) := by decide +kernel
theorem dX13_stateNow_8 : decode cX13_stateNow 8 = .ok (.aload_n 0, 1) := by decide +kernel
theorem dX13_stateNow_9 : decode cX13_stateNow 9 = .ok (.getfield 542, 3) := by decide +kernel
theorem dX13_stateNow_12 : decode cX13_stateNow 12 = .ok (.if_icmp .ge 29, 3) := by decide +kernel
theorem dX13_stateNow_15 : decode cX13_stateNow 15 = .ok (.aload_n 0, 1) := by decide +kernel
theorem dX13_stateNow_16 : decode cX13_stateNow 16 = .ok (.getfield 144, 3) := by decide +kernel
theorem dX13_stateNow_19 : decode cX13_stateNow 19 = .ok (.iload_n 2, 1) := by decide +kernel
theorem dX13_stateNow_20 : decode cX13_stateNow 20 = .ok (.iaload, 1) := by decide +kernel
theorem dX13_stateNow_21 : decode cX13_stateNow 21 = .ok (.iload_n 1, 1) := by decide +kernel
theorem dX13_stateNow_22 : decode cX13_stateNow 22 = .ok (.if_icmp .ne 13, 3) := by decide +kernel
theorem dX13_stateNow_25 : decode cX13_stateNow 25 = .ok (.aload_n 0, 1) := by decide +kernel
theorem dX13_stateNow_26 : decode cX13_stateNow 26 = .ok (.iload_n 2, 1) := by decide +kernel
theorem dX13_stateNow_27 : decode cX13_stateNow 27 = .ok (.invokevirtual 603, 3) := by decide +kernel
theorem dX13_stateNow_30 : decode cX13_stateNow 30 = .ok (.ifCond .eq 5, 3) := by decide +kernel
theorem dX13_stateNow_33 : decode cX13_stateNow 33 = .ok (.iload_n 2, 1) := by decide +kernel
theorem dX13_stateNow_34 : decode cX13_stateNow 34 = .ok (.ireturn, 1) := by decide +kernel
theorem dX13_stateNow_35 : decode cX13_stateNow 35 = .ok (.iinc 2 1, 3) := by decide +kernel
theorem dX13_stateNow_38 : decode cX13_stateNow 38 = .ok (.goto (-31), 3) := by decide +kernel
theorem dX13_stateNow_41 : decode cX13_stateNow 41 = .ok (.iconst (-1), 1) := by decide +kernel
theorem dX13_stateNow_42 : decode cX13_stateNow 42 = .ok (.ireturn, 1) := by decide +kernel
def w_stateNow_7 (C : rCx) (Q : Int32 → rS → Prop)  (a1 : Int32) (a2 : Int32) (σ : rS) : Prop :=
  ∃ I : Nat → Int32 → Int32 → rS → Prop, (∃ n, I n a1 a2 σ) ∧ ∀ n a1 a2 σ, I n a1 a2 σ →
    ((σ.1 70) ≤ a2 →
      Q (-1 : Int32) σ) ∧
    (¬ ((σ.1 70) ≤ a2) →
      inb a2 1000 ∧
      (¬ ((σ.2.2.1 74 (a2).toNatClampNeg) = a1) →
        ∀ v2_1 : Int32, v2_1 = a2 + (1 : Int32) →
        ∃ k < n, I k a1 v2_1 σ) ∧
      ((σ.2.2.1 74 (a2).toNatClampNeg) = a1 →
        cI C 0 m_isKey [.ref (co C), .int a2] σ (fun r3 σ2 =>
          (r3 = 0 →
            ∀ v2_4 : Int32, v2_4 = a2 + (1 : Int32) →
            ∃ k < n, I k a1 v2_4 σ2) ∧
          (¬ (r3 = 0) →
            Q a2 σ2))))
theorem t_stateNow_7 {C : rCx} (hC : cOK C) {Q : Int32 → rS → Prop}   {a1 : Int32} {a2 : Int32} {σ : rS} (F : w_stateNow_7 C Q  a1 a2 σ) : wG C 1 m_stateNow 7 [some (.ref (co C)), some (.int a1), some (.int a2)] [] σ (qI Q) := by
  obtain ⟨I, ⟨n0, hI0⟩, F0⟩ := F
  have key : ∀ n a1 a2 σ, I n a1 a2 σ → wG C 1 m_stateNow 7 [some (.ref (co C)), some (.int a1), some (.int a2)] [] σ (qI Q) := by
    intro n
    induction n using Nat.strongRecOn with
    | _ n ih =>
      intro a1 a2 σ hI
      have F := F0 n a1 a2 σ hI
      clear hI hI0
      refine s_iln dX13_stateNow_7 rfl ?_
      refine s_aln dX13_stateNow_8 rfl ?_
      refine gf_542 dX13_stateNow_9 rfl ?_
      refine s_ii (t := 41) ((σ.1 70) ≤ a2) dX13_stateNow_12 rfl rfl (fun hc => ?_) (fun hc => ?_)
      · replace F := F.1 hc
        refine s_ic dX13_stateNow_41 ki_m1 ?_
        exact s_ri dX13_stateNow_42 rfl in_nar F
      · replace F := F.2 hc
        refine s_aln dX13_stateNow_15 rfl ?_
        refine gf_144 dX13_stateNow_16 rfl ?_
        refine s_iln dX13_stateNow_19 rfl ?_
        refine s_ald hC dX13_stateNow_20 rt_74 F.1 ?_
        replace F := F.2
        refine s_iln dX13_stateNow_21 rfl ?_
        refine s_iin (t := 35) ((σ.2.2.1 74 (a2).toNatClampNeg) = a1) dX13_stateNow_22 rfl rfl (fun hc => ?_) (fun hc => ?_)
        · replace F := F.1 hc
          refine s_incb dX13_stateNow_35 ki_1 rfl (Nat.le_of_ble_eq_true rfl) (fun v2_1 ev2_1 => ?_)
          replace F := F v2_1 ev2_1
          refine s_goto (t := 7) dX13_stateNow_38 rfl ?_
          obtain ⟨k, hk, hI⟩ := F
          exact s_k (ih k hk _ _ _ hI) ⟨rfl, rfl, rfl, trivial⟩
        · replace F := F.2 hc
          refine s_aln dX13_stateNow_25 rfl ?_
          refine s_iln dX13_stateNow_26 rfl ?_
          refine k_603 dX13_stateNow_27 rfl (Nat.le_of_ble_eq_true rfl) (Nat.le_of_ble_eq_true rfl) F (fun r3 σ2 F => ?_)
          refine s_i (t := 35) (r3 = 0) dX13_stateNow_30 rfl rfl (fun hc => ?_) (fun hc => ?_)
          · replace F := F.1 hc
            refine s_incb dX13_stateNow_35 ki_1 rfl (Nat.le_of_ble_eq_true rfl) (fun v2_4 ev2_4 => ?_)
            replace F := F v2_4 ev2_4
            refine s_goto (t := 7) dX13_stateNow_38 rfl ?_
            obtain ⟨k, hk, hI⟩ := F
            exact s_k (ih k hk _ _ _ hI) ⟨rfl, rfl, rfl, trivial⟩
          · replace F := F.2 hc
            refine s_iln dX13_stateNow_33 rfl ?_
            exact s_ri dX13_stateNow_34 rfl in_nar F
  exact key n0 a1 a2 σ hI0

def w_stateNow_0 (C : rCx) (Q : Int32 → rS → Prop)   (σ : rS) : Prop :=
  cI C 0 m_pack [.ref (co C)] σ (fun r2 σ1 =>
    w_stateNow_7 C Q  r2 (0 : Int32) σ1)
theorem t_stateNow_0 {C : rCx} (hC : cOK C) {Q : Int32 → rS → Prop}    {σ : rS} (F : w_stateNow_0 C Q   σ) : wG C 1 m_stateNow 0 [some (.ref (co C)), none, none] [] σ (qI Q) := by
  unfold w_stateNow_0 at F
  refine s_aln dX13_stateNow_0 rfl ?_
  refine k_600 dX13_stateNow_1 rfl (Nat.le_of_ble_eq_true rfl) (Nat.le_of_ble_eq_true rfl) F (fun r2 σ1 F => ?_)
  refine s_isn dX13_stateNow_4 (Nat.le_of_ble_eq_true rfl) rfl ?_
  refine s_ic dX13_stateNow_5 ki_0 ?_
  refine s_isn dX13_stateNow_6 (Nat.le_of_ble_eq_true rfl) rfl ?_
  exact s_k (t_stateNow_7 hC  F) ⟨rfl, rfl, rfl, trivial⟩

theorem m_stateNow_run {C : rCx} (hC : cOK C) {Q : Int32 → rS → Prop}  {σ : rS} (F : w_stateNow_0 C Q  σ) : cI C 1 m_stateNow [.ref (co C)] σ Q := m_I (m_ent _ 2) (t_stateNow_0 hC F)

theorem dX13_stateNumber_0 : decode cX13_stateNumber 0 = .ok (.aload_n 0, 1) := by decide +kernel
theorem dX13_stateNumber_1 : decode cX13_stateNumber 1 = .ok (.invokevirtual 606, 3) := by decide +kernel
theorem dX13_stateNumber_4 : decode cX13_stateNumber 4 = .ok (.istore_n 1, 1) := by decide +kernel
theorem dX13_stateNumber_5 : decode cX13_stateNumber 5 = .ok (.iload_n 1, 1) := by decide +kernel
theorem dX13_stateNumber_6 : decode cX13_stateNumber 6 = .ok (.iconst (-1), 1) := by decide +kernel
theorem dX13_stateNumber_7 : decode cX13_stateNumber 7 = .ok (.if_icmp .ne 14, 3) := by decide +kernel
theorem dX13_stateNumber_10 : decode cX13_stateNumber 10 = .ok (.aload_n 0, 1) := by decide +kernel
theorem dX13_stateNumber_11 : decode cX13_stateNumber 11 = .ok (.getfield 542, 3) := by decide +kernel
theorem dX13_stateNumber_14 : decode cX13_stateNumber 14 = .ok (.aload_n 0, 1) := by decide +kernel
theorem dX13_stateNumber_15 : decode cX13_stateNumber 15 = .ok (.getfield 609, 3) := by decide +kernel
theorem dX13_stateNumber_18 : decode cX13_stateNumber 18 = .ok (.if_icmp .ne 5, 3) := by decide +kernel
theorem dX13_stateNumber_21 : decode cX13_stateNumber 21 = .ok (.iload_n 1, 1) := by decide +kernel
theorem dX13_stateNumber_22 : decode cX13_stateNumber 22 = .ok (.ireturn, 1) := by decide +kernel
theorem dX13_stateNumber_23 : decode cX13_stateNumber 23 = .ok (.aload_n 0, 1) := by decide +kernel
theorem dX13_stateNumber_24 : decode cX13_stateNumber 24 = .ok (.getfield 144, 3) := by decide +kernel
theorem dX13_stateNumber_27 : decode cX13_stateNumber 27 = .ok (.aload_n 0, 1) := by decide +kernel
theorem dX13_stateNumber_28 : decode cX13_stateNumber 28 = .ok (.getfield 542, 3) := by decide +kernel
theorem dX13_stateNumber_31 : decode cX13_stateNumber 31 = .ok (.aload_n 0, 1) := by decide +kernel
theorem dX13_stateNumber_32 : decode cX13_stateNumber 32 = .ok (.invokevirtual 600, 3) := by decide +kernel
theorem dX13_stateNumber_35 : decode cX13_stateNumber 35 = .ok (.iastore, 1) := by decide +kernel
theorem dX13_stateNumber_36 : decode cX13_stateNumber 36 = .ok (.iconst 0, 1) := by decide +kernel
theorem dX13_stateNumber_37 : decode cX13_stateNumber 37 = .ok (.istore_n 2, 1) := by decide +kernel
theorem dX13_stateNumber_38 : decode cX13_stateNumber 38 = .ok (.iload_n 2, 1) := by decide +kernel
theorem dX13_stateNumber_39 : decode cX13_stateNumber 39 = .ok (.sipush 143, 3) := by decide +kernel
theorem dX13_stateNumber_42 : decode cX13_stateNumber 42 = .ok (.if_icmp .ge 30, 3) := by decide +kernel
theorem dX13_stateNumber_45 : decode cX13_stateNumber 45 = .ok (.aload_n 0, 1) := by decide +kernel
theorem dX13_stateNumber_46 : decode cX13_stateNumber 46 = .ok (.getfield 141, 3) := by decide +kernel
theorem dX13_stateNumber_49 : decode cX13_stateNumber 49 = .ok (.sipush 143, 3) := by decide +kernel
theorem dX13_stateNumber_52 : decode cX13_stateNumber 52 = .ok (.aload_n 0, 1) := by decide +kernel
theorem dX13_stateNumber_53 : decode cX13_stateNumber 53 = .ok (.getfield 542, 3) := by decide +kernel
theorem dX13_stateNumber_56 : decode cX13_stateNumber 56 = .ok (.imul, 1) := by decide +kernel
theorem dX13_stateNumber_57 : decode cX13_stateNumber 57 = .ok (.iload_n 2, 1) := by decide +kernel
theorem dX13_stateNumber_58 : decode cX13_stateNumber 58 = .ok (.iadd, 1) := by decide +kernel
theorem dX13_stateNumber_59 : decode cX13_stateNumber 59 = .ok (.aload_n 0, 1) := by decide +kernel
theorem dX13_stateNumber_60 : decode cX13_stateNumber 60 = .ok (.getfield 175, 3) := by decide +kernel
theorem dX13_stateNumber_63 : decode cX13_stateNumber 63 = .ok (.iload_n 2, 1) := by decide +kernel
theorem dX13_stateNumber_64 : decode cX13_stateNumber 64 = .ok (.iaload, 1) := by decide +kernel
theorem dX13_stateNumber_65 : decode cX13_stateNumber 65 = .ok (.iastore, 1) := by decide +kernel
theorem dX13_stateNumber_66 : decode cX13_stateNumber 66 = .ok (.iinc 2 1, 3) := by decide +kernel
theorem dX13_stateNumber_69 : decode cX13_stateNumber 69 = .ok (.goto (-31), 3) := by decide +kernel
theorem dX13_stateNumber_72 : decode cX13_stateNumber 72 = .ok (.aload_n 0, 1) := by decide +kernel
theorem dX13_stateNumber_73 : decode cX13_stateNumber 73 = .ok (.dup, 1) := by decide +kernel
theorem dX13_stateNumber_74 : decode cX13_stateNumber 74 = .ok (.getfield 542, 3) := by decide +kernel
theorem dX13_stateNumber_77 : decode cX13_stateNumber 77 = .ok (.iconst 1, 1) := by decide +kernel
theorem dX13_stateNumber_78 : decode cX13_stateNumber 78 = .ok (.iadd, 1) := by decide +kernel
theorem dX13_stateNumber_79 : decode cX13_stateNumber 79 = .ok (.putfield 542, 3) := by decide +kernel
theorem dX13_stateNumber_82 : decode cX13_stateNumber 82 = .ok (.aload_n 0, 1) := by decide +kernel
theorem dX13_stateNumber_83 : decode cX13_stateNumber 83 = .ok (.getfield 542, 3) := by decide +kernel
theorem dX13_stateNumber_86 : decode cX13_stateNumber 86 = .ok (.iconst 1, 1) := by decide +kernel
theorem dX13_stateNumber_87 : decode cX13_stateNumber 87 = .ok (.isub, 1) := by decide +kernel
theorem dX13_stateNumber_88 : decode cX13_stateNumber 88 = .ok (.ireturn, 1) := by decide +kernel
def w_stateNumber_38 (C : rCx) (Q : Int32 → rS → Prop)  (a2 : Int32) (σ : rS) : Prop :=
  ∃ I : Nat → Int32 → rS → Prop, (∃ n, I n a2 σ) ∧ ∀ n a2 σ, I n a2 σ →
    ((143 : Int32) ≤ a2 →
      ∀ σ1, σ1 = siU σ 70 ((σ.1 70) + (1 : Int32)) →
      Q ((σ1.1 70) - (1 : Int32)) σ1) ∧
    (¬ ((143 : Int32) ≤ a2) →
      inb a2 143 ∧
      inb (((143 : Int32) * (σ.1 70)) + a2) 143000 ∧
      ∀ σ2, σ2 = riU σ 73 ((((143 : Int32) * (σ.1 70)) + a2)).toNatClampNeg (σ.2.2.1 84 (a2).toNatClampNeg) →
      ∀ v2_3 : Int32, v2_3 = a2 + (1 : Int32) →
      ∃ k < n, I k v2_3 σ2)
theorem t_stateNumber_38 {C : rCx} (hC : cOK C) {Q : Int32 → rS → Prop}   {a2 : Int32} {σ : rS} (F : w_stateNumber_38 C Q  a2 σ) : wG C 2 m_stateNumber 38 [some (.ref (co C)), none, some (.int a2)] [] σ (qI Q) := by
  obtain ⟨I, ⟨n0, hI0⟩, F0⟩ := F
  have key : ∀ n a2 σ, I n a2 σ → wG C 2 m_stateNumber 38 [some (.ref (co C)), none, some (.int a2)] [] σ (qI Q) := by
    intro n
    induction n using Nat.strongRecOn with
    | _ n ih =>
      intro a2 σ hI
      have F := F0 n a2 σ hI
      clear hI hI0
      refine s_iln dX13_stateNumber_38 rfl ?_
      refine s_si dX13_stateNumber_39 ks_143 ?_
      refine s_ii (t := 72) ((143 : Int32) ≤ a2) dX13_stateNumber_42 rfl rfl (fun hc => ?_) (fun hc => ?_)
      · replace F := F.1 hc
        refine s_aln dX13_stateNumber_72 rfl ?_
        refine s_dup dX13_stateNumber_73 rfl ?_
        refine gf_542 dX13_stateNumber_74 rfl ?_
        refine s_ic dX13_stateNumber_77 ki_1 ?_
        refine s_iadd dX13_stateNumber_78 ?_
        refine pf_542 hC dX13_stateNumber_79 rfl (fun σ1 eσ1 => ?_)
        replace F := F σ1 eσ1
        refine s_aln dX13_stateNumber_82 rfl ?_
        refine gf_542 dX13_stateNumber_83 rfl ?_
        refine s_ic dX13_stateNumber_86 ki_1 ?_
        refine s_isub dX13_stateNumber_87 ?_
        exact s_ri dX13_stateNumber_88 rfl in_nar F
      · replace F := F.2 hc
        refine s_aln dX13_stateNumber_45 rfl ?_
        refine gf_141 dX13_stateNumber_46 rfl ?_
        refine s_si dX13_stateNumber_49 ks_143 ?_
        refine s_aln dX13_stateNumber_52 rfl ?_
        refine gf_542 dX13_stateNumber_53 rfl ?_
        refine s_imul dX13_stateNumber_56 ?_
        refine s_iln dX13_stateNumber_57 rfl ?_
        refine s_iadd dX13_stateNumber_58 ?_
        refine s_aln dX13_stateNumber_59 rfl ?_
        refine gf_175 dX13_stateNumber_60 rfl ?_
        refine s_iln dX13_stateNumber_63 rfl ?_
        refine s_ald hC dX13_stateNumber_64 rt_84 F.1 ?_
        replace F := F.2
        refine s_astb hC dX13_stateNumber_65 rt_73 F.1 (fun σ2 eσ2 => ?_)
        replace F := F.2 σ2 eσ2
        refine s_incb dX13_stateNumber_66 ki_1 rfl (Nat.le_of_ble_eq_true rfl) (fun v2_3 ev2_3 => ?_)
        replace F := F v2_3 ev2_3
        refine s_goto (t := 38) dX13_stateNumber_69 rfl ?_
        obtain ⟨k, hk, hI⟩ := F
        exact s_k (ih k hk _ _ hI) ⟨rfl, rfl, trivial⟩
  exact key n0 a2 σ hI0

def w_stateNumber_0 (C : rCx) (Q : Int32 → rS → Prop)   (σ : rS) : Prop :=
  cI C 1 m_stateNow [.ref (co C)] σ (fun r2 σ1 =>
    (¬ (r2 = (-1 : Int32)) →
      Q r2 σ1) ∧
    (r2 = (-1 : Int32) →
      (¬ ((σ1.1 70) = (σ1.1 85)) →
        cI C 0 m_pack [.ref (co C)] σ1 (fun r4 σ3 =>
          inb (σ1.1 70) 1000 ∧
          ∀ σ5, σ5 = riU σ3 74 ((σ1.1 70)).toNatClampNeg r4 →
          w_stateNumber_38 C Q  (0 : Int32) σ5)) ∧
      ((σ1.1 70) = (σ1.1 85) →
        Q r2 σ1)))
theorem t_stateNumber_0 {C : rCx} (hC : cOK C) {Q : Int32 → rS → Prop}    {σ : rS} (F : w_stateNumber_0 C Q   σ) : wG C 2 m_stateNumber 0 [some (.ref (co C)), none, none] [] σ (qI Q) := by
  unfold w_stateNumber_0 at F
  refine s_aln dX13_stateNumber_0 rfl ?_
  refine k_606 dX13_stateNumber_1 rfl (Nat.le_of_ble_eq_true rfl) (Nat.le_of_ble_eq_true rfl) F (fun r2 σ1 F => ?_)
  refine s_isn dX13_stateNumber_4 (Nat.le_of_ble_eq_true rfl) rfl ?_
  refine s_iln dX13_stateNumber_5 rfl ?_
  refine s_ic dX13_stateNumber_6 ki_m1 ?_
  refine s_iin (t := 21) (r2 = (-1 : Int32)) dX13_stateNumber_7 rfl rfl (fun hc => ?_) (fun hc => ?_)
  · replace F := F.1 hc
    refine s_iln dX13_stateNumber_21 rfl ?_
    exact s_ri dX13_stateNumber_22 rfl in_nar F
  · replace F := F.2 hc
    refine s_aln dX13_stateNumber_10 rfl ?_
    refine gf_542 dX13_stateNumber_11 rfl ?_
    refine s_aln dX13_stateNumber_14 rfl ?_
    refine gf_609 dX13_stateNumber_15 rfl ?_
    refine s_iin (t := 23) ((σ1.1 70) = (σ1.1 85)) dX13_stateNumber_18 rfl rfl (fun hc => ?_) (fun hc => ?_)
    · replace F := F.1 hc
      refine s_aln dX13_stateNumber_23 rfl ?_
      refine gf_144 dX13_stateNumber_24 rfl ?_
      refine s_aln dX13_stateNumber_27 rfl ?_
      refine gf_542 dX13_stateNumber_28 rfl ?_
      refine s_aln dX13_stateNumber_31 rfl ?_
      refine k_600 dX13_stateNumber_32 rfl (Nat.le_of_ble_eq_true rfl) (Nat.le_of_ble_eq_true rfl) F (fun r4 σ3 F => ?_)
      refine s_astb hC dX13_stateNumber_35 rt_74 F.1 (fun σ5 eσ5 => ?_)
      replace F := F.2 σ5 eσ5
      refine s_ic dX13_stateNumber_36 ki_0 ?_
      refine s_isn dX13_stateNumber_37 (Nat.le_of_ble_eq_true rfl) rfl ?_
      exact s_k (t_stateNumber_38 hC  F) ⟨rfl, rfl, trivial⟩
    · replace F := F.2 hc
      refine s_iln dX13_stateNumber_21 rfl ?_
      exact s_ri dX13_stateNumber_22 rfl in_nar F

theorem m_stateNumber_run {C : rCx} (hC : cOK C) {Q : Int32 → rS → Prop}  {σ : rS} (F : w_stateNumber_0 C Q  σ) : cI C 2 m_stateNumber [.ref (co C)] σ Q := m_I (m_ent _ 2) (t_stateNumber_0 hC F)

