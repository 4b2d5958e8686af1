/-! methods of the reference: state, value, next, ending, decide, decided, set, trim, copy, compare, plus -/
theorem dX13_state_0 : decode cX13_state 0 = .ok (.aload_n 0, 1) := by decide +kernel
theorem dX13_state_1 : decode cX13_state 1 = .ok (.aload_n 0, 1) := by decide +kernel
theorem dX13_state_2 : decode cX13_state 2 = .ok (.iload_n 1, 1) := by decide +kernel
theorem dX13_state_3 : decode cX13_state 3 = .ok (.invokevirtual 670, 3) := by decide +kernel
theorem dX13_state_6 : decode cX13_state 6 = .ok (.ifCond .eq 12, 3) := by decide +kernel
theorem dX13_state_9 : decode cX13_state 9 = .ok (.iload_n 2, 1) := by decide +kernel
theorem dX13_state_10 : decode cX13_state 10 = .ok (.iconst 0, 1) := by decide +kernel
theorem dX13_state_11 : decode cX13_state 11 = .ok (.iconst 5, 1) := by decide +kernel
theorem dX13_state_12 : decode cX13_state 12 = .ok (.invokestatic 362, 3) := by decide +kernel
theorem dX13_state_15 : decode cX13_state 15 = .ok (.ifCond .ne 7, 3) := by decide +kernel
theorem dX13_state_18 : decode cX13_state 18 = .ok (.iconst 1, 1) := by decide +kernel
theorem dX13_state_19 : decode cX13_state 19 = .ok (.goto 4, 3) := by decide +kernel
theorem dX13_state_22 : decode cX13_state 22 = .ok (.iconst 0, 1) := by decide +kernel
theorem dX13_state_23 : decode cX13_state 23 = .ok (.putfield 1, 3) := by decide +kernel
theorem dX13_state_26 : decode cX13_state 26 = .ok (.aload_n 0, 1) := by decide +kernel
theorem dX13_state_27 : decode cX13_state 27 = .ok (.getfield 1, 3) := by decide +kernel
theorem dX13_state_30 : decode cX13_state 30 = .ok (.ifCond .le 5, 3) := by decide +kernel
theorem dX13_state_33 : decode cX13_state 33 = .ok (.iconst 0, 1) := by decide +kernel
theorem dX13_state_34 : decode cX13_state 34 = .ok (.ireturn, 1) := by decide +kernel
theorem dX13_state_35 : decode cX13_state 35 = .ok (.iload_n 2, 1) := by decide +kernel
theorem dX13_state_36 : decode cX13_state 36 = .ok (.tableswitch 99 0 4 #[36, 42, 53, 69, 84], 36) := by decide +kernel
theorem dX13_state_72 : decode cX13_state 72 = .ok (.aload_n 0, 1) := by decide +kernel
theorem dX13_state_73 : decode cX13_state 73 = .ok (.iload_n 1, 1) := by decide +kernel
theorem dX13_state_74 : decode cX13_state 74 = .ok (.invokevirtual 673, 3) := by decide +kernel
theorem dX13_state_77 : decode cX13_state 77 = .ok (.ireturn, 1) := by decide +kernel
theorem dX13_state_78 : decode cX13_state 78 = .ok (.aload_n 0, 1) := by decide +kernel
theorem dX13_state_79 : decode cX13_state 79 = .ok (.getfield 141, 3) := by decide +kernel
theorem dX13_state_82 : decode cX13_state 82 = .ok (.sipush 143, 3) := by decide +kernel
theorem dX13_state_85 : decode cX13_state 85 = .ok (.iload_n 1, 1) := by decide +kernel
theorem dX13_state_86 : decode cX13_state 86 = .ok (.imul, 1) := by decide +kernel
theorem dX13_state_87 : decode cX13_state 87 = .ok (.iaload, 1) := by decide +kernel
theorem dX13_state_88 : decode cX13_state 88 = .ok (.ireturn, 1) := by decide +kernel
theorem dX13_state_89 : decode cX13_state 89 = .ok (.aload_n 0, 1) := by decide +kernel
theorem dX13_state_90 : decode cX13_state 90 = .ok (.getfield 151, 3) := by decide +kernel
theorem dX13_state_93 : decode cX13_state 93 = .ok (.iload_n 1, 1) := by decide +kernel
theorem dX13_state_94 : decode cX13_state 94 = .ok (.iconst 1, 1) := by decide +kernel
theorem dX13_state_95 : decode cX13_state 95 = .ok (.iadd, 1) := by decide +kernel
theorem dX13_state_96 : decode cX13_state 96 = .ok (.iaload, 1) := by decide +kernel
theorem dX13_state_97 : decode cX13_state 97 = .ok (.aload_n 0, 1) := by decide +kernel
theorem dX13_state_98 : decode cX13_state 98 = .ok (.getfield 151, 3) := by decide +kernel
theorem dX13_state_101 : decode cX13_state 101 = .ok (.iload_n 1, 1) := by decide +kernel
theorem dX13_state_102 : decode cX13_state 102 = .ok (.iaload, 1) := by decide +kernel
theorem dX13_state_103 : decode cX13_state 103 = .ok (.isub, 1) := by decide +kernel
theorem dX13_state_104 : decode cX13_state 104 = .ok (.ireturn, 1) := by decide +kernel
theorem dX13_state_105 : decode cX13_state 105 = .ok (.aload_n 0, 1) := by decide +kernel
theorem dX13_state_106 : decode cX13_state 106 = .ok (.getfield 166, 3) := by decide +kernel
theorem dX13_state_109 : decode cX13_state 109 = .ok (.iload_n 1, 1) := by decide +kernel
theorem dX13_state_110 : decode cX13_state 110 = .ok (.baload, 1) := by decide +kernel
theorem dX13_state_111 : decode cX13_state 111 = .ok (.ifCond .eq 7, 3) := by decide +kernel
theorem dX13_state_114 : decode cX13_state 114 = .ok (.iconst 1, 1) := by decide +kernel
theorem dX13_state_115 : decode cX13_state 115 = .ok (.goto 4, 3) := by decide +kernel
theorem dX13_state_118 : decode cX13_state 118 = .ok (.iconst 0, 1) := by decide +kernel
theorem dX13_state_119 : decode cX13_state 119 = .ok (.ireturn, 1) := by decide +kernel
theorem dX13_state_120 : decode cX13_state 120 = .ok (.aload_n 0, 1) := by decide +kernel
theorem dX13_state_121 : decode cX13_state 121 = .ok (.getfield 181, 3) := by decide +kernel
theorem dX13_state_124 : decode cX13_state 124 = .ok (.iload_n 1, 1) := by decide +kernel
theorem dX13_state_125 : decode cX13_state 125 = .ok (.baload, 1) := by decide +kernel
theorem dX13_state_126 : decode cX13_state 126 = .ok (.ifCond .eq 7, 3) := by decide +kernel
theorem dX13_state_129 : decode cX13_state 129 = .ok (.iconst 1, 1) := by decide +kernel
theorem dX13_state_130 : decode cX13_state 130 = .ok (.goto 4, 3) := by decide +kernel
theorem dX13_state_133 : decode cX13_state 133 = .ok (.iconst 0, 1) := by decide +kernel
theorem dX13_state_134 : decode cX13_state 134 = .ok (.ireturn, 1) := by decide +kernel
theorem dX13_state_135 : decode cX13_state 135 = .ok (.aload_n 0, 1) := by decide +kernel
theorem dX13_state_136 : decode cX13_state 136 = .ok (.getfield 163, 3) := by decide +kernel
theorem dX13_state_139 : decode cX13_state 139 = .ok (.iload_n 1, 1) := by decide +kernel
theorem dX13_state_140 : decode cX13_state 140 = .ok (.iaload, 1) := by decide +kernel
theorem dX13_state_141 : decode cX13_state 141 = .ok (.ireturn, 1) := by decide +kernel
def w_state_23 (C : rCx) (Q : Int32 → rS → Prop)  (a1 : Int32) (a2 : Int32) (s1 : Int32) (σ : rS) : Prop :=
  ∀ σ1, σ1 = siU σ 0 s1 →
  ((σ1.1 0) ≤ 0 →
    ((a2).toInt < 0 ∨ 4 < (a2).toInt →
      inb a1 1000 ∧
      Q (σ1.2.2.1 80 (a1).toNatClampNeg) σ1) ∧
    ((a2).toInt = 0 →
      cI C 0 m_latestAt [.ref (co C), .int a1] σ1 (fun r3 σ2 =>
        Q r3 σ2)) ∧
    ((a2).toInt = 1 →
      inb ((143 : Int32) * a1) 143000 ∧
      Q (σ1.2.2.1 73 (((143 : Int32) * a1)).toNatClampNeg) σ1) ∧
    ((a2).toInt = 2 →
      inb (a1 + (1 : Int32)) 1001 ∧
      inb a1 1001 ∧
      Q ((σ1.2.2.1 76 ((a1 + (1 : Int32))).toNatClampNeg) - (σ1.2.2.1 76 (a1).toNatClampNeg)) σ1) ∧
    ((a2).toInt = 3 →
      inb a1 1000 ∧
      ((σ1.2.2.1 81 (a1).toNatClampNeg) = 0 →
        Q (0 : Int32) σ1) ∧
      (¬ ((σ1.2.2.1 81 (a1).toNatClampNeg) = 0) →
        Q (1 : Int32) σ1)) ∧
    ((a2).toInt = 4 →
      inb a1 1000 ∧
      ((σ1.2.2.1 87 (a1).toNatClampNeg) = 0 →
        Q (0 : Int32) σ1) ∧
      (¬ ((σ1.2.2.1 87 (a1).toNatClampNeg) = 0) →
        Q (1 : Int32) σ1))) ∧
  (¬ ((σ1.1 0) ≤ 0) →
    Q (0 : Int32) σ1)
theorem t_state_23 {C : rCx} (hC : cOK C) {Q : Int32 → rS → Prop}   {a1 : Int32} {a2 : Int32} {s1 : Int32} {σ : rS} (F : w_state_23 C Q  a1 a2 s1 σ) : wG C 1 m_state 23 [some (.ref (co C)), some (.int a1), some (.int a2)] [.int s1, .ref (co C)] σ (qI Q) := by
  unfold w_state_23 at F
  refine pf_1 hC dX13_state_23 rfl (fun σ1 eσ1 => ?_)
  replace F := F σ1 eσ1
  refine s_aln dX13_state_26 rfl ?_
  refine gf_1 dX13_state_27 rfl ?_
  refine s_i (t := 35) ((σ1.1 0) ≤ 0) dX13_state_30 rfl rfl (fun hc => ?_) (fun hc => ?_)
  · replace F := F.1 hc
    refine s_iln dX13_state_35 rfl ?_
    by_cases hsw : (a2).toInt < 0 ∨ 4 < (a2).toInt
    · refine s_swd (t := 135) dX13_state_36 hsw rfl ?_
      replace F := F.1 hsw
      refine s_aln dX13_state_135 rfl ?_
      refine gf_163 dX13_state_136 rfl ?_
      refine s_iln dX13_state_139 rfl ?_
      refine s_ald hC dX13_state_140 rt_80 F.1 ?_
      replace F := F.2
      exact s_ri dX13_state_141 rfl in_nar F
    replace F := F.2
    by_cases hs0 : (a2).toInt = 0
    · refine s_p (pc' := 72) dX13_state_36 (fun lo => sw_at (k := 0) hs0 (eq_true (by decide)) rfl rfl) ?_
      replace F := F.1 hs0
      refine s_aln dX13_state_72 rfl ?_
      refine s_iln dX13_state_73 rfl ?_
      refine k_673 dX13_state_74 rfl (Nat.le_of_ble_eq_true rfl) (Nat.le_of_ble_eq_true rfl) F (fun r3 σ2 F => ?_)
      exact s_ri dX13_state_77 rfl in_nar F
    replace F := F.2
    by_cases hs1 : (a2).toInt = 1
    · refine s_p (pc' := 78) dX13_state_36 (fun lo => sw_at (k := 0) hs1 (eq_true (by decide)) rfl rfl) ?_
      replace F := F.1 hs1
      refine s_aln dX13_state_78 rfl ?_
      refine gf_141 dX13_state_79 rfl ?_
      refine s_si dX13_state_82 ks_143 ?_
      refine s_iln dX13_state_85 rfl ?_
      refine s_imul dX13_state_86 ?_
      refine s_ald hC dX13_state_87 rt_73 F.1 ?_
      replace F := F.2
      exact s_ri dX13_state_88 rfl in_nar F
    replace F := F.2
    by_cases hs2 : (a2).toInt = 2
    · refine s_p (pc' := 89) dX13_state_36 (fun lo => sw_at (k := 0) hs2 (eq_true (by decide)) rfl rfl) ?_
      replace F := F.1 hs2
      refine s_aln dX13_state_89 rfl ?_
      refine gf_151 dX13_state_90 rfl ?_
      refine s_iln dX13_state_93 rfl ?_
      refine s_ic dX13_state_94 ki_1 ?_
      refine s_iadd dX13_state_95 ?_
      refine s_ald hC dX13_state_96 rt_76 F.1 ?_
      replace F := F.2
      refine s_aln dX13_state_97 rfl ?_
      refine gf_151 dX13_state_98 rfl ?_
      refine s_iln dX13_state_101 rfl ?_
      refine s_ald hC dX13_state_102 rt_76 F.1 ?_
      replace F := F.2
      refine s_isub dX13_state_103 ?_
      exact s_ri dX13_state_104 rfl in_nar F
    replace F := F.2
    by_cases hs3 : (a2).toInt = 3
    · refine s_p (pc' := 105) dX13_state_36 (fun lo => sw_at (k := 0) hs3 (eq_true (by decide)) rfl rfl) ?_
      replace F := F.1 hs3
      refine s_aln dX13_state_105 rfl ?_
      refine gf_166 dX13_state_106 rfl ?_
      refine s_iln dX13_state_109 rfl ?_
      refine s_zld hC dX13_state_110 rt_81 F.1 ?_
      replace F := F.2
      refine s_i (t := 118) ((σ1.2.2.1 81 (a1).toNatClampNeg) = 0) dX13_state_111 rfl rfl (fun hc => ?_) (fun hc => ?_)
      · replace F := F.1 hc
        refine s_ic dX13_state_118 ki_0 ?_
        exact s_ri dX13_state_119 rfl in_nar F
      · replace F := F.2 hc
        refine s_ic dX13_state_114 ki_1 ?_
        refine s_goto (t := 119) dX13_state_115 rfl ?_
        exact s_ri dX13_state_119 rfl in_nar F
    replace F := F.2
    have hs4 : (a2).toInt = 4 := by omega
    refine s_p (pc' := 120) dX13_state_36 (fun lo => sw_at (k := 0) hs4 (eq_true (by decide)) rfl rfl) ?_
    replace F := F hs4
    refine s_aln dX13_state_120 rfl ?_
    refine gf_181 dX13_state_121 rfl ?_
    refine s_iln dX13_state_124 rfl ?_
    refine s_zld hC dX13_state_125 rt_87 F.1 ?_
    replace F := F.2
    refine s_i (t := 133) ((σ1.2.2.1 87 (a1).toNatClampNeg) = 0) dX13_state_126 rfl rfl (fun hc => ?_) (fun hc => ?_)
    · replace F := F.1 hc
      refine s_ic dX13_state_133 ki_0 ?_
      exact s_ri dX13_state_134 rfl in_nar F
    · replace F := F.2 hc
      refine s_ic dX13_state_129 ki_1 ?_
      refine s_goto (t := 134) dX13_state_130 rfl ?_
      exact s_ri dX13_state_134 rfl in_nar F
  · replace F := F.2 hc
    refine s_ic dX13_state_33 ki_0 ?_
    exact s_ri dX13_state_34 rfl in_nar F

def w_state_0 (C : rCx) (Q : Int32 → rS → Prop)  (a1 : Int32) (a2 : Int32) (σ : rS) : Prop :=
  cI C 0 m_isState [.ref (co C), .int a1] σ (fun r2 σ1 =>
    (r2 = 0 →
      w_state_23 C Q  a1 a2 (1 : Int32) σ1) ∧
    (¬ (r2 = 0) →
      cI C 0 m_within [.int a2, .int (0 : Int32), .int (5 : Int32)] σ1 (fun r4 σ3 =>
        (¬ (r4 = 0) →
          w_state_23 C Q  a1 a2 (0 : Int32) σ3) ∧
        (r4 = 0 →
          w_state_23 C Q  a1 a2 (1 : Int32) σ3))))
theorem t_state_0 {C : rCx} (hC : cOK C) {Q : Int32 → rS → Prop}   {a1 : Int32} {a2 : Int32} {σ : rS} (F : w_state_0 C Q  a1 a2 σ) : wG C 1 m_state 0 [some (.ref (co C)), some (.int a1), some (.int a2)] [] σ (qI Q) := by
  unfold w_state_0 at F
  refine s_aln dX13_state_0 rfl ?_
  refine s_aln dX13_state_1 rfl ?_
  refine s_iln dX13_state_2 rfl ?_
  refine k_670 dX13_state_3 rfl (Nat.le_of_ble_eq_true rfl) (Nat.le_of_ble_eq_true rfl) F (fun r2 σ1 F => ?_)
  refine s_i (t := 18) (r2 = 0) dX13_state_6 rfl rfl (fun hc => ?_) (fun hc => ?_)
  · replace F := F.1 hc
    refine s_ic dX13_state_18 ki_1 ?_
    refine s_goto (t := 23) dX13_state_19 rfl ?_
    exact s_k (t_state_23 hC  F) ⟨rfl, rfl, rfl, trivial⟩
  · replace F := F.2 hc
    refine s_iln dX13_state_9 rfl ?_
    refine s_ic dX13_state_10 ki_0 ?_
    refine s_ic dX13_state_11 ki_5 ?_
    refine k_362 dX13_state_12 rfl (Nat.le_of_ble_eq_true rfl) (Nat.le_of_ble_eq_true rfl) F (fun r4 σ3 F => ?_)
    refine s_in (t := 22) (r4 = 0) dX13_state_15 rfl rfl (fun hc => ?_) (fun hc => ?_)
    · replace F := F.1 hc
      refine s_ic dX13_state_22 ki_0 ?_
      exact s_k (t_state_23 hC  F) ⟨rfl, rfl, rfl, trivial⟩
    · replace F := F.2 hc
      refine s_ic dX13_state_18 ki_1 ?_
      refine s_goto (t := 23) dX13_state_19 rfl ?_
      exact s_k (t_state_23 hC  F) ⟨rfl, rfl, rfl, trivial⟩

theorem m_state_run {C : rCx} (hC : cOK C) {Q : Int32 → rS → Prop} {a1 : Int32} {a2 : Int32} {σ : rS} (F : w_state_0 C Q a1 a2 σ) : cI C 1 m_state [.ref (co C), .int a1, .int a2] σ Q := m_I (m_ent _ 0) (t_state_0 hC F)

theorem dX13_value_0 : decode cX13_value 0 = .ok (.aload_n 0, 1) := by decide +kernel
theorem dX13_value_1 : decode cX13_value 1 = .ok (.iload_n 1, 1) := by decide +kernel
theorem dX13_value_2 : decode cX13_value 2 = .ok (.invokevirtual 670, 3) := by decide +kernel
theorem dX13_value_5 : decode cX13_value 5 = .ok (.ifCond .eq 16, 3) := by decide +kernel
theorem dX13_value_8 : decode cX13_value 8 = .ok (.iload_n 3, 1) := by decide +kernel
theorem dX13_value_9 : decode cX13_value 9 = .ok (.ifCond .lt 12, 3) := by decide +kernel
theorem dX13_value_12 : decode cX13_value 12 = .ok (.iload_n 2, 1) := by decide +kernel
theorem dX13_value_13 : decode cX13_value 13 = .ok (.iconst (-1), 1) := by decide +kernel
theorem dX13_value_14 : decode cX13_value 14 = .ok (.if_icmp .lt 7, 3) := by decide +kernel
theorem dX13_value_17 : decode cX13_value 17 = .ok (.iconst 1, 1) := by decide +kernel
theorem dX13_value_18 : decode cX13_value 18 = .ok (.goto 4, 3) := by decide +kernel
theorem dX13_value_21 : decode cX13_value 21 = .ok (.iconst 0, 1) := by decide +kernel
theorem dX13_value_22 : decode cX13_value 22 = .ok (.istore 4, 2) := by decide +kernel
theorem dX13_value_24 : decode cX13_value 24 = .ok (.iload 4, 2) := by decide +kernel
theorem dX13_value_26 : decode cX13_value 26 = .ok (.ifCond .eq 31, 3) := by decide +kernel
theorem dX13_value_29 : decode cX13_value 29 = .ok (.iload_n 2, 1) := by decide +kernel
theorem dX13_value_30 : decode cX13_value 30 = .ok (.iconst (-1), 1) := by decide +kernel
theorem dX13_value_31 : decode cX13_value 31 = .ok (.if_icmp .ne 26, 3) := by decide +kernel
theorem dX13_value_34 : decode cX13_value 34 = .ok (.iload_n 3, 1) := by decide +kernel
theorem dX13_value_35 : decode cX13_value 35 = .ok (.aload_n 0, 1) := by decide +kernel
theorem dX13_value_36 : decode cX13_value 36 = .ok (.getfield 333, 3) := by decide +kernel
theorem dX13_value_39 : decode cX13_value 39 = .ok (.aload_n 0, 1) := by decide +kernel
theorem dX13_value_40 : decode cX13_value 40 = .ok (.getfield 369, 3) := by decide +kernel
theorem dX13_value_43 : decode cX13_value 43 = .ok (.iadd, 1) := by decide +kernel
theorem dX13_value_44 : decode cX13_value 44 = .ok (.if_icmp .ge 7, 3) := by decide +kernel
theorem dX13_value_47 : decode cX13_value 47 = .ok (.iconst 1, 1) := by decide +kernel
theorem dX13_value_48 : decode cX13_value 48 = .ok (.goto 4, 3) := by decide +kernel
theorem dX13_value_51 : decode cX13_value 51 = .ok (.iconst 0, 1) := by decide +kernel
theorem dX13_value_52 : decode cX13_value 52 = .ok (.istore 4, 2) := by decide +kernel
theorem dX13_value_54 : decode cX13_value 54 = .ok (.goto 61, 3) := by decide +kernel
theorem dX13_value_57 : decode cX13_value 57 = .ok (.iload 4, 2) := by decide +kernel
theorem dX13_value_59 : decode cX13_value 59 = .ok (.ifCond .eq 56, 3) := by decide +kernel
theorem dX13_value_62 : decode cX13_value 62 = .ok (.iload_n 2, 1) := by decide +kernel
theorem dX13_value_63 : decode cX13_value 63 = .ok (.aload_n 0, 1) := by decide +kernel
theorem dX13_value_64 : decode cX13_value 64 = .ok (.getfield 141, 3) := by decide +kernel
theorem dX13_value_67 : decode cX13_value 67 = .ok (.sipush 143, 3) := by decide +kernel
theorem dX13_value_70 : decode cX13_value 70 = .ok (.iload_n 1, 1) := by decide +kernel
theorem dX13_value_71 : decode cX13_value 71 = .ok (.imul, 1) := by decide +kernel
theorem dX13_value_72 : decode cX13_value 72 = .ok (.iaload, 1) := by decide +kernel
theorem dX13_value_73 : decode cX13_value 73 = .ok (.if_icmp .ge 39, 3) := by decide +kernel
theorem dX13_value_76 : decode cX13_value 76 = .ok (.iload_n 3, 1) := by decide +kernel
theorem dX13_value_77 : decode cX13_value 77 = .ok (.aload_n 0, 1) := by decide +kernel
theorem dX13_value_78 : decode cX13_value 78 = .ok (.getfield 57, 3) := by decide +kernel
theorem dX13_value_81 : decode cX13_value 81 = .ok (.aload_n 0, 1) := by decide +kernel
theorem dX13_value_82 : decode cX13_value 82 = .ok (.getfield 90, 3) := by decide +kernel
theorem dX13_value_85 : decode cX13_value 85 = .ok (.aload_n 0, 1) := by decide +kernel
theorem dX13_value_86 : decode cX13_value 86 = .ok (.getfield 141, 3) := by decide +kernel
theorem dX13_value_89 : decode cX13_value 89 = .ok (.sipush 143, 3) := by decide +kernel
theorem dX13_value_92 : decode cX13_value 92 = .ok (.iload_n 1, 1) := by decide +kernel
theorem dX13_value_93 : decode cX13_value 93 = .ok (.imul, 1) := by decide +kernel
theorem dX13_value_94 : decode cX13_value 94 = .ok (.bipush 35, 2) := by decide +kernel
theorem dX13_value_96 : decode cX13_value 96 = .ok (.iadd, 1) := by decide +kernel
theorem dX13_value_97 : decode cX13_value 97 = .ok (.bipush 9, 2) := by decide +kernel
theorem dX13_value_99 : decode cX13_value 99 = .ok (.iload_n 2, 1) := by decide +kernel
theorem dX13_value_100 : decode cX13_value 100 = .ok (.imul, 1) := by decide +kernel
theorem dX13_value_101 : decode cX13_value 101 = .ok (.iadd, 1) := by decide +kernel
theorem dX13_value_102 : decode cX13_value 102 = .ok (.iaload, 1) := by decide +kernel
theorem dX13_value_103 : decode cX13_value 103 = .ok (.iaload, 1) := by decide +kernel
theorem dX13_value_104 : decode cX13_value 104 = .ok (.iaload, 1) := by decide +kernel
theorem dX13_value_105 : decode cX13_value 105 = .ok (.if_icmp .ge 7, 3) := by decide +kernel
theorem dX13_value_108 : decode cX13_value 108 = .ok (.iconst 1, 1) := by decide +kernel
theorem dX13_value_109 : decode cX13_value 109 = .ok (.goto 4, 3) := by decide +kernel
theorem dX13_value_112 : decode cX13_value 112 = .ok (.iconst 0, 1) := by decide +kernel
theorem dX13_value_113 : decode cX13_value 113 = .ok (.istore 4, 2) := by decide +kernel
theorem dX13_value_115 : decode cX13_value 115 = .ok (.aload_n 0, 1) := by decide +kernel
theorem dX13_value_116 : decode cX13_value 116 = .ok (.iload 4, 2) := by decide +kernel
theorem dX13_value_118 : decode cX13_value 118 = .ok (.ifCond .eq 7, 3) := by decide +kernel
theorem dX13_value_121 : decode cX13_value 121 = .ok (.iconst 0, 1) := by decide +kernel
theorem dX13_value_122 : decode cX13_value 122 = .ok (.goto 4, 3) := by decide +kernel
theorem dX13_value_125 : decode cX13_value 125 = .ok (.iconst 1, 1) := by decide +kernel
theorem dX13_value_126 : decode cX13_value 126 = .ok (.putfield 1, 3) := by decide +kernel
theorem dX13_value_129 : decode cX13_value 129 = .ok (.aload_n 0, 1) := by decide +kernel
theorem dX13_value_130 : decode cX13_value 130 = .ok (.getfield 1, 3) := by decide +kernel
theorem dX13_value_133 : decode cX13_value 133 = .ok (.ifCond .le 5, 3) := by decide +kernel
theorem dX13_value_136 : decode cX13_value 136 = .ok (.iconst 0, 1) := by decide +kernel
theorem dX13_value_137 : decode cX13_value 137 = .ok (.ireturn, 1) := by decide +kernel
theorem dX13_value_138 : decode cX13_value 138 = .ok (.iload_n 2, 1) := by decide +kernel
theorem dX13_value_139 : decode cX13_value 139 = .ok (.iconst (-1), 1) := by decide +kernel
theorem dX13_value_140 : decode cX13_value 140 = .ok (.if_icmp .ne 20, 3) := by decide +kernel
theorem dX13_value_143 : decode cX13_value 143 = .ok (.aload_n 0, 1) := by decide +kernel
theorem dX13_value_144 : decode cX13_value 144 = .ok (.getfield 141, 3) := by decide +kernel
theorem dX13_value_147 : decode cX13_value 147 = .ok (.sipush 143, 3) := by decide +kernel
theorem dX13_value_150 : decode cX13_value 150 = .ok (.iload_n 1, 1) := by decide +kernel
theorem dX13_value_151 : decode cX13_value 151 = .ok (.imul, 1) := by decide +kernel
theorem dX13_value_152 : decode cX13_value 152 = .ok (.iconst 1, 1) := by decide +kernel
theorem dX13_value_153 : decode cX13_value 153 = .ok (.iadd, 1) := by decide +kernel
theorem dX13_value_154 : decode cX13_value 154 = .ok (.iload_n 3, 1) := by decide +kernel
theorem dX13_value_155 : decode cX13_value 155 = .ok (.iadd, 1) := by decide +kernel
theorem dX13_value_156 : decode cX13_value 156 = .ok (.iaload, 1) := by decide +kernel
theorem dX13_value_157 : decode cX13_value 157 = .ok (.goto 23, 3) := by decide +kernel
theorem dX13_value_160 : decode cX13_value 160 = .ok (.aload_n 0, 1) := by decide +kernel
theorem dX13_value_161 : decode cX13_value 161 = .ok (.getfield 141, 3) := by decide +kernel
theorem dX13_value_164 : decode cX13_value 164 = .ok (.sipush 143, 3) := by decide +kernel
theorem dX13_value_167 : decode cX13_value 167 = .ok (.iload_n 1, 1) := by decide +kernel
theorem dX13_value_168 : decode cX13_value 168 = .ok (.imul, 1) := by decide +kernel
theorem dX13_value_169 : decode cX13_value 169 = .ok (.bipush 36, 2) := by decide +kernel
theorem dX13_value_171 : decode cX13_value 171 = .ok (.iadd, 1) := by decide +kernel
theorem dX13_value_172 : decode cX13_value 172 = .ok (.bipush 9, 2) := by decide +kernel
theorem dX13_value_174 : decode cX13_value 174 = .ok (.iload_n 2, 1) := by decide +kernel
theorem dX13_value_175 : decode cX13_value 175 = .ok (.imul, 1) := by decide +kernel
theorem dX13_value_176 : decode cX13_value 176 = .ok (.iadd, 1) := by decide +kernel
theorem dX13_value_177 : decode cX13_value 177 = .ok (.iload_n 3, 1) := by decide +kernel
theorem dX13_value_178 : decode cX13_value 178 = .ok (.iadd, 1) := by decide +kernel
theorem dX13_value_179 : decode cX13_value 179 = .ok (.iaload, 1) := by decide +kernel
theorem dX13_value_180 : decode cX13_value 180 = .ok (.ireturn, 1) := by decide +kernel
def w_value_126 (C : rCx) (Q : Int32 → rS → Prop)  (a1 : Int32) (a2 : Int32) (a3 : Int32) (s1 : Int32) (σ : rS) : Prop :=
  ∀ σ1, σ1 = siU σ 0 s1 →
  ((σ1.1 0) ≤ 0 →
    (¬ (a2 = (-1 : Int32)) →
      inb (((((143 : Int32) * a1) + (36 : Int32)) + ((9 : Int32) * a2)) + a3) 143000 ∧
      Q (σ1.2.2.1 73 ((((((143 : Int32) * a1) + (36 : Int32)) + ((9 : Int32) * a2)) + a3)).toNatClampNeg) σ1) ∧
    (a2 = (-1 : Int32) →
      inb ((((143 : Int32) * a1) + (1 : Int32)) + a3) 143000 ∧
      Q (σ1.2.2.1 73 (((((143 : Int32) * a1) + (1 : Int32)) + a3)).toNatClampNeg) σ1)) ∧
  (¬ ((σ1.1 0) ≤ 0) →
    Q (0 : Int32) σ1)
theorem t_value_126 {C : rCx} (hC : cOK C) {Q : Int32 → rS → Prop}   {a1 : Int32} {a2 : Int32} {a3 : Int32} {s1 : Int32} {σ : rS} (F : w_value_126 C Q  a1 a2 a3 s1 σ) : wG C 1 m_value 126 [some (.ref (co C)), some (.int a1), some (.int a2), some (.int a3), none] [.int s1, .ref (co C)] σ (qI Q) := by
  unfold w_value_126 at F
  refine pf_1 hC dX13_value_126 rfl (fun σ1 eσ1 => ?_)
  replace F := F σ1 eσ1
  refine s_aln dX13_value_129 rfl ?_
  refine gf_1 dX13_value_130 rfl ?_
  refine s_i (t := 138) ((σ1.1 0) ≤ 0) dX13_value_133 rfl rfl (fun hc => ?_) (fun hc => ?_)
  · replace F := F.1 hc
    refine s_iln dX13_value_138 rfl ?_
    refine s_ic dX13_value_139 ki_m1 ?_
    refine s_iin (t := 160) (a2 = (-1 : Int32)) dX13_value_140 rfl rfl (fun hc => ?_) (fun hc => ?_)
    · replace F := F.1 hc
      refine s_aln dX13_value_160 rfl ?_
      refine gf_141 dX13_value_161 rfl ?_
      refine s_si dX13_value_164 ks_143 ?_
      refine s_iln dX13_value_167 rfl ?_
      refine s_imul dX13_value_168 ?_
      refine s_bi dX13_value_169 kb_36 ?_
      refine s_iadd dX13_value_171 ?_
      refine s_bi dX13_value_172 kb_9 ?_
      refine s_iln dX13_value_174 rfl ?_
      refine s_imul dX13_value_175 ?_
      refine s_iadd dX13_value_176 ?_
      refine s_iln dX13_value_177 rfl ?_
      refine s_iadd dX13_value_178 ?_
      refine s_ald hC dX13_value_179 rt_73 F.1 ?_
      replace F := F.2
      exact s_ri dX13_value_180 rfl in_nar F
    · replace F := F.2 hc
      refine s_aln dX13_value_143 rfl ?_
      refine gf_141 dX13_value_144 rfl ?_
      refine s_si dX13_value_147 ks_143 ?_
      refine s_iln dX13_value_150 rfl ?_
      refine s_imul dX13_value_151 ?_
      refine s_ic dX13_value_152 ki_1 ?_
      refine s_iadd dX13_value_153 ?_
      refine s_iln dX13_value_154 rfl ?_
      refine s_iadd dX13_value_155 ?_
      refine s_ald hC dX13_value_156 rt_73 F.1 ?_
      replace F := F.2
      refine s_goto (t := 180) dX13_value_157 rfl ?_
      exact s_ri dX13_value_180 rfl in_nar F
  · replace F := F.2 hc
    refine s_ic dX13_value_136 ki_0 ?_
    exact s_ri dX13_value_137 rfl in_nar F

def w_value_115 (C : rCx) (Q : Int32 → rS → Prop)  (a1 : Int32) (a2 : Int32) (a3 : Int32) (a4 : Int32) (σ : rS) : Prop :=
  (a4 = 0 →
    w_value_126 C Q  a1 a2 a3 (1 : Int32) σ) ∧
  (¬ (a4 = 0) →
    w_value_126 C Q  a1 a2 a3 (0 : Int32) σ)
theorem t_value_115 {C : rCx} (hC : cOK C) {Q : Int32 → rS → Prop}   {a1 : Int32} {a2 : Int32} {a3 : Int32} {a4 : Int32} {σ : rS} (F : w_value_115 C Q  a1 a2 a3 a4 σ) : wG C 1 m_value 115 [some (.ref (co C)), some (.int a1), some (.int a2), some (.int a3), some (.int a4)] [] σ (qI Q) := by
  unfold w_value_115 at F
  refine s_aln dX13_value_115 rfl ?_
  refine s_il dX13_value_116 rfl ?_
  refine s_i (t := 125) (a4 = 0) dX13_value_118 rfl rfl (fun hc => ?_) (fun hc => ?_)
  · replace F := F.1 hc
    refine s_ic dX13_value_125 ki_1 ?_
    exact s_k (t_value_126 hC  F) ⟨rfl, rfl, rfl, rfl, trivial⟩
  · replace F := F.2 hc
    refine s_ic dX13_value_121 ki_0 ?_
    refine s_goto (t := 126) dX13_value_122 rfl ?_
    exact s_k (t_value_126 hC  F) ⟨rfl, rfl, rfl, rfl, trivial⟩

def w_value_57 (C : rCx) (Q : Int32 → rS → Prop)  (a1 : Int32) (a2 : Int32) (a3 : Int32) (a4 : Int32) (σ : rS) : Prop :=
  (a4 = 0 →
    w_value_115 C Q  a1 a2 a3 a4 σ) ∧
  (¬ (a4 = 0) →
    inb ((143 : Int32) * a1) 143000 ∧
    ((σ.2.2.1 73 (((143 : Int32) * a1)).toNatClampNeg) ≤ a2 →
      w_value_115 C Q  a1 a2 a3 (0 : Int32) σ) ∧
    (¬ ((σ.2.2.1 73 (((143 : Int32) * a1)).toNatClampNeg) ≤ a2) →
      inb ((((143 : Int32) * a1) + (35 : Int32)) + ((9 : Int32) * a2)) 143000 ∧
      inb (σ.2.2.1 73 (((((143 : Int32) * a1) + (35 : Int32)) + ((9 : Int32) * a2))).toNatClampNeg) 150 ∧
      inb (σ.2.2.1 38 ((σ.2.2.1 73 (((((143 : Int32) * a1) + (35 : Int32)) + ((9 : Int32) * a2))).toNatClampNeg)).toNatClampNeg) 10 ∧
      ((σ.2.2.1 27 ((σ.2.2.1 38 ((σ.2.2.1 73 (((((143 : Int32) * a1) + (35 : Int32)) + ((9 : Int32) * a2))).toNatClampNeg)).toNatClampNeg)).toNatClampNeg) ≤ a3 →
        w_value_115 C Q  a1 a2 a3 (0 : Int32) σ) ∧
      (¬ ((σ.2.2.1 27 ((σ.2.2.1 38 ((σ.2.2.1 73 (((((143 : Int32) * a1) + (35 : Int32)) + ((9 : Int32) * a2))).toNatClampNeg)).toNatClampNeg)).toNatClampNeg) ≤ a3) →
        w_value_115 C Q  a1 a2 a3 (1 : Int32) σ)))
theorem t_value_57 {C : rCx} (hC : cOK C) {Q : Int32 → rS → Prop}   {a1 : Int32} {a2 : Int32} {a3 : Int32} {a4 : Int32} {σ : rS} (F : w_value_57 C Q  a1 a2 a3 a4 σ) : wG C 1 m_value 57 [some (.ref (co C)), some (.int a1), some (.int a2), some (.int a3), some (.int a4)] [] σ (qI Q) := by
  unfold w_value_57 at F
  refine s_il dX13_value_57 rfl ?_
  refine s_i (t := 115) (a4 = 0) dX13_value_59 rfl rfl (fun hc => ?_) (fun hc => ?_)
  · replace F := F.1 hc
    exact s_k (t_value_115 hC  F) ⟨rfl, rfl, rfl, rfl, rfl, trivial⟩
  · replace F := F.2 hc
    refine s_iln dX13_value_62 rfl ?_
    refine s_aln dX13_value_63 rfl ?_
    refine gf_141 dX13_value_64 rfl ?_
    refine s_si dX13_value_67 ks_143 ?_
    refine s_iln dX13_value_70 rfl ?_
    refine s_imul dX13_value_71 ?_
    refine s_ald hC dX13_value_72 rt_73 F.1 ?_
    replace F := F.2
    refine s_ii (t := 112) ((σ.2.2.1 73 (((143 : Int32) * a1)).toNatClampNeg) ≤ a2) dX13_value_73 rfl rfl (fun hc => ?_) (fun hc => ?_)
    · replace F := F.1 hc
      refine s_ic dX13_value_112 ki_0 ?_
      refine s_is dX13_value_113 (Nat.le_of_ble_eq_true rfl) rfl ?_
      exact s_k (t_value_115 hC  F) ⟨rfl, rfl, rfl, rfl, rfl, trivial⟩
    · replace F := F.2 hc
      refine s_iln dX13_value_76 rfl ?_
      refine s_aln dX13_value_77 rfl ?_
      refine gf_57 dX13_value_78 rfl ?_
      refine s_aln dX13_value_81 rfl ?_
      refine gf_90 dX13_value_82 rfl ?_
      refine s_aln dX13_value_85 rfl ?_
      refine gf_141 dX13_value_86 rfl ?_
      refine s_si dX13_value_89 ks_143 ?_
      refine s_iln dX13_value_92 rfl ?_
      refine s_imul dX13_value_93 ?_
      refine s_bi dX13_value_94 kb_35 ?_
      refine s_iadd dX13_value_96 ?_
      refine s_bi dX13_value_97 kb_9 ?_
      refine s_iln dX13_value_99 rfl ?_
      refine s_imul dX13_value_100 ?_
      refine s_iadd dX13_value_101 ?_
      refine s_ald hC dX13_value_102 rt_73 F.1 ?_
      replace F := F.2
      refine s_ald hC dX13_value_103 rt_38 F.1 ?_
      replace F := F.2
      refine s_ald hC dX13_value_104 rt_27 F.1 ?_
      replace F := F.2
      refine s_ii (t := 112) ((σ.2.2.1 27 ((σ.2.2.1 38 ((σ.2.2.1 73 (((((143 : Int32) * a1) + (35 : Int32)) + ((9 : Int32) * a2))).toNatClampNeg)).toNatClampNeg)).toNatClampNeg) ≤ a3) dX13_value_105 rfl rfl (fun hc => ?_) (fun hc => ?_)
      · replace F := F.1 hc
        refine s_ic dX13_value_112 ki_0 ?_
        refine s_is dX13_value_113 (Nat.le_of_ble_eq_true rfl) rfl ?_
        exact s_k (t_value_115 hC  F) ⟨rfl, rfl, rfl, rfl, rfl, trivial⟩
      · replace F := F.2 hc
        refine s_ic dX13_value_108 ki_1 ?_
        refine s_goto (t := 113) dX13_value_109 rfl ?_
        refine s_is dX13_value_113 (Nat.le_of_ble_eq_true rfl) rfl ?_
        exact s_k (t_value_115 hC  F) ⟨rfl, rfl, rfl, rfl, rfl, trivial⟩

def w_value_22 (C : rCx) (Q : Int32 → rS → Prop)  (a1 : Int32) (a2 : Int32) (a3 : Int32) (s0 : Int32) (σ : rS) : Prop :=
  (s0 = 0 →
    w_value_57 C Q  a1 a2 a3 s0 σ) ∧
  (¬ (s0 = 0) →
    (¬ (a2 = (-1 : Int32)) →
      w_value_57 C Q  a1 a2 a3 s0 σ) ∧
    (a2 = (-1 : Int32) →
      (((σ.1 15) + (σ.1 17)) ≤ a3 →
        w_value_115 C Q  a1 a2 a3 (0 : Int32) σ) ∧
      (¬ (((σ.1 15) + (σ.1 17)) ≤ a3) →
        w_value_115 C Q  a1 a2 a3 (1 : Int32) σ)))
theorem t_value_22 {C : rCx} (hC : cOK C) {Q : Int32 → rS → Prop}   {a1 : Int32} {a2 : Int32} {a3 : Int32} {s0 : Int32} {σ : rS} (F : w_value_22 C Q  a1 a2 a3 s0 σ) : wG C 1 m_value 22 [some (.ref (co C)), some (.int a1), some (.int a2), some (.int a3), none] [.int s0] σ (qI Q) := by
  unfold w_value_22 at F
  refine s_is dX13_value_22 (Nat.le_of_ble_eq_true rfl) rfl ?_
  refine s_il dX13_value_24 rfl ?_
  refine s_i (t := 57) (s0 = 0) dX13_value_26 rfl rfl (fun hc => ?_) (fun hc => ?_)
  · replace F := F.1 hc
    exact s_k (t_value_57 hC  F) ⟨rfl, rfl, rfl, rfl, rfl, trivial⟩
  · replace F := F.2 hc
    refine s_iln dX13_value_29 rfl ?_
    refine s_ic dX13_value_30 ki_m1 ?_
    refine s_iin (t := 57) (a2 = (-1 : Int32)) dX13_value_31 rfl rfl (fun hc => ?_) (fun hc => ?_)
    · replace F := F.1 hc
      exact s_k (t_value_57 hC  F) ⟨rfl, rfl, rfl, rfl, rfl, trivial⟩
    · replace F := F.2 hc
      refine s_iln dX13_value_34 rfl ?_
      refine s_aln dX13_value_35 rfl ?_
      refine gf_333 dX13_value_36 rfl ?_
      refine s_aln dX13_value_39 rfl ?_
      refine gf_369 dX13_value_40 rfl ?_
      refine s_iadd dX13_value_43 ?_
      refine s_ii (t := 51) (((σ.1 15) + (σ.1 17)) ≤ a3) dX13_value_44 rfl rfl (fun hc => ?_) (fun hc => ?_)
      · replace F := F.1 hc
        refine s_ic dX13_value_51 ki_0 ?_
        refine s_is dX13_value_52 (Nat.le_of_ble_eq_true rfl) rfl ?_
        refine s_goto (t := 115) dX13_value_54 rfl ?_
        exact s_k (t_value_115 hC  F) ⟨rfl, rfl, rfl, rfl, rfl, trivial⟩
      · replace F := F.2 hc
        refine s_ic dX13_value_47 ki_1 ?_
        refine s_goto (t := 52) dX13_value_48 rfl ?_
        refine s_is dX13_value_52 (Nat.le_of_ble_eq_true rfl) rfl ?_
        refine s_goto (t := 115) dX13_value_54 rfl ?_
        exact s_k (t_value_115 hC  F) ⟨rfl, rfl, rfl, rfl, rfl, trivial⟩

def w_value_0 (C : rCx) (Q : Int32 → rS → Prop)  (a1 : Int32) (a2 : Int32) (a3 : Int32) (σ : rS) : Prop :=
  cI C 0 m_isState [.ref (co C), .int a1] σ (fun r2 σ1 =>
    (r2 = 0 →
      w_value_22 C Q  a1 a2 a3 (0 : Int32) σ1) ∧
    (¬ (r2 = 0) →
      (a3 < 0 →
        w_value_22 C Q  a1 a2 a3 (0 : Int32) σ1) ∧
      (¬ (a3 < 0) →
        (a2 < (-1 : Int32) →
          w_value_22 C Q  a1 a2 a3 (0 : Int32) σ1) ∧
        (¬ (a2 < (-1 : Int32)) →
          w_value_22 C Q  a1 a2 a3 (1 : Int32) σ1))))
theorem t_value_0 {C : rCx} (hC : cOK C) {Q : Int32 → rS → Prop}   {a1 : Int32} {a2 : Int32} {a3 : Int32} {σ : rS} (F : w_value_0 C Q  a1 a2 a3 σ) : wG C 1 m_value 0 [some (.ref (co C)), some (.int a1), some (.int a2), some (.int a3), none] [] σ (qI Q) := by
  unfold w_value_0 at F
  refine s_aln dX13_value_0 rfl ?_
  refine s_iln dX13_value_1 rfl ?_
  refine k_670 dX13_value_2 rfl (Nat.le_of_ble_eq_true rfl) (Nat.le_of_ble_eq_true rfl) F (fun r2 σ1 F => ?_)
  refine s_i (t := 21) (r2 = 0) dX13_value_5 rfl rfl (fun hc => ?_) (fun hc => ?_)
  · replace F := F.1 hc
    refine s_ic dX13_value_21 ki_0 ?_
    exact s_k (t_value_22 hC  F) ⟨rfl, rfl, rfl, rfl, trivial⟩
  · replace F := F.2 hc
    refine s_iln dX13_value_8 rfl ?_
    refine s_i (t := 21) (a3 < 0) dX13_value_9 rfl rfl (fun hc => ?_) (fun hc => ?_)
    · replace F := F.1 hc
      refine s_ic dX13_value_21 ki_0 ?_
      exact s_k (t_value_22 hC  F) ⟨rfl, rfl, rfl, rfl, trivial⟩
    · replace F := F.2 hc
      refine s_iln dX13_value_12 rfl ?_
      refine s_ic dX13_value_13 ki_m1 ?_
      refine s_ii (t := 21) (a2 < (-1 : Int32)) dX13_value_14 rfl rfl (fun hc => ?_) (fun hc => ?_)
      · replace F := F.1 hc
        refine s_ic dX13_value_21 ki_0 ?_
        exact s_k (t_value_22 hC  F) ⟨rfl, rfl, rfl, rfl, trivial⟩
      · replace F := F.2 hc
        refine s_ic dX13_value_17 ki_1 ?_
        refine s_goto (t := 22) dX13_value_18 rfl ?_
        exact s_k (t_value_22 hC  F) ⟨rfl, rfl, rfl, rfl, trivial⟩

theorem m_value_run {C : rCx} (hC : cOK C) {Q : Int32 → rS → Prop} {a1 : Int32} {a2 : Int32} {a3 : Int32} {σ : rS} (F : w_value_0 C Q a1 a2 a3 σ) : cI C 1 m_value [.ref (co C), .int a1, .int a2, .int a3] σ Q := m_I (m_ent _ 1) (t_value_0 hC F)

theorem dX13_next_0 : decode cX13_next 0 = .ok (.aload_n 0, 1) := by decide +kernel
theorem dX13_next_1 : decode cX13_next 1 = .ok (.aload_n 0, 1) := by decide +kernel
theorem dX13_next_2 : decode cX13_next 2 = .ok (.iload_n 1, 1) := by decide +kernel
theorem dX13_next_3 : decode cX13_next 3 = .ok (.invokevirtual 670, 3) := by decide +kernel
theorem dX13_next_6 : decode cX13_next 6 = .ok (.ifCond .eq 35, 3) := by decide +kernel
theorem dX13_next_9 : decode cX13_next 9 = .ok (.iload_n 2, 1) := by decide +kernel
theorem dX13_next_10 : decode cX13_next 10 = .ok (.ifCond .lt 31, 3) := by decide +kernel
theorem dX13_next_13 : decode cX13_next 13 = .ok (.iload_n 2, 1) := by decide +kernel
theorem dX13_next_14 : decode cX13_next 14 = .ok (.aload_n 0, 1) := by decide +kernel
theorem dX13_next_15 : decode cX13_next 15 = .ok (.getfield 151, 3) := by decide +kernel
theorem dX13_next_18 : decode cX13_next 18 = .ok (.iload_n 1, 1) := by decide +kernel
theorem dX13_next_19 : decode cX13_next 19 = .ok (.iconst 1, 1) := by decide +kernel
theorem dX13_next_20 : decode cX13_next 20 = .ok (.iadd, 1) := by decide +kernel
theorem dX13_next_21 : decode cX13_next 21 = .ok (.iaload, 1) := by decide +kernel
theorem dX13_next_22 : decode cX13_next 22 = .ok (.aload_n 0, 1) := by decide +kernel
theorem dX13_next_23 : decode cX13_next 23 = .ok (.getfield 151, 3) := by decide +kernel
theorem dX13_next_26 : decode cX13_next 26 = .ok (.iload_n 1, 1) := by decide +kernel
theorem dX13_next_27 : decode cX13_next 27 = .ok (.iaload, 1) := by decide +kernel
theorem dX13_next_28 : decode cX13_next 28 = .ok (.isub, 1) := by decide +kernel
theorem dX13_next_29 : decode cX13_next 29 = .ok (.if_icmp .ge 12, 3) := by decide +kernel
theorem dX13_next_32 : decode cX13_next 32 = .ok (.iload_n 3, 1) := by decide +kernel
theorem dX13_next_33 : decode cX13_next 33 = .ok (.iconst 0, 1) := by decide +kernel
theorem dX13_next_34 : decode cX13_next 34 = .ok (.iconst 2, 1) := by decide +kernel
theorem dX13_next_35 : decode cX13_next 35 = .ok (.invokestatic 362, 3) := by decide +kernel
theorem dX13_next_38 : decode cX13_next 38 = .ok (.ifCond .ne 7, 3) := by decide +kernel
theorem dX13_next_41 : decode cX13_next 41 = .ok (.iconst 1, 1) := by decide +kernel
theorem dX13_next_42 : decode cX13_next 42 = .ok (.goto 4, 3) := by decide +kernel
theorem dX13_next_45 : decode cX13_next 45 = .ok (.iconst 0, 1) := by decide +kernel
theorem dX13_next_46 : decode cX13_next 46 = .ok (.putfield 1, 3) := by decide +kernel
theorem dX13_next_49 : decode cX13_next 49 = .ok (.aload_n 0, 1) := by decide +kernel
theorem dX13_next_50 : decode cX13_next 50 = .ok (.getfield 1, 3) := by decide +kernel
theorem dX13_next_53 : decode cX13_next 53 = .ok (.ifCond .le 5, 3) := by decide +kernel
theorem dX13_next_56 : decode cX13_next 56 = .ok (.iconst 0, 1) := by decide +kernel
theorem dX13_next_57 : decode cX13_next 57 = .ok (.ireturn, 1) := by decide +kernel
theorem dX13_next_58 : decode cX13_next 58 = .ok (.aload_n 0, 1) := by decide +kernel
theorem dX13_next_59 : decode cX13_next 59 = .ok (.getfield 151, 3) := by decide +kernel
theorem dX13_next_62 : decode cX13_next 62 = .ok (.iload_n 1, 1) := by decide +kernel
theorem dX13_next_63 : decode cX13_next 63 = .ok (.iaload, 1) := by decide +kernel
theorem dX13_next_64 : decode cX13_next 64 = .ok (.iload_n 2, 1) := by decide +kernel
theorem dX13_next_65 : decode cX13_next 65 = .ok (.iadd, 1) := by decide +kernel
theorem dX13_next_66 : decode cX13_next 66 = .ok (.istore 4, 2) := by decide +kernel
theorem dX13_next_68 : decode cX13_next 68 = .ok (.iload_n 3, 1) := by decide +kernel
theorem dX13_next_69 : decode cX13_next 69 = .ok (.ifCond .ne 13, 3) := by decide +kernel
theorem dX13_next_72 : decode cX13_next 72 = .ok (.aload_n 0, 1) := by decide +kernel
theorem dX13_next_73 : decode cX13_next 73 = .ok (.getfield 154, 3) := by decide +kernel
theorem dX13_next_76 : decode cX13_next 76 = .ok (.iload 4, 2) := by decide +kernel
theorem dX13_next_78 : decode cX13_next 78 = .ok (.iaload, 1) := by decide +kernel
theorem dX13_next_79 : decode cX13_next 79 = .ok (.goto 25, 3) := by decide +kernel
theorem dX13_next_82 : decode cX13_next 82 = .ok (.iload_n 3, 1) := by decide +kernel
theorem dX13_next_83 : decode cX13_next 83 = .ok (.iconst 1, 1) := by decide +kernel
theorem dX13_next_84 : decode cX13_next 84 = .ok (.if_icmp .ne 13, 3) := by decide +kernel
theorem dX13_next_87 : decode cX13_next 87 = .ok (.aload_n 0, 1) := by decide +kernel
theorem dX13_next_88 : decode cX13_next 88 = .ok (.getfield 157, 3) := by decide +kernel
theorem dX13_next_91 : decode cX13_next 91 = .ok (.iload 4, 2) := by decide +kernel
theorem dX13_next_93 : decode cX13_next 93 = .ok (.iaload, 1) := by decide +kernel
theorem dX13_next_94 : decode cX13_next 94 = .ok (.goto 10, 3) := by decide +kernel
theorem dX13_next_97 : decode cX13_next 97 = .ok (.aload_n 0, 1) := by decide +kernel
theorem dX13_next_98 : decode cX13_next 98 = .ok (.getfield 160, 3) := by decide +kernel
theorem dX13_next_101 : decode cX13_next 101 = .ok (.iload 4, 2) := by decide +kernel
theorem dX13_next_103 : decode cX13_next 103 = .ok (.iaload, 1) := by decide +kernel
theorem dX13_next_104 : decode cX13_next 104 = .ok (.ireturn, 1) := by decide +kernel
def w_next_46 (C : rCx) (Q : Int32 → rS → Prop)  (a1 : Int32) (a2 : Int32) (a3 : Int32) (s1 : Int32) (σ : rS) : Prop :=
  ∀ σ1, σ1 = siU σ 0 s1 →
  ((σ1.1 0) ≤ 0 →
    inb a1 1001 ∧
    ∀ v4_2 : Int32, v4_2 = ((σ1.2.2.1 76 (a1).toNatClampNeg) + a2) →
    (¬ (a3 = 0) →
      (¬ (a3 = (1 : Int32)) →
        inb v4_2 20000 ∧
        Q (σ1.2.2.1 79 (v4_2).toNatClampNeg) σ1) ∧
      (a3 = (1 : Int32) →
        inb v4_2 20000 ∧
        Q (σ1.2.2.1 78 (v4_2).toNatClampNeg) σ1)) ∧
    (a3 = 0 →
      inb v4_2 20000 ∧
      Q (σ1.2.2.1 77 (v4_2).toNatClampNeg) σ1)) ∧
  (¬ ((σ1.1 0) ≤ 0) →
    Q (0 : Int32) σ1)
theorem t_next_46 {C : rCx} (hC : cOK C) {Q : Int32 → rS → Prop}   {a1 : Int32} {a2 : Int32} {a3 : Int32} {s1 : Int32} {σ : rS} (F : w_next_46 C Q  a1 a2 a3 s1 σ) : wG C 1 m_next 46 [some (.ref (co C)), some (.int a1), some (.int a2), some (.int a3), none] [.int s1, .ref (co C)] σ (qI Q) := by
  unfold w_next_46 at F
  refine pf_1 hC dX13_next_46 rfl (fun σ1 eσ1 => ?_)
  replace F := F σ1 eσ1
  refine s_aln dX13_next_49 rfl ?_
  refine gf_1 dX13_next_50 rfl ?_
  refine s_i (t := 58) ((σ1.1 0) ≤ 0) dX13_next_53 rfl rfl (fun hc => ?_) (fun hc => ?_)
  · replace F := F.1 hc
    refine s_aln dX13_next_58 rfl ?_
    refine gf_151 dX13_next_59 rfl ?_
    refine s_iln dX13_next_62 rfl ?_
    refine s_ald hC dX13_next_63 rt_76 F.1 ?_
    replace F := F.2
    refine s_iln dX13_next_64 rfl ?_
    refine s_iadd dX13_next_65 ?_
    refine s_isb dX13_next_66 (Nat.le_of_ble_eq_true rfl) (fun v4_2 ev4_2 => ?_)
    replace F := F v4_2 ev4_2
    refine s_iln dX13_next_68 rfl ?_
    refine s_in (t := 82) (a3 = 0) dX13_next_69 rfl rfl (fun hc => ?_) (fun hc => ?_)
    · replace F := F.1 hc
      refine s_iln dX13_next_82 rfl ?_
      refine s_ic dX13_next_83 ki_1 ?_
      refine s_iin (t := 97) (a3 = (1 : Int32)) dX13_next_84 rfl rfl (fun hc => ?_) (fun hc => ?_)
      · replace F := F.1 hc
        refine s_aln dX13_next_97 rfl ?_
        refine gf_160 dX13_next_98 rfl ?_
        refine s_il dX13_next_101 rfl ?_
        refine s_ald hC dX13_next_103 rt_79 F.1 ?_
        replace F := F.2
        exact s_ri dX13_next_104 rfl in_nar F
      · replace F := F.2 hc
        refine s_aln dX13_next_87 rfl ?_
        refine gf_157 dX13_next_88 rfl ?_
        refine s_il dX13_next_91 rfl ?_
        refine s_ald hC dX13_next_93 rt_78 F.1 ?_
        replace F := F.2
        refine s_goto (t := 104) dX13_next_94 rfl ?_
        exact s_ri dX13_next_104 rfl in_nar F
    · replace F := F.2 hc
      refine s_aln dX13_next_72 rfl ?_
      refine gf_154 dX13_next_73 rfl ?_
      refine s_il dX13_next_76 rfl ?_
      refine s_ald hC dX13_next_78 rt_77 F.1 ?_
      replace F := F.2
      refine s_goto (t := 104) dX13_next_79 rfl ?_
      exact s_ri dX13_next_104 rfl in_nar F
  · replace F := F.2 hc
    refine s_ic dX13_next_56 ki_0 ?_
    exact s_ri dX13_next_57 rfl in_nar F

def w_next_0 (C : rCx) (Q : Int32 → rS → Prop)  (a1 : Int32) (a2 : Int32) (a3 : Int32) (σ : rS) : Prop :=
  cI C 0 m_isState [.ref (co C), .int a1] σ (fun r2 σ1 =>
    (r2 = 0 →
      w_next_46 C Q  a1 a2 a3 (1 : Int32) σ1) ∧
    (¬ (r2 = 0) →
      (a2 < 0 →
        w_next_46 C Q  a1 a2 a3 (1 : Int32) σ1) ∧
      (¬ (a2 < 0) →
        inb (a1 + (1 : Int32)) 1001 ∧
        inb a1 1001 ∧
        (((σ1.2.2.1 76 ((a1 + (1 : Int32))).toNatClampNeg) - (σ1.2.2.1 76 (a1).toNatClampNeg)) ≤ a2 →
          w_next_46 C Q  a1 a2 a3 (1 : Int32) σ1) ∧
        (¬ (((σ1.2.2.1 76 ((a1 + (1 : Int32))).toNatClampNeg) - (σ1.2.2.1 76 (a1).toNatClampNeg)) ≤ a2) →
          cI C 0 m_within [.int a3, .int (0 : Int32), .int (2 : Int32)] σ1 (fun r4 σ3 =>
            (¬ (r4 = 0) →
              w_next_46 C Q  a1 a2 a3 (0 : Int32) σ3) ∧
            (r4 = 0 →
              w_next_46 C Q  a1 a2 a3 (1 : Int32) σ3))))))
theorem t_next_0 {C : rCx} (hC : cOK C) {Q : Int32 → rS → Prop}   {a1 : Int32} {a2 : Int32} {a3 : Int32} {σ : rS} (F : w_next_0 C Q  a1 a2 a3 σ) : wG C 1 m_next 0 [some (.ref (co C)), some (.int a1), some (.int a2), some (.int a3), none] [] σ (qI Q) := by
  unfold w_next_0 at F
  refine s_aln dX13_next_0 rfl ?_
  refine s_aln dX13_next_1 rfl ?_
  refine s_iln dX13_next_2 rfl ?_
  refine k_670 dX13_next_3 rfl (Nat.le_of_ble_eq_true rfl) (Nat.le_of_ble_eq_true rfl) F (fun r2 σ1 F => ?_)
  refine s_i (t := 41) (r2 = 0) dX13_next_6 rfl rfl (fun hc => ?_) (fun hc => ?_)
  · replace F := F.1 hc
    refine s_ic dX13_next_41 ki_1 ?_
    refine s_goto (t := 46) dX13_next_42 rfl ?_
    exact s_k (t_next_46 hC  F) ⟨rfl, rfl, rfl, rfl, trivial⟩
  · replace F := F.2 hc
    refine s_iln dX13_next_9 rfl ?_
    refine s_i (t := 41) (a2 < 0) dX13_next_10 rfl rfl (fun hc => ?_) (fun hc => ?_)
    · replace F := F.1 hc
      refine s_ic dX13_next_41 ki_1 ?_
      refine s_goto (t := 46) dX13_next_42 rfl ?_
      exact s_k (t_next_46 hC  F) ⟨rfl, rfl, rfl, rfl, trivial⟩
    · replace F := F.2 hc
      refine s_iln dX13_next_13 rfl ?_
      refine s_aln dX13_next_14 rfl ?_
      refine gf_151 dX13_next_15 rfl ?_
      refine s_iln dX13_next_18 rfl ?_
      refine s_ic dX13_next_19 ki_1 ?_
      refine s_iadd dX13_next_20 ?_
      refine s_ald hC dX13_next_21 rt_76 F.1 ?_
      replace F := F.2
      refine s_aln dX13_next_22 rfl ?_
      refine gf_151 dX13_next_23 rfl ?_
      refine s_iln dX13_next_26 rfl ?_
      refine s_ald hC dX13_next_27 rt_76 F.1 ?_
      replace F := F.2
      refine s_isub dX13_next_28 ?_
      refine s_ii (t := 41) (((σ1.2.2.1 76 ((a1 + (1 : Int32))).toNatClampNeg) - (σ1.2.2.1 76 (a1).toNatClampNeg)) ≤ a2) dX13_next_29 rfl rfl (fun hc => ?_) (fun hc => ?_)
      · replace F := F.1 hc
        refine s_ic dX13_next_41 ki_1 ?_
        refine s_goto (t := 46) dX13_next_42 rfl ?_
        exact s_k (t_next_46 hC  F) ⟨rfl, rfl, rfl, rfl, trivial⟩
      · replace F := F.2 hc
        refine s_iln dX13_next_32 rfl ?_
        refine s_ic dX13_next_33 ki_0 ?_
        refine s_ic dX13_next_34 ki_2 ?_
        refine k_362 dX13_next_35 rfl (Nat.le_of_ble_eq_true rfl) (Nat.le_of_ble_eq_true rfl) F (fun r4 σ3 F => ?_)
        refine s_in (t := 45) (r4 = 0) dX13_next_38 rfl rfl (fun hc => ?_) (fun hc => ?_)
        · replace F := F.1 hc
          refine s_ic dX13_next_45 ki_0 ?_
          exact s_k (t_next_46 hC  F) ⟨rfl, rfl, rfl, rfl, trivial⟩
        · replace F := F.2 hc
          refine s_ic dX13_next_41 ki_1 ?_
          refine s_goto (t := 46) dX13_next_42 rfl ?_
          exact s_k (t_next_46 hC  F) ⟨rfl, rfl, rfl, rfl, trivial⟩

theorem m_next_run {C : rCx} (hC : cOK C) {Q : Int32 → rS → Prop} {a1 : Int32} {a2 : Int32} {a3 : Int32} {σ : rS} (F : w_next_0 C Q a1 a2 a3 σ) : cI C 1 m_next [.ref (co C), .int a1, .int a2, .int a3] σ Q := m_I (m_ent _ 1) (t_next_0 hC F)

theorem dX13_ending_0 : decode cX13_ending 0 = .ok (.aload_n 0, 1) := by decide +kernel
theorem dX13_ending_1 : decode cX13_ending 1 = .ok (.aload_n 0, 1) := by decide +kernel
theorem dX13_ending_2 : decode cX13_ending 2 = .ok (.getfield 533, 3) := by decide +kernel
theorem dX13_ending_5 : decode cX13_ending 5 = .ok (.ifCond .eq 33, 3) := by decide +kernel
theorem dX13_ending_8 : decode cX13_ending 8 = .ok (.iload_n 1, 1) := by decide +kernel
theorem dX13_ending_9 : decode cX13_ending 9 = .ok (.ifCond .lt 29, 3) := by decide +kernel
theorem dX13_ending_12 : decode cX13_ending 12 = .ok (.iload_n 1, 1) := by decide +kernel
theorem dX13_ending_13 : decode cX13_ending 13 = .ok (.aload_n 0, 1) := by decide +kernel
theorem dX13_ending_14 : decode cX13_ending 14 = .ok (.getfield 545, 3) := by decide +kernel
theorem dX13_ending_17 : decode cX13_ending 17 = .ok (.if_icmp .ge 21, 3) := by decide +kernel
theorem dX13_ending_20 : decode cX13_ending 20 = .ok (.iload_n 2, 1) := by decide +kernel
theorem dX13_ending_21 : decode cX13_ending 21 = .ok (.iconst (-1), 1) := by decide +kernel
theorem dX13_ending_22 : decode cX13_ending 22 = .ok (.if_icmp .lt 16, 3) := by decide +kernel
theorem dX13_ending_25 : decode cX13_ending 25 = .ok (.iload_n 2, 1) := by decide +kernel
theorem dX13_ending_26 : decode cX13_ending 26 = .ok (.aload_n 0, 1) := by decide +kernel
theorem dX13_ending_27 : decode cX13_ending 27 = .ok (.getfield 333, 3) := by decide +kernel
theorem dX13_ending_30 : decode cX13_ending 30 = .ok (.aload_n 0, 1) := by decide +kernel
theorem dX13_ending_31 : decode cX13_ending 31 = .ok (.getfield 369, 3) := by decide +kernel
theorem dX13_ending_34 : decode cX13_ending 34 = .ok (.iadd, 1) := by decide +kernel
theorem dX13_ending_35 : decode cX13_ending 35 = .ok (.if_icmp .lt 7, 3) := by decide +kernel
theorem dX13_ending_38 : decode cX13_ending 38 = .ok (.iconst 1, 1) := by decide +kernel
theorem dX13_ending_39 : decode cX13_ending 39 = .ok (.goto 4, 3) := by decide +kernel
theorem dX13_ending_42 : decode cX13_ending 42 = .ok (.iconst 0, 1) := by decide +kernel
theorem dX13_ending_43 : decode cX13_ending 43 = .ok (.putfield 1, 3) := by decide +kernel
theorem dX13_ending_46 : decode cX13_ending 46 = .ok (.aload_n 0, 1) := by decide +kernel
theorem dX13_ending_47 : decode cX13_ending 47 = .ok (.getfield 1, 3) := by decide +kernel
theorem dX13_ending_50 : decode cX13_ending 50 = .ok (.ifCond .le 7, 3) := by decide +kernel
theorem dX13_ending_53 : decode cX13_ending 53 = .ok (.iconst 0, 1) := by decide +kernel
theorem dX13_ending_54 : decode cX13_ending 54 = .ok (.goto 16, 3) := by decide +kernel
theorem dX13_ending_57 : decode cX13_ending 57 = .ok (.aload_n 0, 1) := by decide +kernel
theorem dX13_ending_58 : decode cX13_ending 58 = .ok (.getfield 148, 3) := by decide +kernel
theorem dX13_ending_61 : decode cX13_ending 61 = .ok (.bipush 35, 2) := by decide +kernel
theorem dX13_ending_63 : decode cX13_ending 63 = .ok (.iload_n 1, 1) := by decide +kernel
theorem dX13_ending_64 : decode cX13_ending 64 = .ok (.imul, 1) := by decide +kernel
theorem dX13_ending_65 : decode cX13_ending 65 = .ok (.iconst 1, 1) := by decide +kernel
theorem dX13_ending_66 : decode cX13_ending 66 = .ok (.iadd, 1) := by decide +kernel
theorem dX13_ending_67 : decode cX13_ending 67 = .ok (.iload_n 2, 1) := by decide +kernel
theorem dX13_ending_68 : decode cX13_ending 68 = .ok (.iadd, 1) := by decide +kernel
theorem dX13_ending_69 : decode cX13_ending 69 = .ok (.iaload, 1) := by decide +kernel
theorem dX13_ending_70 : decode cX13_ending 70 = .ok (.ireturn, 1) := by decide +kernel
def w_ending_43 (C : rCx) (Q : Int32 → rS → Prop)  (a1 : Int32) (a2 : Int32) (s1 : Int32) (σ : rS) : Prop :=
  ∀ σ1, σ1 = siU σ 0 s1 →
  ((σ1.1 0) ≤ 0 →
    inb ((((35 : Int32) * a1) + (1 : Int32)) + a2) 35000 ∧
    Q (σ1.2.2.1 75 (((((35 : Int32) * a1) + (1 : Int32)) + a2)).toNatClampNeg) σ1) ∧
  (¬ ((σ1.1 0) ≤ 0) →
    Q (0 : Int32) σ1)
theorem t_ending_43 {C : rCx} (hC : cOK C) {Q : Int32 → rS → Prop}   {a1 : Int32} {a2 : Int32} {s1 : Int32} {σ : rS} (F : w_ending_43 C Q  a1 a2 s1 σ) : wG C 0 m_ending 43 [some (.ref (co C)), some (.int a1), some (.int a2)] [.int s1, .ref (co C)] σ (qI Q) := by
  unfold w_ending_43 at F
  refine pf_1 hC dX13_ending_43 rfl (fun σ1 eσ1 => ?_)
  replace F := F σ1 eσ1
  refine s_aln dX13_ending_46 rfl ?_
  refine gf_1 dX13_ending_47 rfl ?_
  refine s_i (t := 57) ((σ1.1 0) ≤ 0) dX13_ending_50 rfl rfl (fun hc => ?_) (fun hc => ?_)
  · replace F := F.1 hc
    refine s_aln dX13_ending_57 rfl ?_
    refine gf_148 dX13_ending_58 rfl ?_
    refine s_bi dX13_ending_61 kb_35 ?_
    refine s_iln dX13_ending_63 rfl ?_
    refine s_imul dX13_ending_64 ?_
    refine s_ic dX13_ending_65 ki_1 ?_
    refine s_iadd dX13_ending_66 ?_
    refine s_iln dX13_ending_67 rfl ?_
    refine s_iadd dX13_ending_68 ?_
    refine s_ald hC dX13_ending_69 rt_75 F.1 ?_
    replace F := F.2
    exact s_ri dX13_ending_70 rfl in_nar F
  · replace F := F.2 hc
    refine s_ic dX13_ending_53 ki_0 ?_
    refine s_goto (t := 70) dX13_ending_54 rfl ?_
    exact s_ri dX13_ending_70 rfl in_nar F

def w_ending_0 (C : rCx) (Q : Int32 → rS → Prop)  (a1 : Int32) (a2 : Int32) (σ : rS) : Prop :=
  ((σ.1 69) = 0 →
    w_ending_43 C Q  a1 a2 (1 : Int32) σ) ∧
  (¬ ((σ.1 69) = 0) →
    (a1 < 0 →
      w_ending_43 C Q  a1 a2 (1 : Int32) σ) ∧
    (¬ (a1 < 0) →
      ((σ.1 71) ≤ a1 →
        w_ending_43 C Q  a1 a2 (1 : Int32) σ) ∧
      (¬ ((σ.1 71) ≤ a1) →
        (a2 < (-1 : Int32) →
          w_ending_43 C Q  a1 a2 (1 : Int32) σ) ∧
        (¬ (a2 < (-1 : Int32)) →
          (a2 < ((σ.1 15) + (σ.1 17)) →
            w_ending_43 C Q  a1 a2 (0 : Int32) σ) ∧
          (¬ (a2 < ((σ.1 15) + (σ.1 17))) →
            w_ending_43 C Q  a1 a2 (1 : Int32) σ)))))
theorem t_ending_0 {C : rCx} (hC : cOK C) {Q : Int32 → rS → Prop}   {a1 : Int32} {a2 : Int32} {σ : rS} (F : w_ending_0 C Q  a1 a2 σ) : wG C 0 m_ending 0 [some (.ref (co C)), some (.int a1), some (.int a2)] [] σ (qI Q) := by
  unfold w_ending_0 at F
  refine s_aln dX13_ending_0 rfl ?_
  refine s_aln dX13_ending_1 rfl ?_
  refine gf_533 dX13_ending_2 rfl ?_
  refine s_i (t := 38) ((σ.1 69) = 0) dX13_ending_5 rfl rfl (fun hc => ?_) (fun hc => ?_)
  · replace F := F.1 hc
    refine s_ic dX13_ending_38 ki_1 ?_
    refine s_goto (t := 43) dX13_ending_39 rfl ?_
    exact s_k (t_ending_43 hC  F) ⟨rfl, rfl, rfl, trivial⟩
  · replace F := F.2 hc
    refine s_iln dX13_ending_8 rfl ?_
    refine s_i (t := 38) (a1 < 0) dX13_ending_9 rfl rfl (fun hc => ?_) (fun hc => ?_)
    · replace F := F.1 hc
      refine s_ic dX13_ending_38 ki_1 ?_
      refine s_goto (t := 43) dX13_ending_39 rfl ?_
      exact s_k (t_ending_43 hC  F) ⟨rfl, rfl, rfl, trivial⟩
    · replace F := F.2 hc
      refine s_iln dX13_ending_12 rfl ?_
      refine s_aln dX13_ending_13 rfl ?_
      refine gf_545 dX13_ending_14 rfl ?_
      refine s_ii (t := 38) ((σ.1 71) ≤ a1) dX13_ending_17 rfl rfl (fun hc => ?_) (fun hc => ?_)
      · replace F := F.1 hc
        refine s_ic dX13_ending_38 ki_1 ?_
        refine s_goto (t := 43) dX13_ending_39 rfl ?_
        exact s_k (t_ending_43 hC  F) ⟨rfl, rfl, rfl, trivial⟩
      · replace F := F.2 hc
        refine s_iln dX13_ending_20 rfl ?_
        refine s_ic dX13_ending_21 ki_m1 ?_
        refine s_ii (t := 38) (a2 < (-1 : Int32)) dX13_ending_22 rfl rfl (fun hc => ?_) (fun hc => ?_)
        · replace F := F.1 hc
          refine s_ic dX13_ending_38 ki_1 ?_
          refine s_goto (t := 43) dX13_ending_39 rfl ?_
          exact s_k (t_ending_43 hC  F) ⟨rfl, rfl, rfl, trivial⟩
        · replace F := F.2 hc
          refine s_iln dX13_ending_25 rfl ?_
          refine s_aln dX13_ending_26 rfl ?_
          refine gf_333 dX13_ending_27 rfl ?_
          refine s_aln dX13_ending_30 rfl ?_
          refine gf_369 dX13_ending_31 rfl ?_
          refine s_iadd dX13_ending_34 ?_
          refine s_ii (t := 42) (a2 < ((σ.1 15) + (σ.1 17))) dX13_ending_35 rfl rfl (fun hc => ?_) (fun hc => ?_)
          · replace F := F.1 hc
            refine s_ic dX13_ending_42 ki_0 ?_
            exact s_k (t_ending_43 hC  F) ⟨rfl, rfl, rfl, trivial⟩
          · replace F := F.2 hc
            refine s_ic dX13_ending_38 ki_1 ?_
            refine s_goto (t := 43) dX13_ending_39 rfl ?_
            exact s_k (t_ending_43 hC  F) ⟨rfl, rfl, rfl, trivial⟩

theorem m_ending_run {C : rCx} (hC : cOK C) {Q : Int32 → rS → Prop} {a1 : Int32} {a2 : Int32} {σ : rS} (F : w_ending_0 C Q a1 a2 σ) : cI C 0 m_ending [.ref (co C), .int a1, .int a2] σ Q := m_I (m_ent _ 0) (t_ending_0 hC F)

theorem dX13_decide_0 : decode cX13_decide 0 = .ok (.aload_n 0, 1) := by decide +kernel
theorem dX13_decide_1 : decode cX13_decide 1 = .ok (.aload_n 0, 1) := by decide +kernel
theorem dX13_decide_2 : decode cX13_decide 2 = .ok (.iload_n 1, 1) := by decide +kernel
theorem dX13_decide_3 : decode cX13_decide 3 = .ok (.invokevirtual 670, 3) := by decide +kernel
theorem dX13_decide_6 : decode cX13_decide 6 = .ok (.ifCond .eq 35, 3) := by decide +kernel
theorem dX13_decide_9 : decode cX13_decide 9 = .ok (.aload_n 0, 1) := by decide +kernel
theorem dX13_decide_10 : decode cX13_decide 10 = .ok (.getfield 166, 3) := by decide +kernel
theorem dX13_decide_13 : decode cX13_decide 13 = .ok (.iload_n 1, 1) := by decide +kernel
theorem dX13_decide_14 : decode cX13_decide 14 = .ok (.baload, 1) := by decide +kernel
theorem dX13_decide_15 : decode cX13_decide 15 = .ok (.ifCond .eq 26, 3) := by decide +kernel
theorem dX13_decide_18 : decode cX13_decide 18 = .ok (.iload_n 2, 1) := by decide +kernel
theorem dX13_decide_19 : decode cX13_decide 19 = .ok (.ifCond .lt 22, 3) := by decide +kernel
theorem dX13_decide_22 : decode cX13_decide 22 = .ok (.iload_n 2, 1) := by decide +kernel
theorem dX13_decide_23 : decode cX13_decide 23 = .ok (.aload_n 0, 1) := by decide +kernel
theorem dX13_decide_24 : decode cX13_decide 24 = .ok (.getfield 151, 3) := by decide +kernel
theorem dX13_decide_27 : decode cX13_decide 27 = .ok (.iload_n 1, 1) := by decide +kernel
theorem dX13_decide_28 : decode cX13_decide 28 = .ok (.iconst 1, 1) := by decide +kernel
theorem dX13_decide_29 : decode cX13_decide 29 = .ok (.iadd, 1) := by decide +kernel
theorem dX13_decide_30 : decode cX13_decide 30 = .ok (.iaload, 1) := by decide +kernel
theorem dX13_decide_31 : decode cX13_decide 31 = .ok (.aload_n 0, 1) := by decide +kernel
theorem dX13_decide_32 : decode cX13_decide 32 = .ok (.getfield 151, 3) := by decide +kernel
theorem dX13_decide_35 : decode cX13_decide 35 = .ok (.iload_n 1, 1) := by decide +kernel
theorem dX13_decide_36 : decode cX13_decide 36 = .ok (.iaload, 1) := by decide +kernel
theorem dX13_decide_37 : decode cX13_decide 37 = .ok (.isub, 1) := by decide +kernel
theorem dX13_decide_38 : decode cX13_decide 38 = .ok (.if_icmp .lt 7, 3) := by decide +kernel
theorem dX13_decide_41 : decode cX13_decide 41 = .ok (.iconst 1, 1) := by decide +kernel
theorem dX13_decide_42 : decode cX13_decide 42 = .ok (.goto 4, 3) := by decide +kernel
theorem dX13_decide_45 : decode cX13_decide 45 = .ok (.iconst 0, 1) := by decide +kernel
theorem dX13_decide_46 : decode cX13_decide 46 = .ok (.putfield 1, 3) := by decide +kernel
theorem dX13_decide_49 : decode cX13_decide 49 = .ok (.aload_n 0, 1) := by decide +kernel
theorem dX13_decide_50 : decode cX13_decide 50 = .ok (.getfield 1, 3) := by decide +kernel
theorem dX13_decide_53 : decode cX13_decide 53 = .ok (.ifCond .le 5, 3) := by decide +kernel
theorem dX13_decide_56 : decode cX13_decide 56 = .ok (.iconst 0, 1) := by decide +kernel
theorem dX13_decide_57 : decode cX13_decide 57 = .ok (.ireturn, 1) := by decide +kernel
theorem dX13_decide_58 : decode cX13_decide 58 = .ok (.aload_n 0, 1) := by decide +kernel
theorem dX13_decide_59 : decode cX13_decide 59 = .ok (.getfield 172, 3) := by decide +kernel
theorem dX13_decide_62 : decode cX13_decide 62 = .ok (.iload_n 1, 1) := by decide +kernel
theorem dX13_decide_63 : decode cX13_decide 63 = .ok (.iaload, 1) := by decide +kernel
theorem dX13_decide_64 : decode cX13_decide 64 = .ok (.istore_n 3, 1) := by decide +kernel
theorem dX13_decide_65 : decode cX13_decide 65 = .ok (.aload_n 0, 1) := by decide +kernel
theorem dX13_decide_66 : decode cX13_decide 66 = .ok (.getfield 172, 3) := by decide +kernel
theorem dX13_decide_69 : decode cX13_decide 69 = .ok (.iload_n 1, 1) := by decide +kernel
theorem dX13_decide_70 : decode cX13_decide 70 = .ok (.iload_n 2, 1) := by decide +kernel
theorem dX13_decide_71 : decode cX13_decide 71 = .ok (.iastore, 1) := by decide +kernel
theorem dX13_decide_72 : decode cX13_decide 72 = .ok (.aload_n 0, 1) := by decide +kernel
theorem dX13_decide_73 : decode cX13_decide 73 = .ok (.iconst 0, 1) := by decide +kernel
theorem dX13_decide_74 : decode cX13_decide 74 = .ok (.putfield 536, 3) := by decide +kernel
theorem dX13_decide_77 : decode cX13_decide 77 = .ok (.iload_n 3, 1) := by decide +kernel
theorem dX13_decide_78 : decode cX13_decide 78 = .ok (.ireturn, 1) := by decide +kernel
def w_decide_46 (C : rCx) (Q : Int32 → rS → Prop)  (a1 : Int32) (a2 : Int32) (s1 : Int32) (σ : rS) : Prop :=
  ∀ σ1, σ1 = siU σ 0 s1 →
  ((σ1.1 0) ≤ 0 →
    inb a1 1000 ∧
    ∀ v3_2 : Int32, v3_2 = (σ1.2.2.1 83 (a1).toNatClampNeg) →
    inb a1 1000 ∧
    ∀ σ3, σ3 = riU σ1 83 (a1).toNatClampNeg a2 →
    ∀ σ4, σ4 = siU σ3 94 (0 : Int32) →
    Q v3_2 σ4) ∧
  (¬ ((σ1.1 0) ≤ 0) →
    Q (0 : Int32) σ1)
theorem t_decide_46 {C : rCx} (hC : cOK C) {Q : Int32 → rS → Prop}   {a1 : Int32} {a2 : Int32} {s1 : Int32} {σ : rS} (F : w_decide_46 C Q  a1 a2 s1 σ) : wG C 1 m_decide 46 [some (.ref (co C)), some (.int a1), some (.int a2), none] [.int s1, .ref (co C)] σ (qI Q) := by
  unfold w_decide_46 at F
  refine pf_1 hC dX13_decide_46 rfl (fun σ1 eσ1 => ?_)
  replace F := F σ1 eσ1
  refine s_aln dX13_decide_49 rfl ?_
  refine gf_1 dX13_decide_50 rfl ?_
  refine s_i (t := 58) ((σ1.1 0) ≤ 0) dX13_decide_53 rfl rfl (fun hc => ?_) (fun hc => ?_)
  · replace F := F.1 hc
    refine s_aln dX13_decide_58 rfl ?_
    refine gf_172 dX13_decide_59 rfl ?_
    refine s_iln dX13_decide_62 rfl ?_
    refine s_ald hC dX13_decide_63 rt_83 F.1 ?_
    replace F := F.2
    refine s_isnb dX13_decide_64 (Nat.le_of_ble_eq_true rfl) (fun v3_2 ev3_2 => ?_)
    replace F := F v3_2 ev3_2
    refine s_aln dX13_decide_65 rfl ?_
    refine gf_172 dX13_decide_66 rfl ?_
    refine s_iln dX13_decide_69 rfl ?_
    refine s_iln dX13_decide_70 rfl ?_
    refine s_astb hC dX13_decide_71 rt_83 F.1 (fun σ3 eσ3 => ?_)
    replace F := F.2 σ3 eσ3
    refine s_aln dX13_decide_72 rfl ?_
    refine s_ic dX13_decide_73 ki_0 ?_
    refine pf_536 hC dX13_decide_74 rfl (nb_nar nb_0) (fun σ4 eσ4 => ?_)
    replace F := F σ4 eσ4
    refine s_iln dX13_decide_77 rfl ?_
    exact s_ri dX13_decide_78 rfl in_nar F
  · replace F := F.2 hc
    refine s_ic dX13_decide_56 ki_0 ?_
    exact s_ri dX13_decide_57 rfl in_nar F

def w_decide_0 (C : rCx) (Q : Int32 → rS → Prop)  (a1 : Int32) (a2 : Int32) (σ : rS) : Prop :=
  cI C 0 m_isState [.ref (co C), .int a1] σ (fun r2 σ1 =>
    (r2 = 0 →
      w_decide_46 C Q  a1 a2 (1 : Int32) σ1) ∧
    (¬ (r2 = 0) →
      inb a1 1000 ∧
      ((σ1.2.2.1 81 (a1).toNatClampNeg) = 0 →
        w_decide_46 C Q  a1 a2 (1 : Int32) σ1) ∧
      (¬ ((σ1.2.2.1 81 (a1).toNatClampNeg) = 0) →
        (a2 < 0 →
          w_decide_46 C Q  a1 a2 (1 : Int32) σ1) ∧
        (¬ (a2 < 0) →
          inb (a1 + (1 : Int32)) 1001 ∧
          inb a1 1001 ∧
          (a2 < ((σ1.2.2.1 76 ((a1 + (1 : Int32))).toNatClampNeg) - (σ1.2.2.1 76 (a1).toNatClampNeg)) →
            w_decide_46 C Q  a1 a2 (0 : Int32) σ1) ∧
          (¬ (a2 < ((σ1.2.2.1 76 ((a1 + (1 : Int32))).toNatClampNeg) - (σ1.2.2.1 76 (a1).toNatClampNeg))) →
            w_decide_46 C Q  a1 a2 (1 : Int32) σ1)))))
theorem t_decide_0 {C : rCx} (hC : cOK C) {Q : Int32 → rS → Prop}   {a1 : Int32} {a2 : Int32} {σ : rS} (F : w_decide_0 C Q  a1 a2 σ) : wG C 1 m_decide 0 [some (.ref (co C)), some (.int a1), some (.int a2), none] [] σ (qI Q) := by
  unfold w_decide_0 at F
  refine s_aln dX13_decide_0 rfl ?_
  refine s_aln dX13_decide_1 rfl ?_
  refine s_iln dX13_decide_2 rfl ?_
  refine k_670 dX13_decide_3 rfl (Nat.le_of_ble_eq_true rfl) (Nat.le_of_ble_eq_true rfl) F (fun r2 σ1 F => ?_)
  refine s_i (t := 41) (r2 = 0) dX13_decide_6 rfl rfl (fun hc => ?_) (fun hc => ?_)
  · replace F := F.1 hc
    refine s_ic dX13_decide_41 ki_1 ?_
    refine s_goto (t := 46) dX13_decide_42 rfl ?_
    exact s_k (t_decide_46 hC  F) ⟨rfl, rfl, rfl, trivial⟩
  · replace F := F.2 hc
    refine s_aln dX13_decide_9 rfl ?_
    refine gf_166 dX13_decide_10 rfl ?_
    refine s_iln dX13_decide_13 rfl ?_
    refine s_zld hC dX13_decide_14 rt_81 F.1 ?_
    replace F := F.2
    refine s_i (t := 41) ((σ1.2.2.1 81 (a1).toNatClampNeg) = 0) dX13_decide_15 rfl rfl (fun hc => ?_) (fun hc => ?_)
    · replace F := F.1 hc
      refine s_ic dX13_decide_41 ki_1 ?_
      refine s_goto (t := 46) dX13_decide_42 rfl ?_
      exact s_k (t_decide_46 hC  F) ⟨rfl, rfl, rfl, trivial⟩
    · replace F := F.2 hc
      refine s_iln dX13_decide_18 rfl ?_
      refine s_i (t := 41) (a2 < 0) dX13_decide_19 rfl rfl (fun hc => ?_) (fun hc => ?_)
      · replace F := F.1 hc
        refine s_ic dX13_decide_41 ki_1 ?_
        refine s_goto (t := 46) dX13_decide_42 rfl ?_
        exact s_k (t_decide_46 hC  F) ⟨rfl, rfl, rfl, trivial⟩
      · replace F := F.2 hc
        refine s_iln dX13_decide_22 rfl ?_
        refine s_aln dX13_decide_23 rfl ?_
        refine gf_151 dX13_decide_24 rfl ?_
        refine s_iln dX13_decide_27 rfl ?_
        refine s_ic dX13_decide_28 ki_1 ?_
        refine s_iadd dX13_decide_29 ?_
        refine s_ald hC dX13_decide_30 rt_76 F.1 ?_
        replace F := F.2
        refine s_aln dX13_decide_31 rfl ?_
        refine gf_151 dX13_decide_32 rfl ?_
        refine s_iln dX13_decide_35 rfl ?_
        refine s_ald hC dX13_decide_36 rt_76 F.1 ?_
        replace F := F.2
        refine s_isub dX13_decide_37 ?_
        refine s_ii (t := 45) (a2 < ((σ1.2.2.1 76 ((a1 + (1 : Int32))).toNatClampNeg) - (σ1.2.2.1 76 (a1).toNatClampNeg))) dX13_decide_38 rfl rfl (fun hc => ?_) (fun hc => ?_)
        · replace F := F.1 hc
          refine s_ic dX13_decide_45 ki_0 ?_
          exact s_k (t_decide_46 hC  F) ⟨rfl, rfl, rfl, trivial⟩
        · replace F := F.2 hc
          refine s_ic dX13_decide_41 ki_1 ?_
          refine s_goto (t := 46) dX13_decide_42 rfl ?_
          exact s_k (t_decide_46 hC  F) ⟨rfl, rfl, rfl, trivial⟩

theorem m_decide_run {C : rCx} (hC : cOK C) {Q : Int32 → rS → Prop} {a1 : Int32} {a2 : Int32} {σ : rS} (F : w_decide_0 C Q a1 a2 σ) : cI C 1 m_decide [.ref (co C), .int a1, .int a2] σ Q := m_I (m_ent _ 1) (t_decide_0 hC F)

theorem dX13_decided_0 : decode cX13_decided 0 = .ok (.aload_n 0, 1) := by decide +kernel
theorem dX13_decided_1 : decode cX13_decided 1 = .ok (.aload_n 0, 1) := by decide +kernel
theorem dX13_decided_2 : decode cX13_decided 2 = .ok (.iload_n 1, 1) := by decide +kernel
theorem dX13_decided_3 : decode cX13_decided 3 = .ok (.invokevirtual 670, 3) := by decide +kernel
theorem dX13_decided_6 : decode cX13_decided 6 = .ok (.ifCond .eq 12, 3) := by decide +kernel
theorem dX13_decided_9 : decode cX13_decided 9 = .ok (.aload_n 0, 1) := by decide +kernel
theorem dX13_decided_10 : decode cX13_decided 10 = .ok (.getfield 166, 3) := by decide +kernel
theorem dX13_decided_13 : decode cX13_decided 13 = .ok (.iload_n 1, 1) := by decide +kernel
theorem dX13_decided_14 : decode cX13_decided 14 = .ok (.baload, 1) := by decide +kernel
theorem dX13_decided_15 : decode cX13_decided 15 = .ok (.ifCond .ne 7, 3) := by decide +kernel
theorem dX13_decided_18 : decode cX13_decided 18 = .ok (.iconst 1, 1) := by decide +kernel
theorem dX13_decided_19 : decode cX13_decided 19 = .ok (.goto 4, 3) := by decide +kernel
theorem dX13_decided_22 : decode cX13_decided 22 = .ok (.iconst 0, 1) := by decide +kernel
theorem dX13_decided_23 : decode cX13_decided 23 = .ok (.putfield 1, 3) := by decide +kernel
theorem dX13_decided_26 : decode cX13_decided 26 = .ok (.aload_n 0, 1) := by decide +kernel
theorem dX13_decided_27 : decode cX13_decided 27 = .ok (.getfield 1, 3) := by decide +kernel
theorem dX13_decided_30 : decode cX13_decided 30 = .ok (.ifCond .le 7, 3) := by decide +kernel
theorem dX13_decided_33 : decode cX13_decided 33 = .ok (.iconst 0, 1) := by decide +kernel
theorem dX13_decided_34 : decode cX13_decided 34 = .ok (.goto 9, 3) := by decide +kernel
theorem dX13_decided_37 : decode cX13_decided 37 = .ok (.aload_n 0, 1) := by decide +kernel
theorem dX13_decided_38 : decode cX13_decided 38 = .ok (.getfield 172, 3) := by decide +kernel
theorem dX13_decided_41 : decode cX13_decided 41 = .ok (.iload_n 1, 1) := by decide +kernel
theorem dX13_decided_42 : decode cX13_decided 42 = .ok (.iaload, 1) := by decide +kernel
theorem dX13_decided_43 : decode cX13_decided 43 = .ok (.ireturn, 1) := by decide +kernel
def w_decided_23 (C : rCx) (Q : Int32 → rS → Prop)  (a1 : Int32) (s1 : Int32) (σ : rS) : Prop :=
  ∀ σ1, σ1 = siU σ 0 s1 →
  ((σ1.1 0) ≤ 0 →
    inb a1 1000 ∧
    Q (σ1.2.2.1 83 (a1).toNatClampNeg) σ1) ∧
  (¬ ((σ1.1 0) ≤ 0) →
    Q (0 : Int32) σ1)
theorem t_decided_23 {C : rCx} (hC : cOK C) {Q : Int32 → rS → Prop}   {a1 : Int32} {s1 : Int32} {σ : rS} (F : w_decided_23 C Q  a1 s1 σ) : wG C 1 m_decided 23 [some (.ref (co C)), some (.int a1)] [.int s1, .ref (co C)] σ (qI Q) := by
  unfold w_decided_23 at F
  refine pf_1 hC dX13_decided_23 rfl (fun σ1 eσ1 => ?_)
  replace F := F σ1 eσ1
  refine s_aln dX13_decided_26 rfl ?_
  refine gf_1 dX13_decided_27 rfl ?_
  refine s_i (t := 37) ((σ1.1 0) ≤ 0) dX13_decided_30 rfl rfl (fun hc => ?_) (fun hc => ?_)
  · replace F := F.1 hc
    refine s_aln dX13_decided_37 rfl ?_
    refine gf_172 dX13_decided_38 rfl ?_
    refine s_iln dX13_decided_41 rfl ?_
    refine s_ald hC dX13_decided_42 rt_83 F.1 ?_
    replace F := F.2
    exact s_ri dX13_decided_43 rfl in_nar F
  · replace F := F.2 hc
    refine s_ic dX13_decided_33 ki_0 ?_
    refine s_goto (t := 43) dX13_decided_34 rfl ?_
    exact s_ri dX13_decided_43 rfl in_nar F

def w_decided_0 (C : rCx) (Q : Int32 → rS → Prop)  (a1 : Int32) (σ : rS) : Prop :=
  cI C 0 m_isState [.ref (co C), .int a1] σ (fun r2 σ1 =>
    (r2 = 0 →
      w_decided_23 C Q  a1 (1 : Int32) σ1) ∧
    (¬ (r2 = 0) →
      inb a1 1000 ∧
      (¬ ((σ1.2.2.1 81 (a1).toNatClampNeg) = 0) →
        w_decided_23 C Q  a1 (0 : Int32) σ1) ∧
      ((σ1.2.2.1 81 (a1).toNatClampNeg) = 0 →
        w_decided_23 C Q  a1 (1 : Int32) σ1)))
theorem t_decided_0 {C : rCx} (hC : cOK C) {Q : Int32 → rS → Prop}   {a1 : Int32} {σ : rS} (F : w_decided_0 C Q  a1 σ) : wG C 1 m_decided 0 [some (.ref (co C)), some (.int a1)] [] σ (qI Q) := by
  unfold w_decided_0 at F
  refine s_aln dX13_decided_0 rfl ?_
  refine s_aln dX13_decided_1 rfl ?_
  refine s_iln dX13_decided_2 rfl ?_
  refine k_670 dX13_decided_3 rfl (Nat.le_of_ble_eq_true rfl) (Nat.le_of_ble_eq_true rfl) F (fun r2 σ1 F => ?_)
  refine s_i (t := 18) (r2 = 0) dX13_decided_6 rfl rfl (fun hc => ?_) (fun hc => ?_)
  · replace F := F.1 hc
    refine s_ic dX13_decided_18 ki_1 ?_
    refine s_goto (t := 23) dX13_decided_19 rfl ?_
    exact s_k (t_decided_23 hC  F) ⟨rfl, rfl, trivial⟩
  · replace F := F.2 hc
    refine s_aln dX13_decided_9 rfl ?_
    refine gf_166 dX13_decided_10 rfl ?_
    refine s_iln dX13_decided_13 rfl ?_
    refine s_zld hC dX13_decided_14 rt_81 F.1 ?_
    replace F := F.2
    refine s_in (t := 22) ((σ1.2.2.1 81 (a1).toNatClampNeg) = 0) dX13_decided_15 rfl rfl (fun hc => ?_) (fun hc => ?_)
    · replace F := F.1 hc
      refine s_ic dX13_decided_22 ki_0 ?_
      exact s_k (t_decided_23 hC  F) ⟨rfl, rfl, trivial⟩
    · replace F := F.2 hc
      refine s_ic dX13_decided_18 ki_1 ?_
      refine s_goto (t := 23) dX13_decided_19 rfl ?_
      exact s_k (t_decided_23 hC  F) ⟨rfl, rfl, trivial⟩

theorem m_decided_run {C : rCx} (hC : cOK C) {Q : Int32 → rS → Prop} {a1 : Int32} {σ : rS} (F : w_decided_0 C Q a1 σ) : cI C 1 m_decided [.ref (co C), .int a1] σ Q := m_I (m_ent _ 0) (t_decided_0 hC F)

theorem dX13_set_0 : decode cX13_set 0 = .ok (.iconst 0, 1) := by decide +kernel
theorem dX13_set_1 : decode cX13_set 1 = .ok (.istore 4, 2) := by decide +kernel
theorem dX13_set_3 : decode cX13_set 3 = .ok (.lload_n 2, 1) := by decide +kernel
theorem dX13_set_4 : decode cX13_set 4 = .ok (.lstore 5, 2) := by decide +kernel
theorem dX13_set_6 : decode cX13_set 6 = .ok (.lload 5, 2) := by decide +kernel
theorem dX13_set_8 : decode cX13_set 8 = .ok (.lconst 0, 1) := by decide +kernel
theorem dX13_set_9 : decode cX13_set 9 = .ok (.lcmp, 1) := by decide +kernel
theorem dX13_set_10 : decode cX13_set 10 = .ok (.ifCond .eq 36, 3) := by decide +kernel
theorem dX13_set_13 : decode cX13_set 13 = .ok (.aload_n 0, 1) := by decide +kernel
theorem dX13_set_14 : decode cX13_set 14 = .ok (.getfield 185, 3) := by decide +kernel
theorem dX13_set_17 : decode cX13_set 17 = .ok (.ldc_w 676, 3) := by decide +kernel
theorem dX13_set_20 : decode cX13_set 20 = .ok (.iload_n 1, 1) := by decide +kernel
theorem dX13_set_21 : decode cX13_set 21 = .ok (.imul, 1) := by decide +kernel
theorem dX13_set_22 : decode cX13_set 22 = .ok (.iload 4, 2) := by decide +kernel
theorem dX13_set_24 : decode cX13_set 24 = .ok (.iadd, 1) := by decide +kernel
theorem dX13_set_25 : decode cX13_set 25 = .ok (.lload 5, 2) := by decide +kernel
theorem dX13_set_27 : decode cX13_set 27 = .ok (.ldc2_w 677, 3) := by decide +kernel
theorem dX13_set_30 : decode cX13_set 30 = .ok (.land, 1) := by decide +kernel
theorem dX13_set_31 : decode cX13_set 31 = .ok (.l2i, 1) := by decide +kernel
theorem dX13_set_32 : decode cX13_set 32 = .ok (.iastore, 1) := by decide +kernel
theorem dX13_set_33 : decode cX13_set 33 = .ok (.iinc 4 1, 3) := by decide +kernel
theorem dX13_set_36 : decode cX13_set 36 = .ok (.lload 5, 2) := by decide +kernel
theorem dX13_set_38 : decode cX13_set 38 = .ok (.bipush 16, 2) := by decide +kernel
theorem dX13_set_40 : decode cX13_set 40 = .ok (.lushr, 1) := by decide +kernel
theorem dX13_set_41 : decode cX13_set 41 = .ok (.lstore 5, 2) := by decide +kernel
theorem dX13_set_43 : decode cX13_set 43 = .ok (.goto (-37), 3) := by decide +kernel
theorem dX13_set_46 : decode cX13_set 46 = .ok (.aload_n 0, 1) := by decide +kernel
theorem dX13_set_47 : decode cX13_set 47 = .ok (.getfield 188, 3) := by decide +kernel
theorem dX13_set_50 : decode cX13_set 50 = .ok (.iload_n 1, 1) := by decide +kernel
theorem dX13_set_51 : decode cX13_set 51 = .ok (.iload 4, 2) := by decide +kernel
theorem dX13_set_53 : decode cX13_set 53 = .ok (.iastore, 1) := by decide +kernel
theorem dX13_set_54 : decode cX13_set 54 = .ok (.return_, 1) := by decide +kernel
def w_set_6 (C : rCx) (Q : rS → Prop)  (a1 : Int32) (a4 : Int32) (a5 : Int64) (σ : rS) : Prop :=
  ∃ I : Nat → Int32 → Int32 → Int64 → rS → Prop, (∃ n, I n a1 a4 a5 σ) ∧ ∀ n a1 a4 a5 σ, I n a1 a4 a5 σ →
    ((lg_cmp a5 (0 : Int64)) = 0 →
      inb a1 30 ∧
      ∀ σ1, σ1 = riU σ 91 (a1).toNatClampNeg a4 →
      Q σ1) ∧
    (¬ ((lg_cmp a5 (0 : Int64)) = 0) →
      inb (((40000 : Int32) * a1) + a4) 1200000 ∧
      ∀ σ2, σ2 = riU σ 90 ((((40000 : Int32) * a1) + a4)).toNatClampNeg ((a5 &&& (65535 : Int64))).toInt32 →
      ∀ v4_3 : Int32, v4_3 = a4 + (1 : Int32) →
      ∀ v5_4 : Int64, v5_4 = ((a5).toUInt64 >>> (((16 : Int32)).toInt64.toUInt64 &&& Int64.toUInt64 63)).toInt64 →
      ∃ k < n, I k a1 v4_3 v5_4 σ2)
theorem t_set_6 {C : rCx} (hC : cOK C) {Q : rS → Prop}   {a1 : Int32} {a4 : Int32} {a5 : Int64} {σ : rS} (F : w_set_6 C Q  a1 a4 a5 σ) : wG C 0 m_set 6 [some (.ref (co C)), some (.int a1), none, none, some (.int a4), some (.long a5), none] [] σ (qV Q) := by
  obtain ⟨I, ⟨n0, hI0⟩, F0⟩ := F
  have key : ∀ n a1 a4 a5 σ, I n a1 a4 a5 σ → wG C 0 m_set 6 [some (.ref (co C)), some (.int a1), none, none, some (.int a4), some (.long a5), none] [] σ (qV Q) := by
    intro n
    induction n using Nat.strongRecOn with
    | _ n ih =>
      intro a1 a4 a5 σ hI
      have F := F0 n a1 a4 a5 σ hI
      clear hI hI0
      refine s_ll dX13_set_6 rfl ?_
      refine s_lc dX13_set_8 kl_0 ?_
      refine s_lcmp dX13_set_9 ?_
      refine s_i (t := 46) ((lg_cmp a5 (0 : Int64)) = 0) dX13_set_10 rfl rfl (fun hc => ?_) (fun hc => ?_)
      · replace F := F.1 hc
        refine s_aln dX13_set_46 rfl ?_
        refine gf_188 dX13_set_47 rfl ?_
        refine s_iln dX13_set_50 rfl ?_
        refine s_il dX13_set_51 rfl ?_
        refine s_astb hC dX13_set_53 rt_91 F.1 (fun σ1 eσ1 => ?_)
        replace F := F.2 σ1 eσ1
        exact s_rv dX13_set_54 rfl F
      · replace F := F.2 hc
        refine s_aln dX13_set_13 rfl ?_
        refine gf_185 dX13_set_14 rfl ?_
        refine s_ldcw dX13_set_17 rfl cn_676 ?_
        refine s_iln dX13_set_20 rfl ?_
        refine s_imul dX13_set_21 ?_
        refine s_il dX13_set_22 rfl ?_
        refine s_iadd dX13_set_24 ?_
        refine s_ll dX13_set_25 rfl ?_
        refine s_ldcl dX13_set_27 rfl cl_677 ?_
        refine s_land dX13_set_30 ?_
        refine s_l2i dX13_set_31 ?_
        refine s_astb hC dX13_set_32 rt_90 F.1 (fun σ2 eσ2 => ?_)
        replace F := F.2 σ2 eσ2
        refine s_incb dX13_set_33 ki_1 rfl (Nat.le_of_ble_eq_true rfl) (fun v4_3 ev4_3 => ?_)
        replace F := F v4_3 ev4_3
        refine s_ll dX13_set_36 rfl ?_
        refine s_bi dX13_set_38 kb_16 ?_
        refine s_lushr dX13_set_40 ?_
        refine s_lsb dX13_set_41 (Nat.le_of_ble_eq_true rfl) (fun v5_4 ev5_4 => ?_)
        replace F := F v5_4 ev5_4
        refine s_goto (t := 6) dX13_set_43 rfl ?_
        obtain ⟨k, hk, hI⟩ := F
        exact s_k (ih k hk _ _ _ _ hI) ⟨rfl, rfl, rfl, rfl, trivial⟩
  exact key n0 a1 a4 a5 σ hI0

def w_set_0 (C : rCx) (Q : rS → Prop)  (a1 : Int32) (a2 : Int64) (σ : rS) : Prop :=
  w_set_6 C Q  a1 (0 : Int32) a2 σ
theorem t_set_0 {C : rCx} (hC : cOK C) {Q : rS → Prop}   {a1 : Int32} {a2 : Int64} {σ : rS} (F : w_set_0 C Q  a1 a2 σ) : wG C 0 m_set 0 [some (.ref (co C)), some (.int a1), some (.long a2), none, none, none, none] [] σ (qV Q) := by
  unfold w_set_0 at F
  refine s_ic dX13_set_0 ki_0 ?_
  refine s_is dX13_set_1 (Nat.le_of_ble_eq_true rfl) rfl ?_
  refine s_lln dX13_set_3 rfl ?_
  refine s_ls dX13_set_4 (Nat.le_of_ble_eq_true rfl) rfl ?_
  exact s_k (t_set_6 hC  F) ⟨rfl, rfl, rfl, rfl, trivial⟩

theorem m_set_run {C : rCx} (hC : cOK C) {Q : rS → Prop} {a1 : Int32} {a2 : Int64} {σ : rS} (F : w_set_0 C Q a1 a2 σ) : cV C 0 m_set [.ref (co C), .int a1, .long a2] σ Q := m_V (m_ent _ 3) (t_set_0 hC F)

theorem dX13_trim_0 : decode cX13_trim 0 = .ok (.aload_n 0, 1) := by decide +kernel
theorem dX13_trim_1 : decode cX13_trim 1 = .ok (.getfield 188, 3) := by decide +kernel
theorem dX13_trim_4 : decode cX13_trim 4 = .ok (.iload_n 1, 1) := by decide +kernel
theorem dX13_trim_5 : decode cX13_trim 5 = .ok (.iaload, 1) := by decide +kernel
theorem dX13_trim_6 : decode cX13_trim 6 = .ok (.ifCond .le 38, 3) := by decide +kernel
theorem dX13_trim_9 : decode cX13_trim 9 = .ok (.aload_n 0, 1) := by decide +kernel
theorem dX13_trim_10 : decode cX13_trim 10 = .ok (.getfield 185, 3) := by decide +kernel
theorem dX13_trim_13 : decode cX13_trim 13 = .ok (.ldc_w 676, 3) := by decide +kernel
theorem dX13_trim_16 : decode cX13_trim 16 = .ok (.iload_n 1, 1) := by decide +kernel
theorem dX13_trim_17 : decode cX13_trim 17 = .ok (.imul, 1) := by decide +kernel
theorem dX13_trim_18 : decode cX13_trim 18 = .ok (.aload_n 0, 1) := by decide +kernel
theorem dX13_trim_19 : decode cX13_trim 19 = .ok (.getfield 188, 3) := by decide +kernel
theorem dX13_trim_22 : decode cX13_trim 22 = .ok (.iload_n 1, 1) := by decide +kernel
theorem dX13_trim_23 : decode cX13_trim 23 = .ok (.iaload, 1) := by decide +kernel
theorem dX13_trim_24 : decode cX13_trim 24 = .ok (.iadd, 1) := by decide +kernel
theorem dX13_trim_25 : decode cX13_trim 25 = .ok (.iconst 1, 1) := by decide +kernel
theorem dX13_trim_26 : decode cX13_trim 26 = .ok (.isub, 1) := by decide +kernel
theorem dX13_trim_27 : decode cX13_trim 27 = .ok (.iaload, 1) := by decide +kernel
theorem dX13_trim_28 : decode cX13_trim 28 = .ok (.ifCond .ne 16, 3) := by decide +kernel
theorem dX13_trim_31 : decode cX13_trim 31 = .ok (.aload_n 0, 1) := by decide +kernel
theorem dX13_trim_32 : decode cX13_trim 32 = .ok (.getfield 188, 3) := by decide +kernel
theorem dX13_trim_35 : decode cX13_trim 35 = .ok (.iload_n 1, 1) := by decide +kernel
theorem dX13_trim_36 : decode cX13_trim 36 = .ok (.dup2, 1) := by decide +kernel
theorem dX13_trim_37 : decode cX13_trim 37 = .ok (.iaload, 1) := by decide +kernel
theorem dX13_trim_38 : decode cX13_trim 38 = .ok (.iconst 1, 1) := by decide +kernel
theorem dX13_trim_39 : decode cX13_trim 39 = .ok (.isub, 1) := by decide +kernel
theorem dX13_trim_40 : decode cX13_trim 40 = .ok (.iastore, 1) := by decide +kernel
theorem dX13_trim_41 : decode cX13_trim 41 = .ok (.goto (-41), 3) := by decide +kernel
theorem dX13_trim_44 : decode cX13_trim 44 = .ok (.return_, 1) := by decide +kernel
def w_trim_0 (C : rCx) (Q : rS → Prop)  (a1 : Int32) (σ : rS) : Prop :=
  ∃ I : Nat → Int32 → rS → Prop, (∃ n, I n a1 σ) ∧ ∀ n a1 σ, I n a1 σ →
    inb a1 30 ∧
    ((σ.2.2.1 91 (a1).toNatClampNeg) ≤ 0 →
      Q σ) ∧
    (¬ ((σ.2.2.1 91 (a1).toNatClampNeg) ≤ 0) →
      inb a1 30 ∧
      inb ((((40000 : Int32) * a1) + (σ.2.2.1 91 (a1).toNatClampNeg)) - (1 : Int32)) 1200000 ∧
      (¬ ((σ.2.2.1 90 (((((40000 : Int32) * a1) + (σ.2.2.1 91 (a1).toNatClampNeg)) - (1 : Int32))).toNatClampNeg) = 0) →
        Q σ) ∧
      ((σ.2.2.1 90 (((((40000 : Int32) * a1) + (σ.2.2.1 91 (a1).toNatClampNeg)) - (1 : Int32))).toNatClampNeg) = 0 →
        inb a1 30 ∧
        inb a1 30 ∧
        ∀ σ1, σ1 = riU σ 91 (a1).toNatClampNeg ((σ.2.2.1 91 (a1).toNatClampNeg) - (1 : Int32)) →
        ∃ k < n, I k a1 σ1))
theorem t_trim_0 {C : rCx} (hC : cOK C) {Q : rS → Prop}   {a1 : Int32} {σ : rS} (F : w_trim_0 C Q  a1 σ) : wG C 0 m_trim 0 [some (.ref (co C)), some (.int a1)] [] σ (qV Q) := by
  obtain ⟨I, ⟨n0, hI0⟩, F0⟩ := F
  have key : ∀ n a1 σ, I n a1 σ → wG C 0 m_trim 0 [some (.ref (co C)), some (.int a1)] [] σ (qV Q) := by
    intro n
    induction n using Nat.strongRecOn with
    | _ n ih =>
      intro a1 σ hI
      have F := F0 n a1 σ hI
      clear hI hI0
      refine s_aln dX13_trim_0 rfl ?_
      refine gf_188 dX13_trim_1 rfl ?_
      refine s_iln dX13_trim_4 rfl ?_
      refine s_ald hC dX13_trim_5 rt_91 F.1 ?_
      replace F := F.2
      refine s_i (t := 44) ((σ.2.2.1 91 (a1).toNatClampNeg) ≤ 0) dX13_trim_6 rfl rfl (fun hc => ?_) (fun hc => ?_)
      · replace F := F.1 hc
        exact s_rv dX13_trim_44 rfl F
      · replace F := F.2 hc
        refine s_aln dX13_trim_9 rfl ?_
        refine gf_185 dX13_trim_10 rfl ?_
        refine s_ldcw dX13_trim_13 rfl cn_676 ?_
        refine s_iln dX13_trim_16 rfl ?_
        refine s_imul dX13_trim_17 ?_
        refine s_aln dX13_trim_18 rfl ?_
        refine gf_188 dX13_trim_19 rfl ?_
        refine s_iln dX13_trim_22 rfl ?_
        refine s_ald hC dX13_trim_23 rt_91 F.1 ?_
        replace F := F.2
        refine s_iadd dX13_trim_24 ?_
        refine s_ic dX13_trim_25 ki_1 ?_
        refine s_isub dX13_trim_26 ?_
        refine s_ald hC dX13_trim_27 rt_90 F.1 ?_
        replace F := F.2
        refine s_in (t := 44) ((σ.2.2.1 90 (((((40000 : Int32) * a1) + (σ.2.2.1 91 (a1).toNatClampNeg)) - (1 : Int32))).toNatClampNeg) = 0) dX13_trim_28 rfl rfl (fun hc => ?_) (fun hc => ?_)
        · replace F := F.1 hc
          exact s_rv dX13_trim_44 rfl F
        · replace F := F.2 hc
          refine s_aln dX13_trim_31 rfl ?_
          refine gf_188 dX13_trim_32 rfl ?_
          refine s_iln dX13_trim_35 rfl ?_
          refine s_dup2 dX13_trim_36 rfl rfl ?_
          refine s_ald hC dX13_trim_37 rt_91 F.1 ?_
          replace F := F.2
          refine s_ic dX13_trim_38 ki_1 ?_
          refine s_isub dX13_trim_39 ?_
          refine s_astb hC dX13_trim_40 rt_91 F.1 (fun σ1 eσ1 => ?_)
          replace F := F.2 σ1 eσ1
          refine s_goto (t := 0) dX13_trim_41 rfl ?_
          obtain ⟨k, hk, hI⟩ := F
          exact s_k (ih k hk _ _ hI) ⟨rfl, rfl, trivial⟩
  exact key n0 a1 σ hI0

theorem m_trim_run {C : rCx} (hC : cOK C) {Q : rS → Prop} {a1 : Int32} {σ : rS} (F : w_trim_0 C Q a1 σ) : cV C 0 m_trim [.ref (co C), .int a1] σ Q := m_V (m_ent _ 0) (t_trim_0 hC F)

theorem dX13_copy_0 : decode cX13_copy 0 = .ok (.iconst 0, 1) := by decide +kernel
theorem dX13_copy_1 : decode cX13_copy 1 = .ok (.istore_n 3, 1) := by decide +kernel
theorem dX13_copy_2 : decode cX13_copy 2 = .ok (.iload_n 3, 1) := by decide +kernel
theorem dX13_copy_3 : decode cX13_copy 3 = .ok (.aload_n 0, 1) := by decide +kernel
theorem dX13_copy_4 : decode cX13_copy 4 = .ok (.getfield 188, 3) := by decide +kernel
theorem dX13_copy_7 : decode cX13_copy 7 = .ok (.iload_n 2, 1) := by decide +kernel
theorem dX13_copy_8 : decode cX13_copy 8 = .ok (.iaload, 1) := by decide +kernel
theorem dX13_copy_9 : decode cX13_copy 9 = .ok (.if_icmp .ge 33, 3) := by decide +kernel
theorem dX13_copy_12 : decode cX13_copy 12 = .ok (.aload_n 0, 1) := by decide +kernel
theorem dX13_copy_13 : decode cX13_copy 13 = .ok (.getfield 185, 3) := by decide +kernel
theorem dX13_copy_16 : decode cX13_copy 16 = .ok (.ldc_w 676, 3) := by decide +kernel
theorem dX13_copy_19 : decode cX13_copy 19 = .ok (.iload_n 1, 1) := by decide +kernel
theorem dX13_copy_20 : decode cX13_copy 20 = .ok (.imul, 1) := by decide +kernel
theorem dX13_copy_21 : decode cX13_copy 21 = .ok (.iload_n 3, 1) := by decide +kernel
theorem dX13_copy_22 : decode cX13_copy 22 = .ok (.iadd, 1) := by decide +kernel
theorem dX13_copy_23 : decode cX13_copy 23 = .ok (.aload_n 0, 1) := by decide +kernel
theorem dX13_copy_24 : decode cX13_copy 24 = .ok (.getfield 185, 3) := by decide +kernel
theorem dX13_copy_27 : decode cX13_copy 27 = .ok (.ldc_w 676, 3) := by decide +kernel
theorem dX13_copy_30 : decode cX13_copy 30 = .ok (.iload_n 2, 1) := by decide +kernel
theorem dX13_copy_31 : decode cX13_copy 31 = .ok (.imul, 1) := by decide +kernel
theorem dX13_copy_32 : decode cX13_copy 32 = .ok (.iload_n 3, 1) := by decide +kernel
theorem dX13_copy_33 : decode cX13_copy 33 = .ok (.iadd, 1) := by decide +kernel
theorem dX13_copy_34 : decode cX13_copy 34 = .ok (.iaload, 1) := by decide +kernel
theorem dX13_copy_35 : decode cX13_copy 35 = .ok (.iastore, 1) := by decide +kernel
theorem dX13_copy_36 : decode cX13_copy 36 = .ok (.iinc 3 1, 3) := by decide +kernel
theorem dX13_copy_39 : decode cX13_copy 39 = .ok (.goto (-37), 3) := by decide +kernel
theorem dX13_copy_42 : decode cX13_copy 42 = .ok (.aload_n 0, 1) := by decide +kernel
theorem dX13_copy_43 : decode cX13_copy 43 = .ok (.getfield 188, 3) := by decide +kernel
theorem dX13_copy_46 : decode cX13_copy 46 = .ok (.iload_n 1, 1) := by decide +kernel
theorem dX13_copy_47 : decode cX13_copy 47 = .ok (.aload_n 0, 1) := by decide +kernel
theorem dX13_copy_48 : decode cX13_copy 48 = .ok (.getfield 188, 3) := by decide +kernel
theorem dX13_copy_51 : decode cX13_copy 51 = .ok (.iload_n 2, 1) := by decide +kernel
theorem dX13_copy_52 : decode cX13_copy 52 = .ok (.iaload, 1) := by decide +kernel
theorem dX13_copy_53 : decode cX13_copy 53 = .ok (.iastore, 1) := by decide +kernel
theorem dX13_copy_54 : decode cX13_copy 54 = .ok (.return_, 1) := by decide +kernel
def w_copy_2 (C : rCx) (Q : rS → Prop)  (a1 : Int32) (a2 : Int32) (a3 : Int32) (σ : rS) : Prop :=
  ∃ I : Nat → Int32 → Int32 → Int32 → rS → Prop, (∃ n, I n a1 a2 a3 σ) ∧ ∀ n a1 a2 a3 σ, I n a1 a2 a3 σ →
    inb a2 30 ∧
    ((σ.2.2.1 91 (a2).toNatClampNeg) ≤ a3 →
      inb a2 30 ∧
      inb a1 30 ∧
      ∀ σ1, σ1 = riU σ 91 (a1).toNatClampNeg (σ.2.2.1 91 (a2).toNatClampNeg) →
      Q σ1) ∧
    (¬ ((σ.2.2.1 91 (a2).toNatClampNeg) ≤ a3) →
      inb (((40000 : Int32) * a2) + a3) 1200000 ∧
      inb (((40000 : Int32) * a1) + a3) 1200000 ∧
      ∀ σ2, σ2 = riU σ 90 ((((40000 : Int32) * a1) + a3)).toNatClampNeg (σ.2.2.1 90 ((((40000 : Int32) * a2) + a3)).toNatClampNeg) →
      ∀ v3_3 : Int32, v3_3 = a3 + (1 : Int32) →
      ∃ k < n, I k a1 a2 v3_3 σ2)
theorem t_copy_2 {C : rCx} (hC : cOK C) {Q : rS → Prop}   {a1 : Int32} {a2 : Int32} {a3 : Int32} {σ : rS} (F : w_copy_2 C Q  a1 a2 a3 σ) : wG C 0 m_copy 2 [some (.ref (co C)), some (.int a1), some (.int a2), some (.int a3)] [] σ (qV Q) := by
  obtain ⟨I, ⟨n0, hI0⟩, F0⟩ := F
  have key : ∀ n a1 a2 a3 σ, I n a1 a2 a3 σ → wG C 0 m_copy 2 [some (.ref (co C)), some (.int a1), some (.int a2), some (.int a3)] [] σ (qV Q) := by
    intro n
    induction n using Nat.strongRecOn with
    | _ n ih =>
      intro a1 a2 a3 σ hI
      have F := F0 n a1 a2 a3 σ hI
      clear hI hI0
      refine s_iln dX13_copy_2 rfl ?_
      refine s_aln dX13_copy_3 rfl ?_
      refine gf_188 dX13_copy_4 rfl ?_
      refine s_iln dX13_copy_7 rfl ?_
      refine s_ald hC dX13_copy_8 rt_91 F.1 ?_
      replace F := F.2
      refine s_ii (t := 42) ((σ.2.2.1 91 (a2).toNatClampNeg) ≤ a3) dX13_copy_9 rfl rfl (fun hc => ?_) (fun hc => ?_)
      · replace F := F.1 hc
        refine s_aln dX13_copy_42 rfl ?_
        refine gf_188 dX13_copy_43 rfl ?_
        refine s_iln dX13_copy_46 rfl ?_
        refine s_aln dX13_copy_47 rfl ?_
        refine gf_188 dX13_copy_48 rfl ?_
        refine s_iln dX13_copy_51 rfl ?_
        refine s_ald hC dX13_copy_52 rt_91 F.1 ?_
        replace F := F.2
        refine s_astb hC dX13_copy_53 rt_91 F.1 (fun σ1 eσ1 => ?_)
        replace F := F.2 σ1 eσ1
        exact s_rv dX13_copy_54 rfl F
      · replace F := F.2 hc
        refine s_aln dX13_copy_12 rfl ?_
        refine gf_185 dX13_copy_13 rfl ?_
        refine s_ldcw dX13_copy_16 rfl cn_676 ?_
        refine s_iln dX13_copy_19 rfl ?_
        refine s_imul dX13_copy_20 ?_
        refine s_iln dX13_copy_21 rfl ?_
        refine s_iadd dX13_copy_22 ?_
        refine s_aln dX13_copy_23 rfl ?_
        refine gf_185 dX13_copy_24 rfl ?_
        refine s_ldcw dX13_copy_27 rfl cn_676 ?_
        refine s_iln dX13_copy_30 rfl ?_
        refine s_imul dX13_copy_31 ?_
        refine s_iln dX13_copy_32 rfl ?_
        refine s_iadd dX13_copy_33 ?_
        refine s_ald hC dX13_copy_34 rt_90 F.1 ?_
        replace F := F.2
        refine s_astb hC dX13_copy_35 rt_90 F.1 (fun σ2 eσ2 => ?_)
        replace F := F.2 σ2 eσ2
        refine s_incb dX13_copy_36 ki_1 rfl (Nat.le_of_ble_eq_true rfl) (fun v3_3 ev3_3 => ?_)
        replace F := F v3_3 ev3_3
        refine s_goto (t := 2) dX13_copy_39 rfl ?_
        obtain ⟨k, hk, hI⟩ := F
        exact s_k (ih k hk _ _ _ _ hI) ⟨rfl, rfl, rfl, rfl, trivial⟩
  exact key n0 a1 a2 a3 σ hI0

def w_copy_0 (C : rCx) (Q : rS → Prop)  (a1 : Int32) (a2 : Int32) (σ : rS) : Prop :=
  w_copy_2 C Q  a1 a2 (0 : Int32) σ
theorem t_copy_0 {C : rCx} (hC : cOK C) {Q : rS → Prop}   {a1 : Int32} {a2 : Int32} {σ : rS} (F : w_copy_0 C Q  a1 a2 σ) : wG C 0 m_copy 0 [some (.ref (co C)), some (.int a1), some (.int a2), none] [] σ (qV Q) := by
  unfold w_copy_0 at F
  refine s_ic dX13_copy_0 ki_0 ?_
  refine s_isn dX13_copy_1 (Nat.le_of_ble_eq_true rfl) rfl ?_
  exact s_k (t_copy_2 hC  F) ⟨rfl, rfl, rfl, rfl, trivial⟩

theorem m_copy_run {C : rCx} (hC : cOK C) {Q : rS → Prop} {a1 : Int32} {a2 : Int32} {σ : rS} (F : w_copy_0 C Q a1 a2 σ) : cV C 0 m_copy [.ref (co C), .int a1, .int a2] σ Q := m_V (m_ent _ 1) (t_copy_0 hC F)

theorem dX13_compare_0 : decode cX13_compare 0 = .ok (.aload_n 0, 1) := by decide +kernel
theorem dX13_compare_1 : decode cX13_compare 1 = .ok (.getfield 188, 3) := by decide +kernel
theorem dX13_compare_4 : decode cX13_compare 4 = .ok (.iload_n 1, 1) := by decide +kernel
theorem dX13_compare_5 : decode cX13_compare 5 = .ok (.iaload, 1) := by decide +kernel
theorem dX13_compare_6 : decode cX13_compare 6 = .ok (.aload_n 0, 1) := by decide +kernel
theorem dX13_compare_7 : decode cX13_compare 7 = .ok (.getfield 188, 3) := by decide +kernel
theorem dX13_compare_10 : decode cX13_compare 10 = .ok (.iload_n 2, 1) := by decide +kernel
theorem dX13_compare_11 : decode cX13_compare 11 = .ok (.iaload, 1) := by decide +kernel
theorem dX13_compare_12 : decode cX13_compare 12 = .ok (.if_icmp .eq 24, 3) := by decide +kernel
theorem dX13_compare_15 : decode cX13_compare 15 = .ok (.aload_n 0, 1) := by decide +kernel
theorem dX13_compare_16 : decode cX13_compare 16 = .ok (.getfield 188, 3) := by decide +kernel
theorem dX13_compare_19 : decode cX13_compare 19 = .ok (.iload_n 1, 1) := by decide +kernel
theorem dX13_compare_20 : decode cX13_compare 20 = .ok (.iaload, 1) := by decide +kernel
theorem dX13_compare_21 : decode cX13_compare 21 = .ok (.aload_n 0, 1) := by decide +kernel
theorem dX13_compare_22 : decode cX13_compare 22 = .ok (.getfield 188, 3) := by decide +kernel
theorem dX13_compare_25 : decode cX13_compare 25 = .ok (.iload_n 2, 1) := by decide +kernel
theorem dX13_compare_26 : decode cX13_compare 26 = .ok (.iaload, 1) := by decide +kernel
theorem dX13_compare_27 : decode cX13_compare 27 = .ok (.if_icmp .ge 7, 3) := by decide +kernel
theorem dX13_compare_30 : decode cX13_compare 30 = .ok (.iconst (-1), 1) := by decide +kernel
theorem dX13_compare_31 : decode cX13_compare 31 = .ok (.goto 4, 3) := by decide +kernel
theorem dX13_compare_34 : decode cX13_compare 34 = .ok (.iconst 1, 1) := by decide +kernel
theorem dX13_compare_35 : decode cX13_compare 35 = .ok (.ireturn, 1) := by decide +kernel
theorem dX13_compare_36 : decode cX13_compare 36 = .ok (.aload_n 0, 1) := by decide +kernel
theorem dX13_compare_37 : decode cX13_compare 37 = .ok (.getfield 188, 3) := by decide +kernel
theorem dX13_compare_40 : decode cX13_compare 40 = .ok (.iload_n 1, 1) := by decide +kernel
theorem dX13_compare_41 : decode cX13_compare 41 = .ok (.iaload, 1) := by decide +kernel
theorem dX13_compare_42 : decode cX13_compare 42 = .ok (.iconst 1, 1) := by decide +kernel
theorem dX13_compare_43 : decode cX13_compare 43 = .ok (.isub, 1) := by decide +kernel
theorem dX13_compare_44 : decode cX13_compare 44 = .ok (.istore_n 3, 1) := by decide +kernel
theorem dX13_compare_45 : decode cX13_compare 45 = .ok (.iload_n 3, 1) := by decide +kernel
theorem dX13_compare_46 : decode cX13_compare 46 = .ok (.ifCond .lt 52, 3) := by decide +kernel
theorem dX13_compare_49 : decode cX13_compare 49 = .ok (.aload_n 0, 1) := by decide +kernel
theorem dX13_compare_50 : decode cX13_compare 50 = .ok (.getfield 185, 3) := by decide +kernel
theorem dX13_compare_53 : decode cX13_compare 53 = .ok (.ldc_w 676, 3) := by decide +kernel
theorem dX13_compare_56 : decode cX13_compare 56 = .ok (.iload_n 1, 1) := by decide +kernel
theorem dX13_compare_57 : decode cX13_compare 57 = .ok (.imul, 1) := by decide +kernel
theorem dX13_compare_58 : decode cX13_compare 58 = .ok (.iload_n 3, 1) := by decide +kernel
theorem dX13_compare_59 : decode cX13_compare 59 = .ok (.iadd, 1) := by decide +kernel
theorem dX13_compare_60 : decode cX13_compare 60 = .ok (.iaload, 1) := by decide +kernel
theorem dX13_compare_61 : decode cX13_compare 61 = .ok (.aload_n 0, 1) := by decide +kernel
theorem dX13_compare_62 : decode cX13_compare 62 = .ok (.getfield 185, 3) := by decide +kernel
theorem dX13_compare_65 : decode cX13_compare 65 = .ok (.ldc_w 676, 3) := by decide +kernel
theorem dX13_compare_68 : decode cX13_compare 68 = .ok (.iload_n 2, 1) := by decide +kernel
theorem dX13_compare_69 : decode cX13_compare 69 = .ok (.imul, 1) := by decide +kernel
theorem dX13_compare_70 : decode cX13_compare 70 = .ok (.iload_n 3, 1) := by decide +kernel
theorem dX13_compare_71 : decode cX13_compare 71 = .ok (.iadd, 1) := by decide +kernel
theorem dX13_compare_72 : decode cX13_compare 72 = .ok (.iaload, 1) := by decide +kernel
theorem dX13_compare_73 : decode cX13_compare 73 = .ok (.isub, 1) := by decide +kernel
theorem dX13_compare_74 : decode cX13_compare 74 = .ok (.istore 4, 2) := by decide +kernel
theorem dX13_compare_76 : decode cX13_compare 76 = .ok (.iload 4, 2) := by decide +kernel
theorem dX13_compare_78 : decode cX13_compare 78 = .ok (.ifCond .eq 14, 3) := by decide +kernel
theorem dX13_compare_81 : decode cX13_compare 81 = .ok (.iload 4, 2) := by decide +kernel
theorem dX13_compare_83 : decode cX13_compare 83 = .ok (.ifCond .ge 7, 3) := by decide +kernel
theorem dX13_compare_86 : decode cX13_compare 86 = .ok (.iconst (-1), 1) := by decide +kernel
theorem dX13_compare_87 : decode cX13_compare 87 = .ok (.goto 4, 3) := by decide +kernel
theorem dX13_compare_90 : decode cX13_compare 90 = .ok (.iconst 1, 1) := by decide +kernel
theorem dX13_compare_91 : decode cX13_compare 91 = .ok (.ireturn, 1) := by decide +kernel
theorem dX13_compare_92 : decode cX13_compare 92 = .ok (.iinc 3 (-1), 3) := by decide +kernel
theorem dX13_compare_95 : decode cX13_compare 95 = .ok (.goto (-50), 3) := by decide +kernel
theorem dX13_compare_98 : decode cX13_compare 98 = .ok (.iconst 0, 1) := by decide +kernel
theorem dX13_compare_99 : decode cX13_compare 99 = .ok (.ireturn, 1) := by decide +kernel
def w_compare_45 (C : rCx) (Q : Int32 → rS → Prop)  (a1 : Int32) (a2 : Int32) (a3 : Int32) (σ : rS) : Prop :=
  ∃ I : Nat → Int32 → Int32 → Int32 → rS → Prop, (∃ n, I n a1 a2 a3 σ) ∧ ∀ n a1 a2 a3 σ, I n a1 a2 a3 σ →
    (a3 < 0 →
      Q (0 : Int32) σ) ∧
    (¬ (a3 < 0) →
      inb (((40000 : Int32) * a1) + a3) 1200000 ∧
      inb (((40000 : Int32) * a2) + a3) 1200000 ∧
      ∀ v4_1 : Int32, v4_1 = ((σ.2.2.1 90 ((((40000 : Int32) * a1) + a3)).toNatClampNeg) - (σ.2.2.1 90 ((((40000 : Int32) * a2) + a3)).toNatClampNeg)) →
      (v4_1 = 0 →
        ∀ v3_2 : Int32, v3_2 = a3 + (-1 : Int32) →
        ∃ k < n, I k a1 a2 v3_2 σ) ∧
      (¬ (v4_1 = 0) →
        (0 ≤ v4_1 →
          Q (1 : Int32) σ) ∧
        (¬ (0 ≤ v4_1) →
          Q (-1 : Int32) σ)))
theorem t_compare_45 {C : rCx} (hC : cOK C) {Q : Int32 → rS → Prop}   {a1 : Int32} {a2 : Int32} {a3 : Int32} {σ : rS} (F : w_compare_45 C Q  a1 a2 a3 σ) : wG C 0 m_compare 45 [some (.ref (co C)), some (.int a1), some (.int a2), some (.int a3), none] [] σ (qI Q) := by
  obtain ⟨I, ⟨n0, hI0⟩, F0⟩ := F
  have key : ∀ n a1 a2 a3 σ, I n a1 a2 a3 σ → wG C 0 m_compare 45 [some (.ref (co C)), some (.int a1), some (.int a2), some (.int a3), none] [] σ (qI Q) := by
    intro n
    induction n using Nat.strongRecOn with
    | _ n ih =>
      intro a1 a2 a3 σ hI
      have F := F0 n a1 a2 a3 σ hI
      clear hI hI0
      refine s_iln dX13_compare_45 rfl ?_
      refine s_i (t := 98) (a3 < 0) dX13_compare_46 rfl rfl (fun hc => ?_) (fun hc => ?_)
      · replace F := F.1 hc
        refine s_ic dX13_compare_98 ki_0 ?_
        exact s_ri dX13_compare_99 rfl in_nar F
      · replace F := F.2 hc
        refine s_aln dX13_compare_49 rfl ?_
        refine gf_185 dX13_compare_50 rfl ?_
        refine s_ldcw dX13_compare_53 rfl cn_676 ?_
        refine s_iln dX13_compare_56 rfl ?_
        refine s_imul dX13_compare_57 ?_
        refine s_iln dX13_compare_58 rfl ?_
        refine s_iadd dX13_compare_59 ?_
        refine s_ald hC dX13_compare_60 rt_90 F.1 ?_
        replace F := F.2
        refine s_aln dX13_compare_61 rfl ?_
        refine gf_185 dX13_compare_62 rfl ?_
        refine s_ldcw dX13_compare_65 rfl cn_676 ?_
        refine s_iln dX13_compare_68 rfl ?_
        refine s_imul dX13_compare_69 ?_
        refine s_iln dX13_compare_70 rfl ?_
        refine s_iadd dX13_compare_71 ?_
        refine s_ald hC dX13_compare_72 rt_90 F.1 ?_
        replace F := F.2
        refine s_isub dX13_compare_73 ?_
        refine s_isb dX13_compare_74 (Nat.le_of_ble_eq_true rfl) (fun v4_1 ev4_1 => ?_)
        replace F := F v4_1 ev4_1
        refine s_il dX13_compare_76 rfl ?_
        refine s_i (t := 92) (v4_1 = 0) dX13_compare_78 rfl rfl (fun hc => ?_) (fun hc => ?_)
        · replace F := F.1 hc
          refine s_incb dX13_compare_92 ki_m1 rfl (Nat.le_of_ble_eq_true rfl) (fun v3_2 ev3_2 => ?_)
          replace F := F v3_2 ev3_2
          refine s_goto (t := 45) dX13_compare_95 rfl ?_
          obtain ⟨k, hk, hI⟩ := F
          exact s_k (ih k hk _ _ _ _ hI) ⟨rfl, rfl, rfl, rfl, trivial⟩
        · replace F := F.2 hc
          refine s_il dX13_compare_81 rfl ?_
          refine s_i (t := 90) (0 ≤ v4_1) dX13_compare_83 rfl rfl (fun hc => ?_) (fun hc => ?_)
          · replace F := F.1 hc
            refine s_ic dX13_compare_90 ki_1 ?_
            exact s_ri dX13_compare_91 rfl in_nar F
          · replace F := F.2 hc
            refine s_ic dX13_compare_86 ki_m1 ?_
            refine s_goto (t := 91) dX13_compare_87 rfl ?_
            exact s_ri dX13_compare_91 rfl in_nar F
  exact key n0 a1 a2 a3 σ hI0

def w_compare_0 (C : rCx) (Q : Int32 → rS → Prop)  (a1 : Int32) (a2 : Int32) (σ : rS) : Prop :=
  inb a1 30 ∧
  inb a2 30 ∧
  ((σ.2.2.1 91 (a1).toNatClampNeg) = (σ.2.2.1 91 (a2).toNatClampNeg) →
    inb a1 30 ∧
    ∀ v3_1 : Int32, v3_1 = ((σ.2.2.1 91 (a1).toNatClampNeg) - (1 : Int32)) →
    w_compare_45 C Q  a1 a2 v3_1 σ) ∧
  (¬ ((σ.2.2.1 91 (a1).toNatClampNeg) = (σ.2.2.1 91 (a2).toNatClampNeg)) →
    inb a1 30 ∧
    inb a2 30 ∧
    ((σ.2.2.1 91 (a2).toNatClampNeg) ≤ (σ.2.2.1 91 (a1).toNatClampNeg) →
      Q (1 : Int32) σ) ∧
    (¬ ((σ.2.2.1 91 (a2).toNatClampNeg) ≤ (σ.2.2.1 91 (a1).toNatClampNeg)) →
      Q (-1 : Int32) σ))
theorem t_compare_0 {C : rCx} (hC : cOK C) {Q : Int32 → rS → Prop}   {a1 : Int32} {a2 : Int32} {σ : rS} (F : w_compare_0 C Q  a1 a2 σ) : wG C 0 m_compare 0 [some (.ref (co C)), some (.int a1), some (.int a2), none, none] [] σ (qI Q) := by
  unfold w_compare_0 at F
  refine s_aln dX13_compare_0 rfl ?_
  refine gf_188 dX13_compare_1 rfl ?_
  refine s_iln dX13_compare_4 rfl ?_
  refine s_ald hC dX13_compare_5 rt_91 F.1 ?_
  replace F := F.2
  refine s_aln dX13_compare_6 rfl ?_
  refine gf_188 dX13_compare_7 rfl ?_
  refine s_iln dX13_compare_10 rfl ?_
  refine s_ald hC dX13_compare_11 rt_91 F.1 ?_
  replace F := F.2
  refine s_ii (t := 36) ((σ.2.2.1 91 (a1).toNatClampNeg) = (σ.2.2.1 91 (a2).toNatClampNeg)) dX13_compare_12 rfl rfl (fun hc => ?_) (fun hc => ?_)
  · replace F := F.1 hc
    refine s_aln dX13_compare_36 rfl ?_
    refine gf_188 dX13_compare_37 rfl ?_
    refine s_iln dX13_compare_40 rfl ?_
    refine s_ald hC dX13_compare_41 rt_91 F.1 ?_
    replace F := F.2
    refine s_ic dX13_compare_42 ki_1 ?_
    refine s_isub dX13_compare_43 ?_
    refine s_isnb dX13_compare_44 (Nat.le_of_ble_eq_true rfl) (fun v3_1 ev3_1 => ?_)
    replace F := F v3_1 ev3_1
    exact s_k (t_compare_45 hC  F) ⟨rfl, rfl, rfl, rfl, trivial⟩
  · replace F := F.2 hc
    refine s_aln dX13_compare_15 rfl ?_
    refine gf_188 dX13_compare_16 rfl ?_
    refine s_iln dX13_compare_19 rfl ?_
    refine s_ald hC dX13_compare_20 rt_91 F.1 ?_
    replace F := F.2
    refine s_aln dX13_compare_21 rfl ?_
    refine gf_188 dX13_compare_22 rfl ?_
    refine s_iln dX13_compare_25 rfl ?_
    refine s_ald hC dX13_compare_26 rt_91 F.1 ?_
    replace F := F.2
    refine s_ii (t := 34) ((σ.2.2.1 91 (a2).toNatClampNeg) ≤ (σ.2.2.1 91 (a1).toNatClampNeg)) dX13_compare_27 rfl rfl (fun hc => ?_) (fun hc => ?_)
    · replace F := F.1 hc
      refine s_ic dX13_compare_34 ki_1 ?_
      exact s_ri dX13_compare_35 rfl in_nar F
    · replace F := F.2 hc
      refine s_ic dX13_compare_30 ki_m1 ?_
      refine s_goto (t := 35) dX13_compare_31 rfl ?_
      exact s_ri dX13_compare_35 rfl in_nar F

theorem m_compare_run {C : rCx} (hC : cOK C) {Q : Int32 → rS → Prop} {a1 : Int32} {a2 : Int32} {σ : rS} (F : w_compare_0 C Q a1 a2 σ) : cI C 0 m_compare [.ref (co C), .int a1, .int a2] σ Q := m_I (m_ent _ 2) (t_compare_0 hC F)

theorem dX13_plus_0 : decode cX13_plus 0 = .ok (.aload_n 0, 1) := by decide +kernel
theorem dX13_plus_1 : decode cX13_plus 1 = .ok (.getfield 188, 3) := by decide +kernel
theorem dX13_plus_4 : decode cX13_plus 4 = .ok (.iload_n 1, 1) := by decide +kernel
theorem dX13_plus_5 : decode cX13_plus 5 = .ok (.iaload, 1) := by decide +kernel
theorem dX13_plus_6 : decode cX13_plus 6 = .ok (.aload_n 0, 1) := by decide +kernel
theorem dX13_plus_7 : decode cX13_plus 7 = .ok (.getfield 188, 3) := by decide +kernel
theorem dX13_plus_10 : decode cX13_plus 10 = .ok (.iload_n 2, 1) := by decide +kernel
theorem dX13_plus_11 : decode cX13_plus 11 = .ok (.iaload, 1) := by decide +kernel
theorem dX13_plus_12 : decode cX13_plus 12 = .ok (.if_icmp .le 12, 3) := by decide +kernel
theorem dX13_plus_15 : decode cX13_plus 15 = .ok (.aload_n 0, 1) := by decide +kernel
theorem dX13_plus_16 : decode cX13_plus 16 = .ok (.getfield 188, 3) := by decide +kernel
theorem dX13_plus_19 : decode cX13_plus 19 = .ok (.iload_n 1, 1) := by decide +kernel
theorem dX13_plus_20 : decode cX13_plus 20 = .ok (.iaload, 1) := by decide +kernel
theorem dX13_plus_21 : decode cX13_plus 21 = .ok (.goto 9, 3) := by decide +kernel
theorem dX13_plus_24 : decode cX13_plus 24 = .ok (.aload_n 0, 1) := by decide +kernel
theorem dX13_plus_25 : decode cX13_plus 25 = .ok (.getfield 188, 3) := by decide +kernel
theorem dX13_plus_28 : decode cX13_plus 28 = .ok (.iload_n 2, 1) := by decide +kernel
theorem dX13_plus_29 : decode cX13_plus 29 = .ok (.iaload, 1) := by decide +kernel
theorem dX13_plus_30 : decode cX13_plus 30 = .ok (.istore_n 3, 1) := by decide +kernel
theorem dX13_plus_31 : decode cX13_plus 31 = .ok (.iconst 0, 1) := by decide +kernel
theorem dX13_plus_32 : decode cX13_plus 32 = .ok (.istore 4, 2) := by decide +kernel
theorem dX13_plus_34 : decode cX13_plus 34 = .ok (.iconst 0, 1) := by decide +kernel
theorem dX13_plus_35 : decode cX13_plus 35 = .ok (.istore 5, 2) := by decide +kernel
theorem dX13_plus_37 : decode cX13_plus 37 = .ok (.iload 5, 2) := by decide +kernel
theorem dX13_plus_39 : decode cX13_plus 39 = .ok (.iload_n 3, 1) := by decide +kernel
theorem dX13_plus_40 : decode cX13_plus 40 = .ok (.if_icmp .ge 97, 3) := by decide +kernel
theorem dX13_plus_43 : decode cX13_plus 43 = .ok (.iload 5, 2) := by decide +kernel
theorem dX13_plus_45 : decode cX13_plus 45 = .ok (.aload_n 0, 1) := by decide +kernel
theorem dX13_plus_46 : decode cX13_plus 46 = .ok (.getfield 188, 3) := by decide +kernel
theorem dX13_plus_49 : decode cX13_plus 49 = .ok (.iload_n 1, 1) := by decide +kernel
theorem dX13_plus_50 : decode cX13_plus 50 = .ok (.iaload, 1) := by decide +kernel
theorem dX13_plus_51 : decode cX13_plus 51 = .ok (.if_icmp .ge 19, 3) := by decide +kernel
theorem dX13_plus_54 : decode cX13_plus 54 = .ok (.aload_n 0, 1) := by decide +kernel
theorem dX13_plus_55 : decode cX13_plus 55 = .ok (.getfield 185, 3) := by decide +kernel
theorem dX13_plus_58 : decode cX13_plus 58 = .ok (.ldc_w 676, 3) := by decide +kernel
theorem dX13_plus_61 : decode cX13_plus 61 = .ok (.iload_n 1, 1) := by decide +kernel
theorem dX13_plus_62 : decode cX13_plus 62 = .ok (.imul, 1) := by decide +kernel
theorem dX13_plus_63 : decode cX13_plus 63 = .ok (.iload 5, 2) := by decide +kernel
theorem dX13_plus_65 : decode cX13_plus 65 = .ok (.iadd, 1) := by decide +kernel
theorem dX13_plus_66 : decode cX13_plus 66 = .ok (.iaload, 1) := by decide +kernel
theorem dX13_plus_67 : decode cX13_plus 67 = .ok (.goto 4, 3) := by decide +kernel
theorem dX13_plus_70 : decode cX13_plus 70 = .ok (.iconst 0, 1) := by decide +kernel
theorem dX13_plus_71 : decode cX13_plus 71 = .ok (.iload 5, 2) := by decide +kernel
theorem dX13_plus_73 : decode cX13_plus 73 = .ok (.aload_n 0, 1) := by decide +kernel
theorem dX13_plus_74 : decode cX13_plus 74 = .ok (.getfield 188, 3) := by decide +kernel
theorem dX13_plus_77 : decode cX13_plus 77 = .ok (.iload_n 2, 1) := by decide +kernel
theorem dX13_plus_78 : decode cX13_plus 78 = .ok (.iaload, 1) := by decide +kernel
theorem dX13_plus_79 : decode cX13_plus 79 = .ok (.if_icmp .ge 19, 3) := by decide +kernel
theorem dX13_plus_82 : decode cX13_plus 82 = .ok (.aload_n 0, 1) := by decide +kernel
theorem dX13_plus_83 : decode cX13_plus 83 = .ok (.getfield 185, 3) := by decide +kernel
theorem dX13_plus_86 : decode cX13_plus 86 = .ok (.ldc_w 676, 3) := by decide +kernel
theorem dX13_plus_89 : decode cX13_plus 89 = .ok (.iload_n 2, 1) := by decide +kernel
theorem dX13_plus_90 : decode cX13_plus 90 = .ok (.imul, 1) := by decide +kernel
theorem dX13_plus_91 : decode cX13_plus 91 = .ok (.iload 5, 2) := by decide +kernel
theorem dX13_plus_93 : decode cX13_plus 93 = .ok (.iadd, 1) := by decide +kernel
theorem dX13_plus_94 : decode cX13_plus 94 = .ok (.iaload, 1) := by decide +kernel
theorem dX13_plus_95 : decode cX13_plus 95 = .ok (.goto 4, 3) := by decide +kernel
theorem dX13_plus_98 : decode cX13_plus 98 = .ok (.iconst 0, 1) := by decide +kernel
theorem dX13_plus_99 : decode cX13_plus 99 = .ok (.iadd, 1) := by decide +kernel
theorem dX13_plus_100 : decode cX13_plus 100 = .ok (.iload 4, 2) := by decide +kernel
theorem dX13_plus_102 : decode cX13_plus 102 = .ok (.iadd, 1) := by decide +kernel
theorem dX13_plus_103 : decode cX13_plus 103 = .ok (.istore 6, 2) := by decide +kernel
theorem dX13_plus_105 : decode cX13_plus 105 = .ok (.aload_n 0, 1) := by decide +kernel
theorem dX13_plus_106 : decode cX13_plus 106 = .ok (.getfield 185, 3) := by decide +kernel
theorem dX13_plus_109 : decode cX13_plus 109 = .ok (.ldc_w 676, 3) := by decide +kernel
theorem dX13_plus_112 : decode cX13_plus 112 = .ok (.iload_n 1, 1) := by decide +kernel
theorem dX13_plus_113 : decode cX13_plus 113 = .ok (.imul, 1) := by decide +kernel
theorem dX13_plus_114 : decode cX13_plus 114 = .ok (.iload 5, 2) := by decide +kernel
theorem dX13_plus_116 : decode cX13_plus 116 = .ok (.iadd, 1) := by decide +kernel
theorem dX13_plus_117 : decode cX13_plus 117 = .ok (.iload 6, 2) := by decide +kernel
theorem dX13_plus_119 : decode cX13_plus 119 = .ok (.ldc_w 679, 3) := by decide +kernel
theorem dX13_plus_122 : decode cX13_plus 122 = .ok (.iand, 1) := by decide +kernel
theorem dX13_plus_123 : decode cX13_plus 123 = .ok (.iastore, 1) := by decide +kernel
theorem dX13_plus_124 : decode cX13_plus 124 = .ok (.iload 6, 2) := by decide +kernel
theorem dX13_plus_126 : decode cX13_plus 126 = .ok (.bipush 16, 2) := by decide +kernel
theorem dX13_plus_128 : decode cX13_plus 128 = .ok (.ishr, 1) := by decide +kernel
theorem dX13_plus_129 : decode cX13_plus 129 = .ok (.istore 4, 2) := by decide +kernel
theorem dX13_plus_131 : decode cX13_plus 131 = .ok (.iinc 5 1, 3) := by decide +kernel
theorem dX13_plus_134 : decode cX13_plus 134 = .ok (.goto (-97), 3) := by decide +kernel
theorem dX13_plus_137 : decode cX13_plus 137 = .ok (.aload_n 0, 1) := by decide +kernel
theorem dX13_plus_138 : decode cX13_plus 138 = .ok (.getfield 185, 3) := by decide +kernel
theorem dX13_plus_141 : decode cX13_plus 141 = .ok (.ldc_w 676, 3) := by decide +kernel
theorem dX13_plus_144 : decode cX13_plus 144 = .ok (.iload_n 1, 1) := by decide +kernel
theorem dX13_plus_145 : decode cX13_plus 145 = .ok (.imul, 1) := by decide +kernel
theorem dX13_plus_146 : decode cX13_plus 146 = .ok (.iload_n 3, 1) := by decide +kernel
theorem dX13_plus_147 : decode cX13_plus 147 = .ok (.iadd, 1) := by decide +kernel
theorem dX13_plus_148 : decode cX13_plus 148 = .ok (.iload 4, 2) := by decide +kernel
theorem dX13_plus_150 : decode cX13_plus 150 = .ok (.iastore, 1) := by decide +kernel
theorem dX13_plus_151 : decode cX13_plus 151 = .ok (.aload_n 0, 1) := by decide +kernel
theorem dX13_plus_152 : decode cX13_plus 152 = .ok (.getfield 188, 3) := by decide +kernel
theorem dX13_plus_155 : decode cX13_plus 155 = .ok (.iload_n 1, 1) := by decide +kernel
theorem dX13_plus_156 : decode cX13_plus 156 = .ok (.iload_n 3, 1) := by decide +kernel
theorem dX13_plus_157 : decode cX13_plus 157 = .ok (.iconst 1, 1) := by decide +kernel
theorem dX13_plus_158 : decode cX13_plus 158 = .ok (.iadd, 1) := by decide +kernel
theorem dX13_plus_159 : decode cX13_plus 159 = .ok (.iastore, 1) := by decide +kernel
theorem dX13_plus_160 : decode cX13_plus 160 = .ok (.aload_n 0, 1) := by decide +kernel
theorem dX13_plus_161 : decode cX13_plus 161 = .ok (.iload_n 1, 1) := by decide +kernel
theorem dX13_plus_162 : decode cX13_plus 162 = .ok (.invokevirtual 680, 3) := by decide +kernel
theorem dX13_plus_165 : decode cX13_plus 165 = .ok (.return_, 1) := by decide +kernel
def w_plus_99 (C : rCx) (Q : rS → Prop) (B37 : Int32 → Int32 → Int32 → Int32 → Int32 → rS → Prop) (a1 : Int32) (a2 : Int32) (a3 : Int32) (a4 : Int32) (a5 : Int32) (s0 : Int32) (s1 : Int32) (σ : rS) : Prop :=
  ∀ v6_1 : Int32, v6_1 = ((s0 + s1) + a4) →
  inb (((40000 : Int32) * a1) + a5) 1200000 ∧
  ∀ σ2, σ2 = riU σ 90 ((((40000 : Int32) * a1) + a5)).toNatClampNeg (v6_1 &&& (65535 : Int32)) →
  ∀ v4_3 : Int32, v4_3 = (v6_1 >>> ((16 : Int32) &&& 31)) →
  ∀ v5_4 : Int32, v5_4 = a5 + (1 : Int32) →
  B37 a1 a2 a3 v4_3 v5_4 σ2
theorem t_plus_99 {C : rCx} (hC : cOK C) {Q : rS → Prop} {B37 : Int32 → Int32 → Int32 → Int32 → Int32 → rS → Prop} (hB37 : ∀ a1' a2' a3' a4' a5' τ, B37 a1' a2' a3' a4' a5' τ → wG C 1 m_plus 37 [some (.ref (co C)), some (.int a1'), some (.int a2'), some (.int a3'), some (.int a4'), some (.int a5'), none] [] τ (qV Q)) {a1 : Int32} {a2 : Int32} {a3 : Int32} {a4 : Int32} {a5 : Int32} {s0 : Int32} {s1 : Int32} {σ : rS} (F : w_plus_99 C Q B37 a1 a2 a3 a4 a5 s0 s1 σ) : wG C 1 m_plus 99 [some (.ref (co C)), some (.int a1), some (.int a2), some (.int a3), some (.int a4), some (.int a5), none] [.int s1, .int s0] σ (qV Q) := by
  unfold w_plus_99 at F
  refine s_iadd dX13_plus_99 ?_
  refine s_il dX13_plus_100 rfl ?_
  refine s_iadd dX13_plus_102 ?_
  refine s_isb dX13_plus_103 (Nat.le_of_ble_eq_true rfl) (fun v6_1 ev6_1 => ?_)
  replace F := F v6_1 ev6_1
  refine s_aln dX13_plus_105 rfl ?_
  refine gf_185 dX13_plus_106 rfl ?_
  refine s_ldcw dX13_plus_109 rfl cn_676 ?_
  refine s_iln dX13_plus_112 rfl ?_
  refine s_imul dX13_plus_113 ?_
  refine s_il dX13_plus_114 rfl ?_
  refine s_iadd dX13_plus_116 ?_
  refine s_il dX13_plus_117 rfl ?_
  refine s_ldcw dX13_plus_119 rfl cn_679 ?_
  refine s_iand dX13_plus_122 ?_
  refine s_astb hC dX13_plus_123 rt_90 F.1 (fun σ2 eσ2 => ?_)
  replace F := F.2 σ2 eσ2
  refine s_il dX13_plus_124 rfl ?_
  refine s_bi dX13_plus_126 kb_16 ?_
  refine s_ishr dX13_plus_128 ?_
  refine s_isb dX13_plus_129 (Nat.le_of_ble_eq_true rfl) (fun v4_3 ev4_3 => ?_)
  replace F := F v4_3 ev4_3
  refine s_incb dX13_plus_131 ki_1 rfl (Nat.le_of_ble_eq_true rfl) (fun v5_4 ev5_4 => ?_)
  replace F := F v5_4 ev5_4
  refine s_goto (t := 37) dX13_plus_134 rfl ?_
  exact s_k (hB37 _ _ _ _ _ _ F) ⟨rfl, rfl, rfl, rfl, rfl, rfl, trivial⟩

def w_plus_71 (C : rCx) (Q : rS → Prop) (B37 : Int32 → Int32 → Int32 → Int32 → Int32 → rS → Prop) (a1 : Int32) (a2 : Int32) (a3 : Int32) (a4 : Int32) (a5 : Int32) (s0 : Int32) (σ : rS) : Prop :=
  inb a2 30 ∧
  ((σ.2.2.1 91 (a2).toNatClampNeg) ≤ a5 →
    w_plus_99 C Q B37 a1 a2 a3 a4 a5 s0 (0 : Int32) σ) ∧
  (¬ ((σ.2.2.1 91 (a2).toNatClampNeg) ≤ a5) →
    inb (((40000 : Int32) * a2) + a5) 1200000 ∧
    w_plus_99 C Q B37 a1 a2 a3 a4 a5 s0 (σ.2.2.1 90 ((((40000 : Int32) * a2) + a5)).toNatClampNeg) σ)
theorem t_plus_71 {C : rCx} (hC : cOK C) {Q : rS → Prop} {B37 : Int32 → Int32 → Int32 → Int32 → Int32 → rS → Prop} (hB37 : ∀ a1' a2' a3' a4' a5' τ, B37 a1' a2' a3' a4' a5' τ → wG C 1 m_plus 37 [some (.ref (co C)), some (.int a1'), some (.int a2'), some (.int a3'), some (.int a4'), some (.int a5'), none] [] τ (qV Q)) {a1 : Int32} {a2 : Int32} {a3 : Int32} {a4 : Int32} {a5 : Int32} {s0 : Int32} {σ : rS} (F : w_plus_71 C Q B37 a1 a2 a3 a4 a5 s0 σ) : wG C 1 m_plus 71 [some (.ref (co C)), some (.int a1), some (.int a2), some (.int a3), some (.int a4), some (.int a5), none] [.int s0] σ (qV Q) := by
  unfold w_plus_71 at F
  refine s_il dX13_plus_71 rfl ?_
  refine s_aln dX13_plus_73 rfl ?_
  refine gf_188 dX13_plus_74 rfl ?_
  refine s_iln dX13_plus_77 rfl ?_
  refine s_ald hC dX13_plus_78 rt_91 F.1 ?_
  replace F := F.2
  refine s_ii (t := 98) ((σ.2.2.1 91 (a2).toNatClampNeg) ≤ a5) dX13_plus_79 rfl rfl (fun hc => ?_) (fun hc => ?_)
  · replace F := F.1 hc
    refine s_ic dX13_plus_98 ki_0 ?_
    exact s_k (t_plus_99 hC hB37 F) ⟨rfl, rfl, rfl, rfl, rfl, rfl, trivial⟩
  · replace F := F.2 hc
    refine s_aln dX13_plus_82 rfl ?_
    refine gf_185 dX13_plus_83 rfl ?_
    refine s_ldcw dX13_plus_86 rfl cn_676 ?_
    refine s_iln dX13_plus_89 rfl ?_
    refine s_imul dX13_plus_90 ?_
    refine s_il dX13_plus_91 rfl ?_
    refine s_iadd dX13_plus_93 ?_
    refine s_ald hC dX13_plus_94 rt_90 F.1 ?_
    replace F := F.2
    refine s_goto (t := 99) dX13_plus_95 rfl ?_
    exact s_k (t_plus_99 hC hB37 F) ⟨rfl, rfl, rfl, rfl, rfl, rfl, trivial⟩

def w_plus_37 (C : rCx) (Q : rS → Prop)  (a1 : Int32) (a2 : Int32) (a3 : Int32) (a4 : Int32) (a5 : Int32) (σ : rS) : Prop :=
  ∃ I : Nat → Int32 → Int32 → Int32 → Int32 → Int32 → rS → Prop, (∃ n, I n a1 a2 a3 a4 a5 σ) ∧ ∀ n a1 a2 a3 a4 a5 σ, I n a1 a2 a3 a4 a5 σ →
    (a3 ≤ a5 →
      inb (((40000 : Int32) * a1) + a3) 1200000 ∧
      ∀ σ1, σ1 = riU σ 90 ((((40000 : Int32) * a1) + a3)).toNatClampNeg a4 →
      inb a1 30 ∧
      ∀ σ2, σ2 = riU σ1 91 (a1).toNatClampNeg (a3 + (1 : Int32)) →
      cV C 0 m_trim [.ref (co C), .int a1] σ2 (fun σ3 =>
        Q σ3)) ∧
    (¬ (a3 ≤ a5) →
      inb a1 30 ∧
      ((σ.2.2.1 91 (a1).toNatClampNeg) ≤ a5 →
        w_plus_71 C Q (fun a1' a2' a3' a4' a5' τ => ∃ k < n, I k a1' a2' a3' a4' a5' τ) a1 a2 a3 a4 a5 (0 : Int32) σ) ∧
      (¬ ((σ.2.2.1 91 (a1).toNatClampNeg) ≤ a5) →
        inb (((40000 : Int32) * a1) + a5) 1200000 ∧
        w_plus_71 C Q (fun a1' a2' a3' a4' a5' τ => ∃ k < n, I k a1' a2' a3' a4' a5' τ) a1 a2 a3 a4 a5 (σ.2.2.1 90 ((((40000 : Int32) * a1) + a5)).toNatClampNeg) σ))
theorem t_plus_37 {C : rCx} (hC : cOK C) {Q : rS → Prop}   {a1 : Int32} {a2 : Int32} {a3 : Int32} {a4 : Int32} {a5 : Int32} {σ : rS} (F : w_plus_37 C Q  a1 a2 a3 a4 a5 σ) : wG C 1 m_plus 37 [some (.ref (co C)), some (.int a1), some (.int a2), some (.int a3), some (.int a4), some (.int a5), none] [] σ (qV Q) := by
  obtain ⟨I, ⟨n0, hI0⟩, F0⟩ := F
  have key : ∀ n a1 a2 a3 a4 a5 σ, I n a1 a2 a3 a4 a5 σ → wG C 1 m_plus 37 [some (.ref (co C)), some (.int a1), some (.int a2), some (.int a3), some (.int a4), some (.int a5), none] [] σ (qV Q) := by
    intro n
    induction n using Nat.strongRecOn with
    | _ n ih =>
      intro a1 a2 a3 a4 a5 σ hI
      have F := F0 n a1 a2 a3 a4 a5 σ hI
      clear hI hI0
      refine s_il dX13_plus_37 rfl ?_
      refine s_iln dX13_plus_39 rfl ?_
      refine s_ii (t := 137) (a3 ≤ a5) dX13_plus_40 rfl rfl (fun hc => ?_) (fun hc => ?_)
      · replace F := F.1 hc
        refine s_aln dX13_plus_137 rfl ?_
        refine gf_185 dX13_plus_138 rfl ?_
        refine s_ldcw dX13_plus_141 rfl cn_676 ?_
        refine s_iln dX13_plus_144 rfl ?_
        refine s_imul dX13_plus_145 ?_
        refine s_iln dX13_plus_146 rfl ?_
        refine s_iadd dX13_plus_147 ?_
        refine s_il dX13_plus_148 rfl ?_
        refine s_astb hC dX13_plus_150 rt_90 F.1 (fun σ1 eσ1 => ?_)
        replace F := F.2 σ1 eσ1
        refine s_aln dX13_plus_151 rfl ?_
        refine gf_188 dX13_plus_152 rfl ?_
        refine s_iln dX13_plus_155 rfl ?_
        refine s_iln dX13_plus_156 rfl ?_
        refine s_ic dX13_plus_157 ki_1 ?_
        refine s_iadd dX13_plus_158 ?_
        refine s_astb hC dX13_plus_159 rt_91 F.1 (fun σ2 eσ2 => ?_)
        replace F := F.2 σ2 eσ2
        refine s_aln dX13_plus_160 rfl ?_
        refine s_iln dX13_plus_161 rfl ?_
        refine k_680 dX13_plus_162 rfl (Nat.le_of_ble_eq_true rfl) (Nat.le_of_ble_eq_true rfl) F (fun σ3 F => ?_)
        exact s_rv dX13_plus_165 rfl F
      · replace F := F.2 hc
        refine s_il dX13_plus_43 rfl ?_
        refine s_aln dX13_plus_45 rfl ?_
        refine gf_188 dX13_plus_46 rfl ?_
        refine s_iln dX13_plus_49 rfl ?_
        refine s_ald hC dX13_plus_50 rt_91 F.1 ?_
        replace F := F.2
        refine s_ii (t := 70) ((σ.2.2.1 91 (a1).toNatClampNeg) ≤ a5) dX13_plus_51 rfl rfl (fun hc => ?_) (fun hc => ?_)
        · replace F := F.1 hc
          refine s_ic dX13_plus_70 ki_0 ?_
          exact s_k (t_plus_71 hC (fun a1' a2' a3' a4' a5' τ hb => by obtain ⟨k, hk, hI⟩ := hb; exact ih k hk a1' a2' a3' a4' a5' τ hI) F) ⟨rfl, rfl, rfl, rfl, rfl, rfl, trivial⟩
        · replace F := F.2 hc
          refine s_aln dX13_plus_54 rfl ?_
          refine gf_185 dX13_plus_55 rfl ?_
          refine s_ldcw dX13_plus_58 rfl cn_676 ?_
          refine s_iln dX13_plus_61 rfl ?_
          refine s_imul dX13_plus_62 ?_
          refine s_il dX13_plus_63 rfl ?_
          refine s_iadd dX13_plus_65 ?_
          refine s_ald hC dX13_plus_66 rt_90 F.1 ?_
          replace F := F.2
          refine s_goto (t := 71) dX13_plus_67 rfl ?_
          exact s_k (t_plus_71 hC (fun a1' a2' a3' a4' a5' τ hb => by obtain ⟨k, hk, hI⟩ := hb; exact ih k hk a1' a2' a3' a4' a5' τ hI) F) ⟨rfl, rfl, rfl, rfl, rfl, rfl, trivial⟩
  exact key n0 a1 a2 a3 a4 a5 σ hI0

def w_plus_30 (C : rCx) (Q : rS → Prop)  (a1 : Int32) (a2 : Int32) (s0 : Int32) (σ : rS) : Prop :=
  w_plus_37 C Q  a1 a2 s0 (0 : Int32) (0 : Int32) σ
theorem t_plus_30 {C : rCx} (hC : cOK C) {Q : rS → Prop}   {a1 : Int32} {a2 : Int32} {s0 : Int32} {σ : rS} (F : w_plus_30 C Q  a1 a2 s0 σ) : wG C 1 m_plus 30 [some (.ref (co C)), some (.int a1), some (.int a2), none, none, none, none] [.int s0] σ (qV Q) := by
  unfold w_plus_30 at F
  refine s_isn dX13_plus_30 (Nat.le_of_ble_eq_true rfl) rfl ?_
  refine s_ic dX13_plus_31 ki_0 ?_
  refine s_is dX13_plus_32 (Nat.le_of_ble_eq_true rfl) rfl ?_
  refine s_ic dX13_plus_34 ki_0 ?_
  refine s_is dX13_plus_35 (Nat.le_of_ble_eq_true rfl) rfl ?_
  exact s_k (t_plus_37 hC  F) ⟨rfl, rfl, rfl, rfl, rfl, rfl, trivial⟩

def w_plus_0 (C : rCx) (Q : rS → Prop)  (a1 : Int32) (a2 : Int32) (σ : rS) : Prop :=
  inb a1 30 ∧
  inb a2 30 ∧
  ((σ.2.2.1 91 (a1).toNatClampNeg) ≤ (σ.2.2.1 91 (a2).toNatClampNeg) →
    inb a2 30 ∧
    w_plus_30 C Q  a1 a2 (σ.2.2.1 91 (a2).toNatClampNeg) σ) ∧
  (¬ ((σ.2.2.1 91 (a1).toNatClampNeg) ≤ (σ.2.2.1 91 (a2).toNatClampNeg)) →
    inb a1 30 ∧
    w_plus_30 C Q  a1 a2 (σ.2.2.1 91 (a1).toNatClampNeg) σ)
theorem t_plus_0 {C : rCx} (hC : cOK C) {Q : rS → Prop}   {a1 : Int32} {a2 : Int32} {σ : rS} (F : w_plus_0 C Q  a1 a2 σ) : wG C 1 m_plus 0 [some (.ref (co C)), some (.int a1), some (.int a2), none, none, none, none] [] σ (qV Q) := by
  unfold w_plus_0 at F
  refine s_aln dX13_plus_0 rfl ?_
  refine gf_188 dX13_plus_1 rfl ?_
  refine s_iln dX13_plus_4 rfl ?_
  refine s_ald hC dX13_plus_5 rt_91 F.1 ?_
  replace F := F.2
  refine s_aln dX13_plus_6 rfl ?_
  refine gf_188 dX13_plus_7 rfl ?_
  refine s_iln dX13_plus_10 rfl ?_
  refine s_ald hC dX13_plus_11 rt_91 F.1 ?_
  replace F := F.2
  refine s_ii (t := 24) ((σ.2.2.1 91 (a1).toNatClampNeg) ≤ (σ.2.2.1 91 (a2).toNatClampNeg)) dX13_plus_12 rfl rfl (fun hc => ?_) (fun hc => ?_)
  · replace F := F.1 hc
    refine s_aln dX13_plus_24 rfl ?_
    refine gf_188 dX13_plus_25 rfl ?_
    refine s_iln dX13_plus_28 rfl ?_
    refine s_ald hC dX13_plus_29 rt_91 F.1 ?_
    replace F := F.2
    exact s_k (t_plus_30 hC  F) ⟨rfl, rfl, rfl, trivial⟩
  · replace F := F.2 hc
    refine s_aln dX13_plus_15 rfl ?_
    refine gf_188 dX13_plus_16 rfl ?_
    refine s_iln dX13_plus_19 rfl ?_
    refine s_ald hC dX13_plus_20 rt_91 F.1 ?_
    replace F := F.2
    refine s_goto (t := 30) dX13_plus_21 rfl ?_
    exact s_k (t_plus_30 hC  F) ⟨rfl, rfl, rfl, trivial⟩

theorem m_plus_run {C : rCx} (hC : cOK C) {Q : rS → Prop} {a1 : Int32} {a2 : Int32} {σ : rS} (F : w_plus_0 C Q a1 a2 σ) : cV C 1 m_plus [.ref (co C), .int a1, .int a2] σ Q := m_V (m_ent _ 4) (t_plus_0 hC F)

