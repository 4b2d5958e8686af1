/-! methods of the reference: isSlot, isMeant, isVisited, addWeight, sumWeights, sumVisits, sumOver, loadWorth -/
theorem dX13_isSlot_0 : decode cX13_isSlot 0 = .ok (.iload_n 0, 1) := by decide +kernel
theorem dX13_isSlot_1 : decode cX13_isSlot 1 = .ok (.ifCond .lt 12, 3) := by decide +kernel
theorem dX13_isSlot_4 : decode cX13_isSlot 4 = .ok (.iload_n 0, 1) := by decide +kernel
theorem dX13_isSlot_5 : decode cX13_isSlot 5 = .ok (.iload_n 1, 1) := by decide +kernel
theorem dX13_isSlot_6 : decode cX13_isSlot 6 = .ok (.if_icmp .ge 7, 3) := by decide +kernel
theorem dX13_isSlot_9 : decode cX13_isSlot 9 = .ok (.iconst 1, 1) := by decide +kernel
theorem dX13_isSlot_10 : decode cX13_isSlot 10 = .ok (.goto 4, 3) := by decide +kernel
theorem dX13_isSlot_13 : decode cX13_isSlot 13 = .ok (.iconst 0, 1) := by decide +kernel
theorem dX13_isSlot_14 : decode cX13_isSlot 14 = .ok (.ireturn, 1) := by decide +kernel
def w_isSlot_0 (C : rCx) (Q : Int32 → rS → Prop)  (a0 : Int32) (a1 : Int32) (σ : rS) : Prop :=
  (a0 < 0 →
    Q (0 : Int32) σ) ∧
  (¬ (a0 < 0) →
    (a1 ≤ a0 →
      Q (0 : Int32) σ) ∧
    (¬ (a1 ≤ a0) →
      Q (1 : Int32) σ))
theorem t_isSlot_0 {C : rCx} (hC : cOK C) {Q : Int32 → rS → Prop}   {a0 : Int32} {a1 : Int32} {σ : rS} (F : w_isSlot_0 C Q  a0 a1 σ) : wG C 0 m_isSlot 0 [some (.int a0), some (.int a1)] [] σ (qI Q) := by
  unfold w_isSlot_0 at F
  refine s_iln dX13_isSlot_0 rfl ?_
  refine s_i (t := 13) (a0 < 0) dX13_isSlot_1 rfl rfl (fun hc => ?_) (fun hc => ?_)
  · replace F := F.1 hc
    refine s_ic dX13_isSlot_13 ki_0 ?_
    exact s_ri dX13_isSlot_14 rfl (nb_nar nb_0) F
  · replace F := F.2 hc
    refine s_iln dX13_isSlot_4 rfl ?_
    refine s_iln dX13_isSlot_5 rfl ?_
    refine s_ii (t := 13) (a1 ≤ a0) dX13_isSlot_6 rfl rfl (fun hc => ?_) (fun hc => ?_)
    · replace F := F.1 hc
      refine s_ic dX13_isSlot_13 ki_0 ?_
      exact s_ri dX13_isSlot_14 rfl (nb_nar nb_0) F
    · replace F := F.2 hc
      refine s_ic dX13_isSlot_9 ki_1 ?_
      refine s_goto (t := 14) dX13_isSlot_10 rfl ?_
      exact s_ri dX13_isSlot_14 rfl (nb_nar nb_1) F

theorem m_isSlot_run {C : rCx} (hC : cOK C) {Q : Int32 → rS → Prop} {a0 : Int32} {a1 : Int32} {σ : rS} (F : w_isSlot_0 C Q a0 a1 σ) : cI C 0 m_isSlot [.int a0, .int a1] σ Q := m_I (m_ent _ 0) (t_isSlot_0 hC F)

theorem dX13_isMeant_0 : decode cX13_isMeant 0 = .ok (.aload_n 0, 1) := by decide +kernel
theorem dX13_isMeant_1 : decode cX13_isMeant 1 = .ok (.getfield 154, 3) := by decide +kernel
theorem dX13_isMeant_4 : decode cX13_isMeant 4 = .ok (.iload_n 1, 1) := by decide +kernel
theorem dX13_isMeant_5 : decode cX13_isMeant 5 = .ok (.iaload, 1) := by decide +kernel
theorem dX13_isMeant_6 : decode cX13_isMeant 6 = .ok (.istore 4, 2) := by decide +kernel
theorem dX13_isMeant_8 : decode cX13_isMeant 8 = .ok (.aload_n 0, 1) := by decide +kernel
theorem dX13_isMeant_9 : decode cX13_isMeant 9 = .ok (.getfield 157, 3) := by decide +kernel
theorem dX13_isMeant_12 : decode cX13_isMeant 12 = .ok (.iload_n 1, 1) := by decide +kernel
theorem dX13_isMeant_13 : decode cX13_isMeant 13 = .ok (.iaload, 1) := by decide +kernel
theorem dX13_isMeant_14 : decode cX13_isMeant 14 = .ok (.istore 5, 2) := by decide +kernel
theorem dX13_isMeant_16 : decode cX13_isMeant 16 = .ok (.iload_n 2, 1) := by decide +kernel
theorem dX13_isMeant_17 : decode cX13_isMeant 17 = .ok (.tableswitch 156 0 6 #[43, 69, 87, 69, 105, 117, 138], 43) := by decide +kernel
theorem dX13_isMeant_60 : decode cX13_isMeant 60 = .ok (.iload 4, 2) := by decide +kernel
theorem dX13_isMeant_62 : decode cX13_isMeant 62 = .ok (.iconst 1, 1) := by decide +kernel
theorem dX13_isMeant_63 : decode cX13_isMeant 63 = .ok (.if_icmp .ne 21, 3) := by decide +kernel
theorem dX13_isMeant_66 : decode cX13_isMeant 66 = .ok (.aload_n 0, 1) := by decide +kernel
theorem dX13_isMeant_67 : decode cX13_isMeant 67 = .ok (.getfield 148, 3) := by decide +kernel
theorem dX13_isMeant_70 : decode cX13_isMeant 70 = .ok (.bipush 35, 2) := by decide +kernel
theorem dX13_isMeant_72 : decode cX13_isMeant 72 = .ok (.iload 5, 2) := by decide +kernel
theorem dX13_isMeant_74 : decode cX13_isMeant 74 = .ok (.imul, 1) := by decide +kernel
theorem dX13_isMeant_75 : decode cX13_isMeant 75 = .ok (.iaload, 1) := by decide +kernel
theorem dX13_isMeant_76 : decode cX13_isMeant 76 = .ok (.iload_n 3, 1) := by decide +kernel
theorem dX13_isMeant_77 : decode cX13_isMeant 77 = .ok (.if_icmp .ne 7, 3) := by decide +kernel
theorem dX13_isMeant_80 : decode cX13_isMeant 80 = .ok (.iconst 1, 1) := by decide +kernel
theorem dX13_isMeant_81 : decode cX13_isMeant 81 = .ok (.goto 4, 3) := by decide +kernel
theorem dX13_isMeant_84 : decode cX13_isMeant 84 = .ok (.iconst 0, 1) := by decide +kernel
theorem dX13_isMeant_85 : decode cX13_isMeant 85 = .ok (.ireturn, 1) := by decide +kernel
theorem dX13_isMeant_86 : decode cX13_isMeant 86 = .ok (.iload 4, 2) := by decide +kernel
theorem dX13_isMeant_88 : decode cX13_isMeant 88 = .ok (.iconst 2, 1) := by decide +kernel
theorem dX13_isMeant_89 : decode cX13_isMeant 89 = .ok (.if_icmp .ne 13, 3) := by decide +kernel
theorem dX13_isMeant_92 : decode cX13_isMeant 92 = .ok (.iload 5, 2) := by decide +kernel
theorem dX13_isMeant_94 : decode cX13_isMeant 94 = .ok (.iload_n 3, 1) := by decide +kernel
theorem dX13_isMeant_95 : decode cX13_isMeant 95 = .ok (.if_icmp .ne 7, 3) := by decide +kernel
theorem dX13_isMeant_98 : decode cX13_isMeant 98 = .ok (.iconst 1, 1) := by decide +kernel
theorem dX13_isMeant_99 : decode cX13_isMeant 99 = .ok (.goto 4, 3) := by decide +kernel
theorem dX13_isMeant_102 : decode cX13_isMeant 102 = .ok (.iconst 0, 1) := by decide +kernel
theorem dX13_isMeant_103 : decode cX13_isMeant 103 = .ok (.ireturn, 1) := by decide +kernel
theorem dX13_isMeant_104 : decode cX13_isMeant 104 = .ok (.iload 4, 2) := by decide +kernel
theorem dX13_isMeant_106 : decode cX13_isMeant 106 = .ok (.iconst 1, 1) := by decide +kernel
theorem dX13_isMeant_107 : decode cX13_isMeant 107 = .ok (.if_icmp .ne 13, 3) := by decide +kernel
theorem dX13_isMeant_110 : decode cX13_isMeant 110 = .ok (.iload 5, 2) := by decide +kernel
theorem dX13_isMeant_112 : decode cX13_isMeant 112 = .ok (.iload_n 3, 1) := by decide +kernel
theorem dX13_isMeant_113 : decode cX13_isMeant 113 = .ok (.if_icmp .ne 7, 3) := by decide +kernel
theorem dX13_isMeant_116 : decode cX13_isMeant 116 = .ok (.iconst 1, 1) := by decide +kernel
theorem dX13_isMeant_117 : decode cX13_isMeant 117 = .ok (.goto 4, 3) := by decide +kernel
theorem dX13_isMeant_120 : decode cX13_isMeant 120 = .ok (.iconst 0, 1) := by decide +kernel
theorem dX13_isMeant_121 : decode cX13_isMeant 121 = .ok (.ireturn, 1) := by decide +kernel
theorem dX13_isMeant_122 : decode cX13_isMeant 122 = .ok (.iload 4, 2) := by decide +kernel
theorem dX13_isMeant_124 : decode cX13_isMeant 124 = .ok (.iconst 3, 1) := by decide +kernel
theorem dX13_isMeant_125 : decode cX13_isMeant 125 = .ok (.if_icmp .ne 7, 3) := by decide +kernel
theorem dX13_isMeant_128 : decode cX13_isMeant 128 = .ok (.iconst 1, 1) := by decide +kernel
theorem dX13_isMeant_129 : decode cX13_isMeant 129 = .ok (.goto 4, 3) := by decide +kernel
theorem dX13_isMeant_132 : decode cX13_isMeant 132 = .ok (.iconst 0, 1) := by decide +kernel
theorem dX13_isMeant_133 : decode cX13_isMeant 133 = .ok (.ireturn, 1) := by decide +kernel
theorem dX13_isMeant_134 : decode cX13_isMeant 134 = .ok (.iload 4, 2) := by decide +kernel
theorem dX13_isMeant_136 : decode cX13_isMeant 136 = .ok (.ifCond .ne 17, 3) := by decide +kernel
theorem dX13_isMeant_139 : decode cX13_isMeant 139 = .ok (.aload_n 0, 1) := by decide +kernel
theorem dX13_isMeant_140 : decode cX13_isMeant 140 = .ok (.getfield 195, 3) := by decide +kernel
theorem dX13_isMeant_143 : decode cX13_isMeant 143 = .ok (.iload 5, 2) := by decide +kernel
theorem dX13_isMeant_145 : decode cX13_isMeant 145 = .ok (.baload, 1) := by decide +kernel
theorem dX13_isMeant_146 : decode cX13_isMeant 146 = .ok (.ifCond .ne 7, 3) := by decide +kernel
theorem dX13_isMeant_149 : decode cX13_isMeant 149 = .ok (.iconst 1, 1) := by decide +kernel
theorem dX13_isMeant_150 : decode cX13_isMeant 150 = .ok (.goto 4, 3) := by decide +kernel
theorem dX13_isMeant_153 : decode cX13_isMeant 153 = .ok (.iconst 0, 1) := by decide +kernel
theorem dX13_isMeant_154 : decode cX13_isMeant 154 = .ok (.ireturn, 1) := by decide +kernel
theorem dX13_isMeant_155 : decode cX13_isMeant 155 = .ok (.iload 4, 2) := by decide +kernel
theorem dX13_isMeant_157 : decode cX13_isMeant 157 = .ok (.iconst 1, 1) := by decide +kernel
theorem dX13_isMeant_158 : decode cX13_isMeant 158 = .ok (.if_icmp .eq 9, 3) := by decide +kernel
theorem dX13_isMeant_161 : decode cX13_isMeant 161 = .ok (.iload 4, 2) := by decide +kernel
theorem dX13_isMeant_163 : decode cX13_isMeant 163 = .ok (.iconst 2, 1) := by decide +kernel
theorem dX13_isMeant_164 : decode cX13_isMeant 164 = .ok (.if_icmp .ne 7, 3) := by decide +kernel
theorem dX13_isMeant_167 : decode cX13_isMeant 167 = .ok (.iconst 1, 1) := by decide +kernel
theorem dX13_isMeant_168 : decode cX13_isMeant 168 = .ok (.goto 4, 3) := by decide +kernel
theorem dX13_isMeant_171 : decode cX13_isMeant 171 = .ok (.iconst 0, 1) := by decide +kernel
theorem dX13_isMeant_172 : decode cX13_isMeant 172 = .ok (.ireturn, 1) := by decide +kernel
theorem dX13_isMeant_173 : decode cX13_isMeant 173 = .ok (.iload 4, 2) := by decide +kernel
theorem dX13_isMeant_175 : decode cX13_isMeant 175 = .ok (.iconst 1, 1) := by decide +kernel
theorem dX13_isMeant_176 : decode cX13_isMeant 176 = .ok (.if_icmp .ne 7, 3) := by decide +kernel
theorem dX13_isMeant_179 : decode cX13_isMeant 179 = .ok (.iconst 1, 1) := by decide +kernel
theorem dX13_isMeant_180 : decode cX13_isMeant 180 = .ok (.goto 4, 3) := by decide +kernel
theorem dX13_isMeant_183 : decode cX13_isMeant 183 = .ok (.iconst 0, 1) := by decide +kernel
theorem dX13_isMeant_184 : decode cX13_isMeant 184 = .ok (.ireturn, 1) := by decide +kernel
def w_isMeant_86 (C : rCx) (Q : Int32 → rS → Prop)  (a3 : Int32) (a4 : Int32) (a5 : Int32) (σ : rS) : Prop :=
  (¬ (a4 = (2 : Int32)) →
    Q (0 : Int32) σ) ∧
  (a4 = (2 : Int32) →
    (¬ (a5 = a3) →
      Q (0 : Int32) σ) ∧
    (a5 = a3 →
      Q (1 : Int32) σ))
theorem t_isMeant_86 {C : rCx} (hC : cOK C) {Q : Int32 → rS → Prop}   {a3 : Int32} {a4 : Int32} {a5 : Int32} {σ : rS} (F : w_isMeant_86 C Q  a3 a4 a5 σ) : wG C 0 m_isMeant 86 [some (.ref (co C)), none, none, some (.int a3), some (.int a4), some (.int a5)] [] σ (qI Q) := by
  unfold w_isMeant_86 at F
  refine s_il dX13_isMeant_86 rfl ?_
  refine s_ic dX13_isMeant_88 ki_2 ?_
  refine s_iin (t := 102) (a4 = (2 : Int32)) dX13_isMeant_89 rfl rfl (fun hc => ?_) (fun hc => ?_)
  · replace F := F.1 hc
    refine s_ic dX13_isMeant_102 ki_0 ?_
    exact s_ri dX13_isMeant_103 rfl (nb_nar nb_0) F
  · replace F := F.2 hc
    refine s_il dX13_isMeant_92 rfl ?_
    refine s_iln dX13_isMeant_94 rfl ?_
    refine s_iin (t := 102) (a5 = a3) dX13_isMeant_95 rfl rfl (fun hc => ?_) (fun hc => ?_)
    · replace F := F.1 hc
      refine s_ic dX13_isMeant_102 ki_0 ?_
      exact s_ri dX13_isMeant_103 rfl (nb_nar nb_0) F
    · replace F := F.2 hc
      refine s_ic dX13_isMeant_98 ki_1 ?_
      refine s_goto (t := 103) dX13_isMeant_99 rfl ?_
      exact s_ri dX13_isMeant_103 rfl (nb_nar nb_1) F

def w_isMeant_0 (C : rCx) (Q : Int32 → rS → Prop)  (a1 : Int32) (a2 : Int32) (a3 : Int32) (σ : rS) : Prop :=
  inb a1 20000 ∧
  ∀ v4_1 : Int32, v4_1 = (σ.2.2.1 77 (a1).toNatClampNeg) →
  inb a1 20000 ∧
  ∀ v5_2 : Int32, v5_2 = (σ.2.2.1 78 (a1).toNatClampNeg) →
  ((a2).toInt < 0 ∨ 6 < (a2).toInt →
    (¬ (v4_1 = (1 : Int32)) →
      Q (0 : Int32) σ) ∧
    (v4_1 = (1 : Int32) →
      Q (1 : Int32) σ)) ∧
  ((a2).toInt = 0 →
    (¬ (v4_1 = (1 : Int32)) →
      Q (0 : Int32) σ) ∧
    (v4_1 = (1 : Int32) →
      inb ((35 : Int32) * v5_2) 35000 ∧
      (¬ ((σ.2.2.1 75 (((35 : Int32) * v5_2)).toNatClampNeg) = a3) →
        Q (0 : Int32) σ) ∧
      ((σ.2.2.1 75 (((35 : Int32) * v5_2)).toNatClampNeg) = a3 →
        Q (1 : Int32) σ))) ∧
  ((a2).toInt = 1 →
    w_isMeant_86 C Q  a3 v4_1 v5_2 σ) ∧
  ((a2).toInt = 2 →
    (¬ (v4_1 = (1 : Int32)) →
      Q (0 : Int32) σ) ∧
    (v4_1 = (1 : Int32) →
      (¬ (v5_2 = a3) →
        Q (0 : Int32) σ) ∧
      (v5_2 = a3 →
        Q (1 : Int32) σ))) ∧
  ((a2).toInt = 3 →
    w_isMeant_86 C Q  a3 v4_1 v5_2 σ) ∧
  ((a2).toInt = 4 →
    (¬ (v4_1 = (3 : Int32)) →
      Q (0 : Int32) σ) ∧
    (v4_1 = (3 : Int32) →
      Q (1 : Int32) σ)) ∧
  ((a2).toInt = 5 →
    (¬ (v4_1 = 0) →
      Q (0 : Int32) σ) ∧
    (v4_1 = 0 →
      inb v5_2 1000 ∧
      (¬ ((σ.2.2.1 95 (v5_2).toNatClampNeg) = 0) →
        Q (0 : Int32) σ) ∧
      ((σ.2.2.1 95 (v5_2).toNatClampNeg) = 0 →
        Q (1 : Int32) σ))) ∧
  ((a2).toInt = 6 →
    (v4_1 = (1 : Int32) →
      Q (1 : Int32) σ) ∧
    (¬ (v4_1 = (1 : Int32)) →
      (¬ (v4_1 = (2 : Int32)) →
        Q (0 : Int32) σ) ∧
      (v4_1 = (2 : Int32) →
        Q (1 : Int32) σ)))
theorem t_isMeant_0 {C : rCx} (hC : cOK C) {Q : Int32 → rS → Prop}   {a1 : Int32} {a2 : Int32} {a3 : Int32} {σ : rS} (F : w_isMeant_0 C Q  a1 a2 a3 σ) : wG C 0 m_isMeant 0 [some (.ref (co C)), some (.int a1), some (.int a2), some (.int a3), none, none] [] σ (qI Q) := by
  unfold w_isMeant_0 at F
  refine s_aln dX13_isMeant_0 rfl ?_
  refine gf_154 dX13_isMeant_1 rfl ?_
  refine s_iln dX13_isMeant_4 rfl ?_
  refine s_ald hC dX13_isMeant_5 rt_77 F.1 ?_
  replace F := F.2
  refine s_isb dX13_isMeant_6 (Nat.le_of_ble_eq_true rfl) (fun v4_1 ev4_1 => ?_)
  replace F := F v4_1 ev4_1
  show wG _ _ _ _ [some (.ref (co C)), some (.int a1), some (.int a2), some (.int a3), some (.int v4_1), none] _ _ _
  refine s_aln dX13_isMeant_8 rfl ?_
  refine gf_157 dX13_isMeant_9 rfl ?_
  refine s_iln dX13_isMeant_12 rfl ?_
  refine s_ald hC dX13_isMeant_13 rt_78 F.1 ?_
  replace F := F.2
  refine s_isb dX13_isMeant_14 (Nat.le_of_ble_eq_true rfl) (fun v5_2 ev5_2 => ?_)
  replace F := F v5_2 ev5_2
  show wG _ _ _ _ [some (.ref (co C)), some (.int a1), some (.int a2), some (.int a3), some (.int v4_1), some (.int v5_2)] _ _ _
  refine s_iln dX13_isMeant_16 rfl ?_
  by_cases hsw : (a2).toInt < 0 ∨ 6 < (a2).toInt
  · refine s_swd (t := 173) dX13_isMeant_17 hsw rfl ?_
    replace F := F.1 hsw
    refine s_il dX13_isMeant_173 rfl ?_
    refine s_ic dX13_isMeant_175 ki_1 ?_
    refine s_iin (t := 183) (v4_1 = (1 : Int32)) dX13_isMeant_176 rfl rfl (fun hc => ?_) (fun hc => ?_)
    · replace F := F.1 hc
      refine s_ic dX13_isMeant_183 ki_0 ?_
      exact s_ri dX13_isMeant_184 rfl (nb_nar nb_0) F
    · replace F := F.2 hc
      refine s_ic dX13_isMeant_179 ki_1 ?_
      refine s_goto (t := 184) dX13_isMeant_180 rfl ?_
      exact s_ri dX13_isMeant_184 rfl (nb_nar nb_1) F
  replace F := F.2
  by_cases hs0 : (a2).toInt = 0
  · refine s_p (pc' := 60) dX13_isMeant_17 (fun lo => sw_at (k := 0) hs0 (eq_true (by decide)) rfl rfl) ?_
    replace F := F.1 hs0
    refine s_il dX13_isMeant_60 rfl ?_
    refine s_ic dX13_isMeant_62 ki_1 ?_
    refine s_iin (t := 84) (v4_1 = (1 : Int32)) dX13_isMeant_63 rfl rfl (fun hc => ?_) (fun hc => ?_)
    · replace F := F.1 hc
      refine s_ic dX13_isMeant_84 ki_0 ?_
      exact s_ri dX13_isMeant_85 rfl (nb_nar nb_0) F
    · replace F := F.2 hc
      refine s_aln dX13_isMeant_66 rfl ?_
      refine gf_148 dX13_isMeant_67 rfl ?_
      refine s_bi dX13_isMeant_70 kb_35 ?_
      refine s_il dX13_isMeant_72 rfl ?_
      refine s_imul dX13_isMeant_74 ?_
      refine s_ald hC dX13_isMeant_75 rt_75 F.1 ?_
      replace F := F.2
      refine s_iln dX13_isMeant_76 rfl ?_
      refine s_iin (t := 84) ((σ.2.2.1 75 (((35 : Int32) * v5_2)).toNatClampNeg) = a3) dX13_isMeant_77 rfl rfl (fun hc => ?_) (fun hc => ?_)
      · replace F := F.1 hc
        refine s_ic dX13_isMeant_84 ki_0 ?_
        exact s_ri dX13_isMeant_85 rfl (nb_nar nb_0) F
      · replace F := F.2 hc
        refine s_ic dX13_isMeant_80 ki_1 ?_
        refine s_goto (t := 85) dX13_isMeant_81 rfl ?_
        exact s_ri dX13_isMeant_85 rfl (nb_nar nb_1) F
  replace F := F.2
  by_cases hs1 : (a2).toInt = 1
  · refine s_p (pc' := 86) dX13_isMeant_17 (fun lo => sw_at (k := 0) hs1 (eq_true (by decide)) rfl rfl) ?_
    replace F := F.1 hs1
    exact s_k (t_isMeant_86 hC  F) ⟨rfl, rfl, rfl, rfl, trivial⟩
  replace F := F.2
  by_cases hs2 : (a2).toInt = 2
  · refine s_p (pc' := 104) dX13_isMeant_17 (fun lo => sw_at (k := 0) hs2 (eq_true (by decide)) rfl rfl) ?_
    replace F := F.1 hs2
    refine s_il dX13_isMeant_104 rfl ?_
    refine s_ic dX13_isMeant_106 ki_1 ?_
    refine s_iin (t := 120) (v4_1 = (1 : Int32)) dX13_isMeant_107 rfl rfl (fun hc => ?_) (fun hc => ?_)
    · replace F := F.1 hc
      refine s_ic dX13_isMeant_120 ki_0 ?_
      exact s_ri dX13_isMeant_121 rfl (nb_nar nb_0) F
    · replace F := F.2 hc
      refine s_il dX13_isMeant_110 rfl ?_
      refine s_iln dX13_isMeant_112 rfl ?_
      refine s_iin (t := 120) (v5_2 = a3) dX13_isMeant_113 rfl rfl (fun hc => ?_) (fun hc => ?_)
      · replace F := F.1 hc
        refine s_ic dX13_isMeant_120 ki_0 ?_
        exact s_ri dX13_isMeant_121 rfl (nb_nar nb_0) F
      · replace F := F.2 hc
        refine s_ic dX13_isMeant_116 ki_1 ?_
        refine s_goto (t := 121) dX13_isMeant_117 rfl ?_
        exact s_ri dX13_isMeant_121 rfl (nb_nar nb_1) F
  replace F := F.2
  by_cases hs3 : (a2).toInt = 3
  · refine s_p (pc' := 86) dX13_isMeant_17 (fun lo => sw_at (k := 0) hs3 (eq_true (by decide)) rfl rfl) ?_
    replace F := F.1 hs3
    exact s_k (t_isMeant_86 hC  F) ⟨rfl, rfl, rfl, rfl, trivial⟩
  replace F := F.2
  by_cases hs4 : (a2).toInt = 4
  · refine s_p (pc' := 122) dX13_isMeant_17 (fun lo => sw_at (k := 0) hs4 (eq_true (by decide)) rfl rfl) ?_
    replace F := F.1 hs4
    refine s_il dX13_isMeant_122 rfl ?_
    refine s_ic dX13_isMeant_124 ki_3 ?_
    refine s_iin (t := 132) (v4_1 = (3 : Int32)) dX13_isMeant_125 rfl rfl (fun hc => ?_) (fun hc => ?_)
    · replace F := F.1 hc
      refine s_ic dX13_isMeant_132 ki_0 ?_
      exact s_ri dX13_isMeant_133 rfl (nb_nar nb_0) F
    · replace F := F.2 hc
      refine s_ic dX13_isMeant_128 ki_1 ?_
      refine s_goto (t := 133) dX13_isMeant_129 rfl ?_
      exact s_ri dX13_isMeant_133 rfl (nb_nar nb_1) F
  replace F := F.2
  by_cases hs5 : (a2).toInt = 5
  · refine s_p (pc' := 134) dX13_isMeant_17 (fun lo => sw_at (k := 0) hs5 (eq_true (by decide)) rfl rfl) ?_
    replace F := F.1 hs5
    refine s_il dX13_isMeant_134 rfl ?_
    refine s_in (t := 153) (v4_1 = 0) dX13_isMeant_136 rfl rfl (fun hc => ?_) (fun hc => ?_)
    · replace F := F.1 hc
      refine s_ic dX13_isMeant_153 ki_0 ?_
      exact s_ri dX13_isMeant_154 rfl (nb_nar nb_0) F
    · replace F := F.2 hc
      refine s_aln dX13_isMeant_139 rfl ?_
      refine gf_195 dX13_isMeant_140 rfl ?_
      refine s_il dX13_isMeant_143 rfl ?_
      refine s_zld hC dX13_isMeant_145 rt_95 F.1 ?_
      replace F := F.2
      refine s_in (t := 153) ((σ.2.2.1 95 (v5_2).toNatClampNeg) = 0) dX13_isMeant_146 rfl rfl (fun hc => ?_) (fun hc => ?_)
      · replace F := F.1 hc
        refine s_ic dX13_isMeant_153 ki_0 ?_
        exact s_ri dX13_isMeant_154 rfl (nb_nar nb_0) F
      · replace F := F.2 hc
        refine s_ic dX13_isMeant_149 ki_1 ?_
        refine s_goto (t := 154) dX13_isMeant_150 rfl ?_
        exact s_ri dX13_isMeant_154 rfl (nb_nar nb_1) F
  replace F := F.2
  have hs6 : (a2).toInt = 6 := by omega
  refine s_p (pc' := 155) dX13_isMeant_17 (fun lo => sw_at (k := 0) hs6 (eq_true (by decide)) rfl rfl) ?_
  replace F := F hs6
  refine s_il dX13_isMeant_155 rfl ?_
  refine s_ic dX13_isMeant_157 ki_1 ?_
  refine s_ii (t := 167) (v4_1 = (1 : Int32)) dX13_isMeant_158 rfl rfl (fun hc => ?_) (fun hc => ?_)
  · replace F := F.1 hc
    refine s_ic dX13_isMeant_167 ki_1 ?_
    refine s_goto (t := 172) dX13_isMeant_168 rfl ?_
    exact s_ri dX13_isMeant_172 rfl (nb_nar nb_1) F
  · replace F := F.2 hc
    refine s_il dX13_isMeant_161 rfl ?_
    refine s_ic dX13_isMeant_163 ki_2 ?_
    refine s_iin (t := 171) (v4_1 = (2 : Int32)) dX13_isMeant_164 rfl rfl (fun hc => ?_) (fun hc => ?_)
    · replace F := F.1 hc
      refine s_ic dX13_isMeant_171 ki_0 ?_
      exact s_ri dX13_isMeant_172 rfl (nb_nar nb_0) F
    · replace F := F.2 hc
      refine s_ic dX13_isMeant_167 ki_1 ?_
      refine s_goto (t := 172) dX13_isMeant_168 rfl ?_
      exact s_ri dX13_isMeant_172 rfl (nb_nar nb_1) F

theorem m_isMeant_run {C : rCx} (hC : cOK C) {Q : Int32 → rS → Prop} {a1 : Int32} {a2 : Int32} {a3 : Int32} {σ : rS} (F : w_isMeant_0 C Q a1 a2 a3 σ) : cI C 0 m_isMeant [.ref (co C), .int a1, .int a2, .int a3] σ Q := m_I (m_ent _ 2) (t_isMeant_0 hC F)

theorem dX13_isVisited_0 : decode cX13_isVisited 0 = .ok (.aload_n 0, 1) := by decide +kernel
theorem dX13_isVisited_1 : decode cX13_isVisited 1 = .ok (.getfield 195, 3) := by decide +kernel
theorem dX13_isVisited_4 : decode cX13_isVisited 4 = .ok (.iload_n 1, 1) := by decide +kernel
theorem dX13_isVisited_5 : decode cX13_isVisited 5 = .ok (.baload, 1) := by decide +kernel
theorem dX13_isVisited_6 : decode cX13_isVisited 6 = .ok (.ifCond .eq 19, 3) := by decide +kernel
theorem dX13_isVisited_9 : decode cX13_isVisited 9 = .ok (.aload_n 0, 1) := by decide +kernel
theorem dX13_isVisited_10 : decode cX13_isVisited 10 = .ok (.getfield 214, 3) := by decide +kernel
theorem dX13_isVisited_13 : decode cX13_isVisited 13 = .ok (.bipush 34, 2) := by decide +kernel
theorem dX13_isVisited_15 : decode cX13_isVisited 15 = .ok (.iload_n 1, 1) := by decide +kernel
theorem dX13_isVisited_16 : decode cX13_isVisited 16 = .ok (.imul, 1) := by decide +kernel
theorem dX13_isVisited_17 : decode cX13_isVisited 17 = .ok (.iaload, 1) := by decide +kernel
theorem dX13_isVisited_18 : decode cX13_isVisited 18 = .ok (.ifCond .le 7, 3) := by decide +kernel
theorem dX13_isVisited_21 : decode cX13_isVisited 21 = .ok (.iconst 1, 1) := by decide +kernel
theorem dX13_isVisited_22 : decode cX13_isVisited 22 = .ok (.goto 4, 3) := by decide +kernel
theorem dX13_isVisited_25 : decode cX13_isVisited 25 = .ok (.iconst 0, 1) := by decide +kernel
theorem dX13_isVisited_26 : decode cX13_isVisited 26 = .ok (.ireturn, 1) := by decide +kernel
def w_isVisited_0 (C : rCx) (Q : Int32 → rS → Prop)  (a1 : Int32) (σ : rS) : Prop :=
  inb a1 1000 ∧
  ((σ.2.2.1 95 (a1).toNatClampNeg) = 0 →
    Q (0 : Int32) σ) ∧
  (¬ ((σ.2.2.1 95 (a1).toNatClampNeg) = 0) →
    inb ((34 : Int32) * a1) 34000 ∧
    ((σ.2.2.1 102 (((34 : Int32) * a1)).toNatClampNeg) ≤ 0 →
      Q (0 : Int32) σ) ∧
    (¬ ((σ.2.2.1 102 (((34 : Int32) * a1)).toNatClampNeg) ≤ 0) →
      Q (1 : Int32) σ))
theorem t_isVisited_0 {C : rCx} (hC : cOK C) {Q : Int32 → rS → Prop}   {a1 : Int32} {σ : rS} (F : w_isVisited_0 C Q  a1 σ) : wG C 0 m_isVisited 0 [some (.ref (co C)), some (.int a1)] [] σ (qI Q) := by
  unfold w_isVisited_0 at F
  refine s_aln dX13_isVisited_0 rfl ?_
  refine gf_195 dX13_isVisited_1 rfl ?_
  refine s_iln dX13_isVisited_4 rfl ?_
  refine s_zld hC dX13_isVisited_5 rt_95 F.1 ?_
  replace F := F.2
  refine s_i (t := 25) ((σ.2.2.1 95 (a1).toNatClampNeg) = 0) dX13_isVisited_6 rfl rfl (fun hc => ?_) (fun hc => ?_)
  · replace F := F.1 hc
    refine s_ic dX13_isVisited_25 ki_0 ?_
    exact s_ri dX13_isVisited_26 rfl (nb_nar nb_0) F
  · replace F := F.2 hc
    refine s_aln dX13_isVisited_9 rfl ?_
    refine gf_214 dX13_isVisited_10 rfl ?_
    refine s_bi dX13_isVisited_13 kb_34 ?_
    refine s_iln dX13_isVisited_15 rfl ?_
    refine s_imul dX13_isVisited_16 ?_
    refine s_ald hC dX13_isVisited_17 rt_102 F.1 ?_
    replace F := F.2
    refine s_i (t := 25) ((σ.2.2.1 102 (((34 : Int32) * a1)).toNatClampNeg) ≤ 0) dX13_isVisited_18 rfl rfl (fun hc => ?_) (fun hc => ?_)
    · replace F := F.1 hc
      refine s_ic dX13_isVisited_25 ki_0 ?_
      exact s_ri dX13_isVisited_26 rfl (nb_nar nb_0) F
    · replace F := F.2 hc
      refine s_ic dX13_isVisited_21 ki_1 ?_
      refine s_goto (t := 26) dX13_isVisited_22 rfl ?_
      exact s_ri dX13_isVisited_26 rfl (nb_nar nb_1) F

theorem m_isVisited_run {C : rCx} (hC : cOK C) {Q : Int32 → rS → Prop} {a1 : Int32} {σ : rS} (F : w_isVisited_0 C Q a1 σ) : cI C 0 m_isVisited [.ref (co C), .int a1] σ Q := m_I (m_ent _ 0) (t_isVisited_0 hC F)

theorem dX13_addWeight_0 : decode cX13_addWeight 0 = .ok (.lload_n 3, 1) := by decide +kernel
theorem dX13_addWeight_1 : decode cX13_addWeight 1 = .ok (.lconst 0, 1) := by decide +kernel
theorem dX13_addWeight_2 : decode cX13_addWeight 2 = .ok (.lcmp, 1) := by decide +kernel
theorem dX13_addWeight_3 : decode cX13_addWeight 3 = .ok (.ifCond .eq 51, 3) := by decide +kernel
theorem dX13_addWeight_6 : decode cX13_addWeight 6 = .ok (.aload_n 0, 1) := by decide +kernel
theorem dX13_addWeight_7 : decode cX13_addWeight 7 = .ok (.iload_n 1, 1) := by decide +kernel
theorem dX13_addWeight_8 : decode cX13_addWeight 8 = .ok (.invokevirtual 737, 3) := by decide +kernel
theorem dX13_addWeight_11 : decode cX13_addWeight 11 = .ok (.aload_n 0, 1) := by decide +kernel
theorem dX13_addWeight_12 : decode cX13_addWeight 12 = .ok (.aload_n 0, 1) := by decide +kernel
theorem dX13_addWeight_13 : decode cX13_addWeight 13 = .ok (.iload_n 1, 1) := by decide +kernel
theorem dX13_addWeight_14 : decode cX13_addWeight 14 = .ok (.iload_n 2, 1) := by decide +kernel
theorem dX13_addWeight_15 : decode cX13_addWeight 15 = .ok (.invokevirtual 740, 3) := by decide +kernel
theorem dX13_addWeight_18 : decode cX13_addWeight 18 = .ok (.lload_n 3, 1) := by decide +kernel
theorem dX13_addWeight_19 : decode cX13_addWeight 19 = .ok (.lconst 0, 1) := by decide +kernel
theorem dX13_addWeight_20 : decode cX13_addWeight 20 = .ok (.lcmp, 1) := by decide +kernel
theorem dX13_addWeight_21 : decode cX13_addWeight 21 = .ok (.ifCond .ge 8, 3) := by decide +kernel
theorem dX13_addWeight_24 : decode cX13_addWeight 24 = .ok (.lload_n 3, 1) := by decide +kernel
theorem dX13_addWeight_25 : decode cX13_addWeight 25 = .ok (.lneg, 1) := by decide +kernel
theorem dX13_addWeight_26 : decode cX13_addWeight 26 = .ok (.goto 4, 3) := by decide +kernel
theorem dX13_addWeight_29 : decode cX13_addWeight 29 = .ok (.lload_n 3, 1) := by decide +kernel
theorem dX13_addWeight_30 : decode cX13_addWeight 30 = .ok (.lmul, 1) := by decide +kernel
theorem dX13_addWeight_31 : decode cX13_addWeight 31 = .ok (.aload_n 0, 1) := by decide +kernel
theorem dX13_addWeight_32 : decode cX13_addWeight 32 = .ok (.iload_n 1, 1) := by decide +kernel
theorem dX13_addWeight_33 : decode cX13_addWeight 33 = .ok (.invokevirtual 744, 3) := by decide +kernel
theorem dX13_addWeight_36 : decode cX13_addWeight 36 = .ok (.invokevirtual 748, 3) := by decide +kernel
theorem dX13_addWeight_39 : decode cX13_addWeight 39 = .ok (.aload_n 0, 1) := by decide +kernel
theorem dX13_addWeight_40 : decode cX13_addWeight 40 = .ok (.lload_n 3, 1) := by decide +kernel
theorem dX13_addWeight_41 : decode cX13_addWeight 41 = .ok (.lconst 0, 1) := by decide +kernel
theorem dX13_addWeight_42 : decode cX13_addWeight 42 = .ok (.lcmp, 1) := by decide +kernel
theorem dX13_addWeight_43 : decode cX13_addWeight 43 = .ok (.ifCond .ge 7, 3) := by decide +kernel
theorem dX13_addWeight_46 : decode cX13_addWeight 46 = .ok (.iconst (-1), 1) := by decide +kernel
theorem dX13_addWeight_47 : decode cX13_addWeight 47 = .ok (.goto 4, 3) := by decide +kernel
theorem dX13_addWeight_50 : decode cX13_addWeight 50 = .ok (.iconst 1, 1) := by decide +kernel
theorem dX13_addWeight_51 : decode cX13_addWeight 51 = .ok (.invokevirtual 727, 3) := by decide +kernel
theorem dX13_addWeight_54 : decode cX13_addWeight 54 = .ok (.return_, 1) := by decide +kernel
def w_addWeight_30 (C : rCx) (Q : rS → Prop)  (a1 : Int32) (a3 : Int64) (s1 : Int64) (s2 : Int64) (σ : rS) : Prop :=
  cJ C 0 m_totalOf [.ref (co C), .int a1] σ (fun r2 σ1 =>
    cV C 4 m_scale [.ref (co C), .long (s1 * s2), .long r2] σ1 (fun σ3 =>
      (0 ≤ (lg_cmp a3 (0 : Int64)) →
        cV C 4 m_add [.ref (co C), .int (1 : Int32)] σ3 (fun σ5 =>
          Q σ5)) ∧
      (¬ (0 ≤ (lg_cmp a3 (0 : Int64))) →
        cV C 4 m_add [.ref (co C), .int (-1 : Int32)] σ3 (fun σ7 =>
          Q σ7))))
theorem t_addWeight_30 {C : rCx} (hC : cOK C) {Q : rS → Prop}   {a1 : Int32} {a3 : Int64} {s1 : Int64} {s2 : Int64} {σ : rS} (F : w_addWeight_30 C Q  a1 a3 s1 s2 σ) : wG C 5 m_addWeight 30 [some (.ref (co C)), some (.int a1), none, some (.long a3), none] [.long s2, .long s1, .ref (co C)] σ (qV Q) := by
  unfold w_addWeight_30 at F
  refine s_lmul dX13_addWeight_30 ?_
  refine s_aln dX13_addWeight_31 rfl ?_
  refine s_iln dX13_addWeight_32 rfl ?_
  refine k_744 dX13_addWeight_33 rfl (Nat.le_of_ble_eq_true rfl) (Nat.le_of_ble_eq_true rfl) F (fun r2 σ1 F => ?_)
  refine k_748 dX13_addWeight_36 rfl (Nat.le_of_ble_eq_true rfl) (Nat.le_of_ble_eq_true rfl) F (fun σ3 F => ?_)
  refine s_aln dX13_addWeight_39 rfl ?_
  refine s_lln dX13_addWeight_40 rfl ?_
  refine s_lc dX13_addWeight_41 kl_0 ?_
  refine s_lcmp dX13_addWeight_42 ?_
  refine s_i (t := 50) (0 ≤ (lg_cmp a3 (0 : Int64))) dX13_addWeight_43 rfl rfl (fun hc => ?_) (fun hc => ?_)
  · replace F := F.1 hc
    refine s_ic dX13_addWeight_50 ki_1 ?_
    refine k_727 dX13_addWeight_51 rfl (Nat.le_of_ble_eq_true rfl) (Nat.le_of_ble_eq_true rfl) F (fun σ5 F => ?_)
    exact s_rv dX13_addWeight_54 rfl F
  · replace F := F.2 hc
    refine s_ic dX13_addWeight_46 ki_m1 ?_
    refine s_goto (t := 51) dX13_addWeight_47 rfl ?_
    refine k_727 dX13_addWeight_51 rfl (Nat.le_of_ble_eq_true rfl) (Nat.le_of_ble_eq_true rfl) F (fun σ7 F => ?_)
    exact s_rv dX13_addWeight_54 rfl F

def w_addWeight_0 (C : rCx) (Q : rS → Prop)  (a1 : Int32) (a2 : Int32) (a3 : Int64) (σ : rS) : Prop :=
  ((lg_cmp a3 (0 : Int64)) = 0 →
    Q σ) ∧
  (¬ ((lg_cmp a3 (0 : Int64)) = 0) →
    cV C 0 m_loadVisits [.ref (co C), .int a1] σ (fun σ1 =>
      cJ C 0 m_weightOf [.ref (co C), .int a1, .int a2] σ1 (fun r4 σ3 =>
        (0 ≤ (lg_cmp a3 (0 : Int64)) →
          w_addWeight_30 C Q  a1 a3 r4 a3 σ3) ∧
        (¬ (0 ≤ (lg_cmp a3 (0 : Int64))) →
          w_addWeight_30 C Q  a1 a3 r4 (-a3) σ3))))
theorem t_addWeight_0 {C : rCx} (hC : cOK C) {Q : rS → Prop}   {a1 : Int32} {a2 : Int32} {a3 : Int64} {σ : rS} (F : w_addWeight_0 C Q  a1 a2 a3 σ) : wG C 5 m_addWeight 0 [some (.ref (co C)), some (.int a1), some (.int a2), some (.long a3), none] [] σ (qV Q) := by
  unfold w_addWeight_0 at F
  refine s_lln dX13_addWeight_0 rfl ?_
  refine s_lc dX13_addWeight_1 kl_0 ?_
  refine s_lcmp dX13_addWeight_2 ?_
  refine s_i (t := 54) ((lg_cmp a3 (0 : Int64)) = 0) dX13_addWeight_3 rfl rfl (fun hc => ?_) (fun hc => ?_)
  · replace F := F.1 hc
    exact s_rv dX13_addWeight_54 rfl F
  · replace F := F.2 hc
    refine s_aln dX13_addWeight_6 rfl ?_
    refine s_iln dX13_addWeight_7 rfl ?_
    refine k_737 dX13_addWeight_8 rfl (Nat.le_of_ble_eq_true rfl) (Nat.le_of_ble_eq_true rfl) F (fun σ1 F => ?_)
    refine s_aln dX13_addWeight_11 rfl ?_
    refine s_aln dX13_addWeight_12 rfl ?_
    refine s_iln dX13_addWeight_13 rfl ?_
    refine s_iln dX13_addWeight_14 rfl ?_
    refine k_740 dX13_addWeight_15 rfl (Nat.le_of_ble_eq_true rfl) (Nat.le_of_ble_eq_true rfl) F (fun r4 σ3 F => ?_)
    refine s_lln dX13_addWeight_18 rfl ?_
    refine s_lc dX13_addWeight_19 kl_0 ?_
    refine s_lcmp dX13_addWeight_20 ?_
    refine s_i (t := 29) (0 ≤ (lg_cmp a3 (0 : Int64))) dX13_addWeight_21 rfl rfl (fun hc => ?_) (fun hc => ?_)
    · replace F := F.1 hc
      refine s_lln dX13_addWeight_29 rfl ?_
      exact s_k (t_addWeight_30 hC  F) ⟨rfl, rfl, rfl, trivial⟩
    · replace F := F.2 hc
      refine s_lln dX13_addWeight_24 rfl ?_
      refine s_lneg dX13_addWeight_25 ?_
      refine s_goto (t := 30) dX13_addWeight_26 rfl ?_
      exact s_k (t_addWeight_30 hC  F) ⟨rfl, rfl, rfl, trivial⟩

theorem m_addWeight_run {C : rCx} (hC : cOK C) {Q : rS → Prop} {a1 : Int32} {a2 : Int32} {a3 : Int64} {σ : rS} (F : w_addWeight_0 C Q a1 a2 a3 σ) : cV C 5 m_addWeight [.ref (co C), .int a1, .int a2, .long a3] σ Q := m_V (m_ent _ 0) (t_addWeight_0 hC F)

theorem dX13_sumWeights_0 : decode cX13_sumWeights 0 = .ok (.aload_n 0, 1) := by decide +kernel
theorem dX13_sumWeights_1 : decode cX13_sumWeights 1 = .ok (.invokevirtual 762, 3) := by decide +kernel
theorem dX13_sumWeights_4 : decode cX13_sumWeights 4 = .ok (.iconst 0, 1) := by decide +kernel
theorem dX13_sumWeights_5 : decode cX13_sumWeights 5 = .ok (.istore 4, 2) := by decide +kernel
theorem dX13_sumWeights_7 : decode cX13_sumWeights 7 = .ok (.iload 4, 2) := by decide +kernel
theorem dX13_sumWeights_9 : decode cX13_sumWeights 9 = .ok (.aload_n 0, 1) := by decide +kernel
theorem dX13_sumWeights_10 : decode cX13_sumWeights 10 = .ok (.getfield 542, 3) := by decide +kernel
theorem dX13_sumWeights_13 : decode cX13_sumWeights 13 = .ok (.if_icmp .ge 102, 3) := by decide +kernel
theorem dX13_sumWeights_16 : decode cX13_sumWeights 16 = .ok (.aload_n 0, 1) := by decide +kernel
theorem dX13_sumWeights_17 : decode cX13_sumWeights 17 = .ok (.getfield 151, 3) := by decide +kernel
theorem dX13_sumWeights_20 : decode cX13_sumWeights 20 = .ok (.iload 4, 2) := by decide +kernel
theorem dX13_sumWeights_22 : decode cX13_sumWeights 22 = .ok (.iaload, 1) := by decide +kernel
theorem dX13_sumWeights_23 : decode cX13_sumWeights 23 = .ok (.istore 5, 2) := by decide +kernel
theorem dX13_sumWeights_25 : decode cX13_sumWeights 25 = .ok (.aload_n 0, 1) := by decide +kernel
theorem dX13_sumWeights_26 : decode cX13_sumWeights 26 = .ok (.iload 4, 2) := by decide +kernel
theorem dX13_sumWeights_28 : decode cX13_sumWeights 28 = .ok (.invokevirtual 793, 3) := by decide +kernel
theorem dX13_sumWeights_31 : decode cX13_sumWeights 31 = .ok (.ifCond .eq 78, 3) := by decide +kernel
theorem dX13_sumWeights_34 : decode cX13_sumWeights 34 = .ok (.iload 5, 2) := by decide +kernel
theorem dX13_sumWeights_36 : decode cX13_sumWeights 36 = .ok (.aload_n 0, 1) := by decide +kernel
theorem dX13_sumWeights_37 : decode cX13_sumWeights 37 = .ok (.getfield 151, 3) := by decide +kernel
theorem dX13_sumWeights_40 : decode cX13_sumWeights 40 = .ok (.iload 4, 2) := by decide +kernel
theorem dX13_sumWeights_42 : decode cX13_sumWeights 42 = .ok (.iconst 1, 1) := by decide +kernel
theorem dX13_sumWeights_43 : decode cX13_sumWeights 43 = .ok (.iadd, 1) := by decide +kernel
theorem dX13_sumWeights_44 : decode cX13_sumWeights 44 = .ok (.iaload, 1) := by decide +kernel
theorem dX13_sumWeights_45 : decode cX13_sumWeights 45 = .ok (.if_icmp .ge 64, 3) := by decide +kernel
theorem dX13_sumWeights_48 : decode cX13_sumWeights 48 = .ok (.aload_n 0, 1) := by decide +kernel
theorem dX13_sumWeights_49 : decode cX13_sumWeights 49 = .ok (.iload 4, 2) := by decide +kernel
theorem dX13_sumWeights_51 : decode cX13_sumWeights 51 = .ok (.iload 5, 2) := by decide +kernel
theorem dX13_sumWeights_53 : decode cX13_sumWeights 53 = .ok (.iconst 1, 1) := by decide +kernel
theorem dX13_sumWeights_54 : decode cX13_sumWeights 54 = .ok (.invokevirtual 640, 3) := by decide +kernel
theorem dX13_sumWeights_57 : decode cX13_sumWeights 57 = .ok (.ifCond .eq 46, 3) := by decide +kernel
theorem dX13_sumWeights_60 : decode cX13_sumWeights 60 = .ok (.aload_n 0, 1) := by decide +kernel
theorem dX13_sumWeights_61 : decode cX13_sumWeights 61 = .ok (.iload 5, 2) := by decide +kernel
theorem dX13_sumWeights_63 : decode cX13_sumWeights 63 = .ok (.iload_n 1, 1) := by decide +kernel
theorem dX13_sumWeights_64 : decode cX13_sumWeights 64 = .ok (.iload_n 2, 1) := by decide +kernel
theorem dX13_sumWeights_65 : decode cX13_sumWeights 65 = .ok (.invokevirtual 796, 3) := by decide +kernel
theorem dX13_sumWeights_68 : decode cX13_sumWeights 68 = .ok (.ifCond .eq 35, 3) := by decide +kernel
theorem dX13_sumWeights_71 : decode cX13_sumWeights 71 = .ok (.aload_n 0, 1) := by decide +kernel
theorem dX13_sumWeights_72 : decode cX13_sumWeights 72 = .ok (.iload 4, 2) := by decide +kernel
theorem dX13_sumWeights_74 : decode cX13_sumWeights 74 = .ok (.iload 5, 2) := by decide +kernel
theorem dX13_sumWeights_76 : decode cX13_sumWeights 76 = .ok (.iload_n 3, 1) := by decide +kernel
theorem dX13_sumWeights_77 : decode cX13_sumWeights 77 = .ok (.ifCond .eq 22, 3) := by decide +kernel
theorem dX13_sumWeights_80 : decode cX13_sumWeights 80 = .ok (.aload_n 0, 1) := by decide +kernel
theorem dX13_sumWeights_81 : decode cX13_sumWeights 81 = .ok (.getfield 148, 3) := by decide +kernel
theorem dX13_sumWeights_84 : decode cX13_sumWeights 84 = .ok (.bipush 35, 2) := by decide +kernel
theorem dX13_sumWeights_86 : decode cX13_sumWeights 86 = .ok (.aload_n 0, 1) := by decide +kernel
theorem dX13_sumWeights_87 : decode cX13_sumWeights 87 = .ok (.getfield 157, 3) := by decide +kernel
theorem dX13_sumWeights_90 : decode cX13_sumWeights 90 = .ok (.iload 5, 2) := by decide +kernel
theorem dX13_sumWeights_92 : decode cX13_sumWeights 92 = .ok (.iaload, 1) := by decide +kernel
theorem dX13_sumWeights_93 : decode cX13_sumWeights 93 = .ok (.imul, 1) := by decide +kernel
theorem dX13_sumWeights_94 : decode cX13_sumWeights 94 = .ok (.iaload, 1) := by decide +kernel
theorem dX13_sumWeights_95 : decode cX13_sumWeights 95 = .ok (.i2l, 1) := by decide +kernel
theorem dX13_sumWeights_96 : decode cX13_sumWeights 96 = .ok (.goto 4, 3) := by decide +kernel
theorem dX13_sumWeights_99 : decode cX13_sumWeights 99 = .ok (.lconst 1, 1) := by decide +kernel
theorem dX13_sumWeights_100 : decode cX13_sumWeights 100 = .ok (.invokevirtual 799, 3) := by decide +kernel
theorem dX13_sumWeights_103 : decode cX13_sumWeights 103 = .ok (.iinc 5 1, 3) := by decide +kernel
theorem dX13_sumWeights_106 : decode cX13_sumWeights 106 = .ok (.goto (-81), 3) := by decide +kernel
theorem dX13_sumWeights_109 : decode cX13_sumWeights 109 = .ok (.iinc 4 1, 3) := by decide +kernel
theorem dX13_sumWeights_112 : decode cX13_sumWeights 112 = .ok (.goto (-105), 3) := by decide +kernel
theorem dX13_sumWeights_115 : decode cX13_sumWeights 115 = .ok (.aload_n 0, 1) := by decide +kernel
theorem dX13_sumWeights_116 : decode cX13_sumWeights 116 = .ok (.getfield 542, 3) := by decide +kernel
theorem dX13_sumWeights_119 : decode cX13_sumWeights 119 = .ok (.ifCond .ne 36, 3) := by decide +kernel
theorem dX13_sumWeights_122 : decode cX13_sumWeights 122 = .ok (.iload_n 1, 1) := by decide +kernel
theorem dX13_sumWeights_123 : decode cX13_sumWeights 123 = .ok (.ifCond .ne 13, 3) := by decide +kernel
theorem dX13_sumWeights_126 : decode cX13_sumWeights 126 = .ok (.aload_n 0, 1) := by decide +kernel
theorem dX13_sumWeights_127 : decode cX13_sumWeights 127 = .ok (.getfield 148, 3) := by decide +kernel
theorem dX13_sumWeights_130 : decode cX13_sumWeights 130 = .ok (.iconst 0, 1) := by decide +kernel
theorem dX13_sumWeights_131 : decode cX13_sumWeights 131 = .ok (.iaload, 1) := by decide +kernel
theorem dX13_sumWeights_132 : decode cX13_sumWeights 132 = .ok (.iload_n 2, 1) := by decide +kernel
theorem dX13_sumWeights_133 : decode cX13_sumWeights 133 = .ok (.if_icmp .eq 18, 3) := by decide +kernel
theorem dX13_sumWeights_136 : decode cX13_sumWeights 136 = .ok (.iload_n 1, 1) := by decide +kernel
theorem dX13_sumWeights_137 : decode cX13_sumWeights 137 = .ok (.iconst 2, 1) := by decide +kernel
theorem dX13_sumWeights_138 : decode cX13_sumWeights 138 = .ok (.if_icmp .ne 7, 3) := by decide +kernel
theorem dX13_sumWeights_141 : decode cX13_sumWeights 141 = .ok (.iload_n 2, 1) := by decide +kernel
theorem dX13_sumWeights_142 : decode cX13_sumWeights 142 = .ok (.ifCond .eq 9, 3) := by decide +kernel
theorem dX13_sumWeights_145 : decode cX13_sumWeights 145 = .ok (.iload_n 1, 1) := by decide +kernel
theorem dX13_sumWeights_146 : decode cX13_sumWeights 146 = .ok (.bipush 6, 2) := by decide +kernel
theorem dX13_sumWeights_148 : decode cX13_sumWeights 148 = .ok (.if_icmp .lt 7, 3) := by decide +kernel
theorem dX13_sumWeights_151 : decode cX13_sumWeights 151 = .ok (.iconst 1, 1) := by decide +kernel
theorem dX13_sumWeights_152 : decode cX13_sumWeights 152 = .ok (.goto 4, 3) := by decide +kernel
theorem dX13_sumWeights_155 : decode cX13_sumWeights 155 = .ok (.iconst 0, 1) := by decide +kernel
theorem dX13_sumWeights_156 : decode cX13_sumWeights 156 = .ok (.istore 4, 2) := by decide +kernel
theorem dX13_sumWeights_158 : decode cX13_sumWeights 158 = .ok (.iload 4, 2) := by decide +kernel
theorem dX13_sumWeights_160 : decode cX13_sumWeights 160 = .ok (.ifCond .eq 30, 3) := by decide +kernel
theorem dX13_sumWeights_163 : decode cX13_sumWeights 163 = .ok (.aload_n 0, 1) := by decide +kernel
theorem dX13_sumWeights_164 : decode cX13_sumWeights 164 = .ok (.bipush 6, 2) := by decide +kernel
theorem dX13_sumWeights_166 : decode cX13_sumWeights 166 = .ok (.iload_n 3, 1) := by decide +kernel
theorem dX13_sumWeights_167 : decode cX13_sumWeights 167 = .ok (.ifCond .eq 7, 3) := by decide +kernel
theorem dX13_sumWeights_170 : decode cX13_sumWeights 170 = .ok (.lconst 0, 1) := by decide +kernel
theorem dX13_sumWeights_171 : decode cX13_sumWeights 171 = .ok (.goto 4, 3) := by decide +kernel
theorem dX13_sumWeights_174 : decode cX13_sumWeights 174 = .ok (.lconst 1, 1) := by decide +kernel
theorem dX13_sumWeights_175 : decode cX13_sumWeights 175 = .ok (.invokevirtual 699, 3) := by decide +kernel
theorem dX13_sumWeights_178 : decode cX13_sumWeights 178 = .ok (.aload_n 0, 1) := by decide +kernel
theorem dX13_sumWeights_179 : decode cX13_sumWeights 179 = .ok (.bipush 7, 2) := by decide +kernel
theorem dX13_sumWeights_181 : decode cX13_sumWeights 181 = .ok (.lconst 1, 1) := by decide +kernel
theorem dX13_sumWeights_182 : decode cX13_sumWeights 182 = .ok (.invokevirtual 699, 3) := by decide +kernel
theorem dX13_sumWeights_185 : decode cX13_sumWeights 185 = .ok (.aload_n 0, 1) := by decide +kernel
theorem dX13_sumWeights_186 : decode cX13_sumWeights 186 = .ok (.iconst 1, 1) := by decide +kernel
theorem dX13_sumWeights_187 : decode cX13_sumWeights 187 = .ok (.invokevirtual 727, 3) := by decide +kernel
theorem dX13_sumWeights_190 : decode cX13_sumWeights 190 = .ok (.iload_n 1, 1) := by decide +kernel
theorem dX13_sumWeights_191 : decode cX13_sumWeights 191 = .ok (.iconst 5, 1) := by decide +kernel
theorem dX13_sumWeights_192 : decode cX13_sumWeights 192 = .ok (.if_icmp .ne 38, 3) := by decide +kernel
theorem dX13_sumWeights_195 : decode cX13_sumWeights 195 = .ok (.aload_n 0, 1) := by decide +kernel
theorem dX13_sumWeights_196 : decode cX13_sumWeights 196 = .ok (.getfield 542, 3) := by decide +kernel
theorem dX13_sumWeights_199 : decode cX13_sumWeights 199 = .ok (.ifCond .le 31, 3) := by decide +kernel
theorem dX13_sumWeights_202 : decode cX13_sumWeights 202 = .ok (.aload_n 0, 1) := by decide +kernel
theorem dX13_sumWeights_203 : decode cX13_sumWeights 203 = .ok (.getfield 195, 3) := by decide +kernel
theorem dX13_sumWeights_206 : decode cX13_sumWeights 206 = .ok (.iconst 0, 1) := by decide +kernel
theorem dX13_sumWeights_207 : decode cX13_sumWeights 207 = .ok (.baload, 1) := by decide +kernel
theorem dX13_sumWeights_208 : decode cX13_sumWeights 208 = .ok (.ifCond .ne 22, 3) := by decide +kernel
theorem dX13_sumWeights_211 : decode cX13_sumWeights 211 = .ok (.aload_n 0, 1) := by decide +kernel
theorem dX13_sumWeights_212 : decode cX13_sumWeights 212 = .ok (.bipush 6, 2) := by decide +kernel
theorem dX13_sumWeights_214 : decode cX13_sumWeights 214 = .ok (.lconst 1, 1) := by decide +kernel
theorem dX13_sumWeights_215 : decode cX13_sumWeights 215 = .ok (.invokevirtual 699, 3) := by decide +kernel
theorem dX13_sumWeights_218 : decode cX13_sumWeights 218 = .ok (.aload_n 0, 1) := by decide +kernel
theorem dX13_sumWeights_219 : decode cX13_sumWeights 219 = .ok (.bipush 7, 2) := by decide +kernel
theorem dX13_sumWeights_221 : decode cX13_sumWeights 221 = .ok (.lconst 1, 1) := by decide +kernel
theorem dX13_sumWeights_222 : decode cX13_sumWeights 222 = .ok (.invokevirtual 699, 3) := by decide +kernel
theorem dX13_sumWeights_225 : decode cX13_sumWeights 225 = .ok (.aload_n 0, 1) := by decide +kernel
theorem dX13_sumWeights_226 : decode cX13_sumWeights 226 = .ok (.iconst 1, 1) := by decide +kernel
theorem dX13_sumWeights_227 : decode cX13_sumWeights 227 = .ok (.invokevirtual 727, 3) := by decide +kernel
theorem dX13_sumWeights_230 : decode cX13_sumWeights 230 = .ok (.return_, 1) := by decide +kernel
def w_sumWeights_25 (C : rCx) (Q : rS → Prop) (B7 : Int32 → Int32 → Int32 → Int32 → rS → Prop) (a1 : Int32) (a2 : Int32) (a3 : Int32) (a4 : Int32) (a5 : Int32) (σ : rS) : Prop :=
  ∃ I : Nat → Int32 → Int32 → Int32 → Int32 → Int32 → rS → Prop, (∃ n, I n a1 a2 a3 a4 a5 σ) ∧ ∀ n a1 a2 a3 a4 a5 σ, I n a1 a2 a3 a4 a5 σ →
    cI C 0 m_isVisited [.ref (co C), .int a4] σ (fun r2 σ1 =>
      (r2 = 0 →
        ∀ v4_3 : Int32, v4_3 = a4 + (1 : Int32) →
        B7 a1 a2 a3 v4_3 σ1) ∧
      (¬ (r2 = 0) →
        inb (a4 + (1 : Int32)) 1001 ∧
        ((σ1.2.2.1 76 ((a4 + (1 : Int32))).toNatClampNeg) ≤ a5 →
          ∀ v4_4 : Int32, v4_4 = a4 + (1 : Int32) →
          B7 a1 a2 a3 v4_4 σ1) ∧
        (¬ ((σ1.2.2.1 76 ((a4 + (1 : Int32))).toNatClampNeg) ≤ a5) →
          cI C 0 m_isTaken [.ref (co C), .int a4, .int a5, .int (1 : Int32)] σ1 (fun r6 σ5 =>
            (r6 = 0 →
              ∀ v5_7 : Int32, v5_7 = a5 + (1 : Int32) →
              ∃ k < n, I k a1 a2 a3 a4 v5_7 σ5) ∧
            (¬ (r6 = 0) →
              cI C 0 m_isMeant [.ref (co C), .int a5, .int a1, .int a2] σ5 (fun r9 σ8 =>
                (r9 = 0 →
                  ∀ v5_10 : Int32, v5_10 = a5 + (1 : Int32) →
                  ∃ k < n, I k a1 a2 a3 a4 v5_10 σ8) ∧
                (¬ (r9 = 0) →
                  (a3 = 0 →
                    cV C 5 m_addWeight [.ref (co C), .int a4, .int a5, .long (1 : Int64)] σ8 (fun σ11 =>
                      ∀ v5_13 : Int32, v5_13 = a5 + (1 : Int32) →
                      ∃ k < n, I k a1 a2 a3 a4 v5_13 σ11)) ∧
                  (¬ (a3 = 0) →
                    inb a5 20000 ∧
                    inb ((35 : Int32) * (σ8.2.2.1 78 (a5).toNatClampNeg)) 35000 ∧
                    cV C 5 m_addWeight [.ref (co C), .int a4, .int a5, .long ((σ8.2.2.1 75 (((35 : Int32) * (σ8.2.2.1 78 (a5).toNatClampNeg))).toNatClampNeg)).toInt64] σ8 (fun σ14 =>
                      ∀ v5_16 : Int32, v5_16 = a5 + (1 : Int32) →
                      ∃ k < n, I k a1 a2 a3 a4 v5_16 σ14)))))))))
theorem t_sumWeights_25 {C : rCx} (hC : cOK C) {Q : rS → Prop} {B7 : Int32 → Int32 → Int32 → Int32 → rS → Prop} (hB7 : ∀ a1' a2' a3' a4' τ, B7 a1' a2' a3' a4' τ → wG C 6 m_sumWeights 7 [some (.ref (co C)), some (.int a1'), some (.int a2'), some (.int a3'), some (.int a4'), none] [] τ (qV Q)) {a1 : Int32} {a2 : Int32} {a3 : Int32} {a4 : Int32} {a5 : Int32} {σ : rS} (F : w_sumWeights_25 C Q B7 a1 a2 a3 a4 a5 σ) : wG C 6 m_sumWeights 25 [some (.ref (co C)), some (.int a1), some (.int a2), some (.int a3), some (.int a4), some (.int a5)] [] σ (qV Q) := by
  obtain ⟨I, ⟨n0, hI0⟩, F0⟩ := F
  have key : ∀ n a1 a2 a3 a4 a5 σ, I n a1 a2 a3 a4 a5 σ → wG C 6 m_sumWeights 25 [some (.ref (co C)), some (.int a1), some (.int a2), some (.int a3), some (.int a4), some (.int a5)] [] σ (qV Q) := by
    intro n
    induction n using Nat.strongRecOn with
    | _ n ih =>
      intro a1 a2 a3 a4 a5 σ hI
      have F := F0 n a1 a2 a3 a4 a5 σ hI
      clear hI hI0
      refine s_aln dX13_sumWeights_25 rfl ?_
      refine s_il dX13_sumWeights_26 rfl ?_
      refine k_793 dX13_sumWeights_28 rfl (Nat.le_of_ble_eq_true rfl) (Nat.le_of_ble_eq_true rfl) F (fun r2 σ1 F => ?_)
      refine s_i (t := 109) (r2 = 0) dX13_sumWeights_31 rfl rfl (fun hc => ?_) (fun hc => ?_)
      · replace F := F.1 hc
        refine s_incb dX13_sumWeights_109 ki_1 rfl (Nat.le_of_ble_eq_true rfl) (fun v4_3 ev4_3 => ?_)
        replace F := F v4_3 ev4_3
        show wG _ _ _ _ [some (.ref (co C)), some (.int a1), some (.int a2), some (.int a3), some (.int v4_3), some (.int a5)] _ _ _
        refine s_goto (t := 7) dX13_sumWeights_112 rfl ?_
        exact s_k (hB7 _ _ _ _ _ F) ⟨rfl, rfl, rfl, rfl, rfl, trivial⟩
      · replace F := F.2 hc
        refine s_il dX13_sumWeights_34 rfl ?_
        refine s_aln dX13_sumWeights_36 rfl ?_
        refine gf_151 dX13_sumWeights_37 rfl ?_
        refine s_il dX13_sumWeights_40 rfl ?_
        refine s_ic dX13_sumWeights_42 ki_1 ?_
        refine s_iadd dX13_sumWeights_43 ?_
        refine s_ald hC dX13_sumWeights_44 rt_76 F.1 ?_
        replace F := F.2
        refine s_ii (t := 109) ((σ1.2.2.1 76 ((a4 + (1 : Int32))).toNatClampNeg) ≤ a5) dX13_sumWeights_45 rfl rfl (fun hc => ?_) (fun hc => ?_)
        · replace F := F.1 hc
          refine s_incb dX13_sumWeights_109 ki_1 rfl (Nat.le_of_ble_eq_true rfl) (fun v4_4 ev4_4 => ?_)
          replace F := F v4_4 ev4_4
          show wG _ _ _ _ [some (.ref (co C)), some (.int a1), some (.int a2), some (.int a3), some (.int v4_4), some (.int a5)] _ _ _
          refine s_goto (t := 7) dX13_sumWeights_112 rfl ?_
          exact s_k (hB7 _ _ _ _ _ F) ⟨rfl, rfl, rfl, rfl, rfl, trivial⟩
        · replace F := F.2 hc
          refine s_aln dX13_sumWeights_48 rfl ?_
          refine s_il dX13_sumWeights_49 rfl ?_
          refine s_il dX13_sumWeights_51 rfl ?_
          refine s_ic dX13_sumWeights_53 ki_1 ?_
          refine k_640 dX13_sumWeights_54 rfl (Nat.le_of_ble_eq_true rfl) (Nat.le_of_ble_eq_true rfl) F (fun r6 σ5 F => ?_)
          refine s_i (t := 103) (r6 = 0) dX13_sumWeights_57 rfl rfl (fun hc => ?_) (fun hc => ?_)
          · replace F := F.1 hc
            refine s_incb dX13_sumWeights_103 ki_1 rfl (Nat.le_of_ble_eq_true rfl) (fun v5_7 ev5_7 => ?_)
            replace F := F v5_7 ev5_7
            show wG _ _ _ _ [some (.ref (co C)), some (.int a1), some (.int a2), some (.int a3), some (.int a4), some (.int v5_7)] _ _ _
            refine s_goto (t := 25) dX13_sumWeights_106 rfl ?_
            obtain ⟨k, hk, hI⟩ := F
            exact s_k (ih k hk _ _ _ _ _ _ hI) ⟨rfl, rfl, rfl, rfl, rfl, rfl, trivial⟩
          · replace F := F.2 hc
            refine s_aln dX13_sumWeights_60 rfl ?_
            refine s_il dX13_sumWeights_61 rfl ?_
            refine s_iln dX13_sumWeights_63 rfl ?_
            refine s_iln dX13_sumWeights_64 rfl ?_
            refine k_796 dX13_sumWeights_65 rfl (Nat.le_of_ble_eq_true rfl) (Nat.le_of_ble_eq_true rfl) F (fun r9 σ8 F => ?_)
            refine s_i (t := 103) (r9 = 0) dX13_sumWeights_68 rfl rfl (fun hc => ?_) (fun hc => ?_)
            · replace F := F.1 hc
              refine s_incb dX13_sumWeights_103 ki_1 rfl (Nat.le_of_ble_eq_true rfl) (fun v5_10 ev5_10 => ?_)
              replace F := F v5_10 ev5_10
              show wG _ _ _ _ [some (.ref (co C)), some (.int a1), some (.int a2), some (.int a3), some (.int a4), some (.int v5_10)] _ _ _
              refine s_goto (t := 25) dX13_sumWeights_106 rfl ?_
              obtain ⟨k, hk, hI⟩ := F
              exact s_k (ih k hk _ _ _ _ _ _ hI) ⟨rfl, rfl, rfl, rfl, rfl, rfl, trivial⟩
            · replace F := F.2 hc
              refine s_aln dX13_sumWeights_71 rfl ?_
              refine s_il dX13_sumWeights_72 rfl ?_
              refine s_il dX13_sumWeights_74 rfl ?_
              refine s_iln dX13_sumWeights_76 rfl ?_
              refine s_i (t := 99) (a3 = 0) dX13_sumWeights_77 rfl rfl (fun hc => ?_) (fun hc => ?_)
              · replace F := F.1 hc
                refine s_lc dX13_sumWeights_99 kl_1 ?_
                refine k_799 dX13_sumWeights_100 rfl (Nat.le_of_ble_eq_true rfl) (Nat.le_of_ble_eq_true rfl) F (fun σ11 F => ?_)
                refine s_incb dX13_sumWeights_103 ki_1 rfl (Nat.le_of_ble_eq_true rfl) (fun v5_13 ev5_13 => ?_)
                replace F := F v5_13 ev5_13
                show wG _ _ _ _ [some (.ref (co C)), some (.int a1), some (.int a2), some (.int a3), some (.int a4), some (.int v5_13)] _ _ _
                refine s_goto (t := 25) dX13_sumWeights_106 rfl ?_
                obtain ⟨k, hk, hI⟩ := F
                exact s_k (ih k hk _ _ _ _ _ _ hI) ⟨rfl, rfl, rfl, rfl, rfl, rfl, trivial⟩
              · replace F := F.2 hc
                refine s_aln dX13_sumWeights_80 rfl ?_
                refine gf_148 dX13_sumWeights_81 rfl ?_
                refine s_bi dX13_sumWeights_84 kb_35 ?_
                refine s_aln dX13_sumWeights_86 rfl ?_
                refine gf_157 dX13_sumWeights_87 rfl ?_
                refine s_il dX13_sumWeights_90 rfl ?_
                refine s_ald hC dX13_sumWeights_92 rt_78 F.1 ?_
                replace F := F.2
                refine s_imul dX13_sumWeights_93 ?_
                refine s_ald hC dX13_sumWeights_94 rt_75 F.1 ?_
                replace F := F.2
                refine s_i2l dX13_sumWeights_95 ?_
                refine s_goto (t := 100) dX13_sumWeights_96 rfl ?_
                refine k_799 dX13_sumWeights_100 rfl (Nat.le_of_ble_eq_true rfl) (Nat.le_of_ble_eq_true rfl) F (fun σ14 F => ?_)
                refine s_incb dX13_sumWeights_103 ki_1 rfl (Nat.le_of_ble_eq_true rfl) (fun v5_16 ev5_16 => ?_)
                replace F := F v5_16 ev5_16
                show wG _ _ _ _ [some (.ref (co C)), some (.int a1), some (.int a2), some (.int a3), some (.int a4), some (.int v5_16)] _ _ _
                refine s_goto (t := 25) dX13_sumWeights_106 rfl ?_
                obtain ⟨k, hk, hI⟩ := F
                exact s_k (ih k hk _ _ _ _ _ _ hI) ⟨rfl, rfl, rfl, rfl, rfl, rfl, trivial⟩
  exact key n0 a1 a2 a3 a4 a5 σ hI0

def w_sumWeights_190 (C : rCx) (Q : rS → Prop)  (a1 : Int32) (σ : rS) : Prop :=
  (¬ (a1 = (5 : Int32)) →
    Q σ) ∧
  (a1 = (5 : Int32) →
    ((σ.1 70) ≤ 0 →
      Q σ) ∧
    (¬ ((σ.1 70) ≤ 0) →
      inb (0 : Int32) 1000 ∧
      (¬ ((σ.2.2.1 95 ((0 : Int32)).toNatClampNeg) = 0) →
        Q σ) ∧
      ((σ.2.2.1 95 ((0 : Int32)).toNatClampNeg) = 0 →
        cV C 0 m_set [.ref (co C), .int (6 : Int32), .long (1 : Int64)] σ (fun σ1 =>
          cV C 0 m_set [.ref (co C), .int (7 : Int32), .long (1 : Int64)] σ1 (fun σ3 =>
            cV C 4 m_add [.ref (co C), .int (1 : Int32)] σ3 (fun σ5 =>
              Q σ5))))))
theorem t_sumWeights_190 {C : rCx} (hC : cOK C) {Q : rS → Prop}   {a1 : Int32} {σ : rS} (F : w_sumWeights_190 C Q  a1 σ) : wG C 6 m_sumWeights 190 [some (.ref (co C)), some (.int a1), none, none, none, none] [] σ (qV Q) := by
  unfold w_sumWeights_190 at F
  refine s_iln dX13_sumWeights_190 rfl ?_
  refine s_ic dX13_sumWeights_191 ki_5 ?_
  refine s_iin (t := 230) (a1 = (5 : Int32)) dX13_sumWeights_192 rfl rfl (fun hc => ?_) (fun hc => ?_)
  · replace F := F.1 hc
    exact s_rv dX13_sumWeights_230 rfl F
  · replace F := F.2 hc
    refine s_aln dX13_sumWeights_195 rfl ?_
    refine gf_542 dX13_sumWeights_196 rfl ?_
    refine s_i (t := 230) ((σ.1 70) ≤ 0) dX13_sumWeights_199 rfl rfl (fun hc => ?_) (fun hc => ?_)
    · replace F := F.1 hc
      exact s_rv dX13_sumWeights_230 rfl F
    · replace F := F.2 hc
      refine s_aln dX13_sumWeights_202 rfl ?_
      refine gf_195 dX13_sumWeights_203 rfl ?_
      refine s_ic dX13_sumWeights_206 ki_0 ?_
      refine s_zld hC dX13_sumWeights_207 rt_95 F.1 ?_
      replace F := F.2
      refine s_in (t := 230) ((σ.2.2.1 95 ((0 : Int32)).toNatClampNeg) = 0) dX13_sumWeights_208 rfl rfl (fun hc => ?_) (fun hc => ?_)
      · replace F := F.1 hc
        exact s_rv dX13_sumWeights_230 rfl F
      · replace F := F.2 hc
        refine s_aln dX13_sumWeights_211 rfl ?_
        refine s_bi dX13_sumWeights_212 kb_6 ?_
        refine s_lc dX13_sumWeights_214 kl_1 ?_
        refine k_699 dX13_sumWeights_215 rfl (Nat.le_of_ble_eq_true rfl) (Nat.le_of_ble_eq_true rfl) F (fun σ1 F => ?_)
        refine s_aln dX13_sumWeights_218 rfl ?_
        refine s_bi dX13_sumWeights_219 kb_7 ?_
        refine s_lc dX13_sumWeights_221 kl_1 ?_
        refine k_699 dX13_sumWeights_222 rfl (Nat.le_of_ble_eq_true rfl) (Nat.le_of_ble_eq_true rfl) F (fun σ3 F => ?_)
        refine s_aln dX13_sumWeights_225 rfl ?_
        refine s_ic dX13_sumWeights_226 ki_1 ?_
        refine k_727 dX13_sumWeights_227 rfl (Nat.le_of_ble_eq_true rfl) (Nat.le_of_ble_eq_true rfl) F (fun σ5 F => ?_)
        exact s_rv dX13_sumWeights_230 rfl F

def w_sumWeights_175 (C : rCx) (Q : rS → Prop)  (a1 : Int32) (s1 : Int32) (s2 : Int64) (σ : rS) : Prop :=
  cV C 0 m_set [.ref (co C), .int s1, .long s2] σ (fun σ1 =>
    cV C 0 m_set [.ref (co C), .int (7 : Int32), .long (1 : Int64)] σ1 (fun σ3 =>
      cV C 4 m_add [.ref (co C), .int (1 : Int32)] σ3 (fun σ5 =>
        w_sumWeights_190 C Q  a1 σ5)))
theorem t_sumWeights_175 {C : rCx} (hC : cOK C) {Q : rS → Prop}   {a1 : Int32} {s1 : Int32} {s2 : Int64} {σ : rS} (F : w_sumWeights_175 C Q  a1 s1 s2 σ) : wG C 6 m_sumWeights 175 [some (.ref (co C)), some (.int a1), none, none, none, none] [.long s2, .int s1, .ref (co C)] σ (qV Q) := by
  unfold w_sumWeights_175 at F
  refine k_699 dX13_sumWeights_175 rfl (Nat.le_of_ble_eq_true rfl) (Nat.le_of_ble_eq_true rfl) F (fun σ1 F => ?_)
  refine s_aln dX13_sumWeights_178 rfl ?_
  refine s_bi dX13_sumWeights_179 kb_7 ?_
  refine s_lc dX13_sumWeights_181 kl_1 ?_
  refine k_699 dX13_sumWeights_182 rfl (Nat.le_of_ble_eq_true rfl) (Nat.le_of_ble_eq_true rfl) F (fun σ3 F => ?_)
  refine s_aln dX13_sumWeights_185 rfl ?_
  refine s_ic dX13_sumWeights_186 ki_1 ?_
  refine k_727 dX13_sumWeights_187 rfl (Nat.le_of_ble_eq_true rfl) (Nat.le_of_ble_eq_true rfl) F (fun σ5 F => ?_)
  exact s_k (t_sumWeights_190 hC  F) ⟨rfl, rfl, trivial⟩

def w_sumWeights_156 (C : rCx) (Q : rS → Prop)  (a1 : Int32) (a3 : Int32) (s0 : Int32) (σ : rS) : Prop :=
  (s0 = 0 →
    w_sumWeights_190 C Q  a1 σ) ∧
  (¬ (s0 = 0) →
    (a3 = 0 →
      w_sumWeights_175 C Q  a1 (6 : Int32) (1 : Int64) σ) ∧
    (¬ (a3 = 0) →
      w_sumWeights_175 C Q  a1 (6 : Int32) (0 : Int64) σ))
theorem t_sumWeights_156 {C : rCx} (hC : cOK C) {Q : rS → Prop}   {a1 : Int32} {a3 : Int32} {s0 : Int32} {σ : rS} (F : w_sumWeights_156 C Q  a1 a3 s0 σ) : wG C 6 m_sumWeights 156 [some (.ref (co C)), some (.int a1), none, some (.int a3), none, none] [.int s0] σ (qV Q) := by
  unfold w_sumWeights_156 at F
  refine s_is dX13_sumWeights_156 (Nat.le_of_ble_eq_true rfl) rfl ?_
  show wG _ _ _ _ [some (.ref (co C)), some (.int a1), none, some (.int a3), some (.int s0), none] _ _ _
  refine s_il dX13_sumWeights_158 rfl ?_
  refine s_i (t := 190) (s0 = 0) dX13_sumWeights_160 rfl rfl (fun hc => ?_) (fun hc => ?_)
  · replace F := F.1 hc
    exact s_k (t_sumWeights_190 hC  F) ⟨rfl, rfl, trivial⟩
  · replace F := F.2 hc
    refine s_aln dX13_sumWeights_163 rfl ?_
    refine s_bi dX13_sumWeights_164 kb_6 ?_
    refine s_iln dX13_sumWeights_166 rfl ?_
    refine s_i (t := 174) (a3 = 0) dX13_sumWeights_167 rfl rfl (fun hc => ?_) (fun hc => ?_)
    · replace F := F.1 hc
      refine s_lc dX13_sumWeights_174 kl_1 ?_
      exact s_k (t_sumWeights_175 hC  F) ⟨rfl, rfl, trivial⟩
    · replace F := F.2 hc
      refine s_lc dX13_sumWeights_170 kl_0 ?_
      refine s_goto (t := 175) dX13_sumWeights_171 rfl ?_
      exact s_k (t_sumWeights_175 hC  F) ⟨rfl, rfl, trivial⟩

def w_sumWeights_145 (C : rCx) (Q : rS → Prop)  (a1 : Int32) (a3 : Int32) (σ : rS) : Prop :=
  (a1 < (6 : Int32) →
    w_sumWeights_156 C Q  a1 a3 (0 : Int32) σ) ∧
  (¬ (a1 < (6 : Int32)) →
    w_sumWeights_156 C Q  a1 a3 (1 : Int32) σ)
theorem t_sumWeights_145 {C : rCx} (hC : cOK C) {Q : rS → Prop}   {a1 : Int32} {a3 : Int32} {σ : rS} (F : w_sumWeights_145 C Q  a1 a3 σ) : wG C 6 m_sumWeights 145 [some (.ref (co C)), some (.int a1), none, some (.int a3), none, none] [] σ (qV Q) := by
  unfold w_sumWeights_145 at F
  refine s_iln dX13_sumWeights_145 rfl ?_
  refine s_bi dX13_sumWeights_146 kb_6 ?_
  refine s_ii (t := 155) (a1 < (6 : Int32)) dX13_sumWeights_148 rfl rfl (fun hc => ?_) (fun hc => ?_)
  · replace F := F.1 hc
    refine s_ic dX13_sumWeights_155 ki_0 ?_
    exact s_k (t_sumWeights_156 hC  F) ⟨rfl, rfl, rfl, trivial⟩
  · replace F := F.2 hc
    refine s_ic dX13_sumWeights_151 ki_1 ?_
    refine s_goto (t := 156) dX13_sumWeights_152 rfl ?_
    exact s_k (t_sumWeights_156 hC  F) ⟨rfl, rfl, rfl, trivial⟩

def w_sumWeights_136 (C : rCx) (Q : rS → Prop)  (a1 : Int32) (a2 : Int32) (a3 : Int32) (σ : rS) : Prop :=
  (¬ (a1 = (2 : Int32)) →
    w_sumWeights_145 C Q  a1 a3 σ) ∧
  (a1 = (2 : Int32) →
    (a2 = 0 →
      w_sumWeights_156 C Q  a1 a3 (1 : Int32) σ) ∧
    (¬ (a2 = 0) →
      w_sumWeights_145 C Q  a1 a3 σ))
theorem t_sumWeights_136 {C : rCx} (hC : cOK C) {Q : rS → Prop}   {a1 : Int32} {a2 : Int32} {a3 : Int32} {σ : rS} (F : w_sumWeights_136 C Q  a1 a2 a3 σ) : wG C 6 m_sumWeights 136 [some (.ref (co C)), some (.int a1), some (.int a2), some (.int a3), none, none] [] σ (qV Q) := by
  unfold w_sumWeights_136 at F
  refine s_iln dX13_sumWeights_136 rfl ?_
  refine s_ic dX13_sumWeights_137 ki_2 ?_
  refine s_iin (t := 145) (a1 = (2 : Int32)) dX13_sumWeights_138 rfl rfl (fun hc => ?_) (fun hc => ?_)
  · replace F := F.1 hc
    exact s_k (t_sumWeights_145 hC  F) ⟨rfl, rfl, rfl, trivial⟩
  · replace F := F.2 hc
    refine s_iln dX13_sumWeights_141 rfl ?_
    refine s_i (t := 151) (a2 = 0) dX13_sumWeights_142 rfl rfl (fun hc => ?_) (fun hc => ?_)
    · replace F := F.1 hc
      refine s_ic dX13_sumWeights_151 ki_1 ?_
      refine s_goto (t := 156) dX13_sumWeights_152 rfl ?_
      exact s_k (t_sumWeights_156 hC  F) ⟨rfl, rfl, rfl, trivial⟩
    · replace F := F.2 hc
      exact s_k (t_sumWeights_145 hC  F) ⟨rfl, rfl, rfl, trivial⟩

def w_sumWeights_7 (C : rCx) (Q : rS → Prop)  (a1 : Int32) (a2 : Int32) (a3 : Int32) (a4 : Int32) (σ : rS) : Prop :=
  ∃ I : Nat → Int32 → Int32 → Int32 → Int32 → rS → Prop, (∃ n, I n a1 a2 a3 a4 σ) ∧ ∀ n a1 a2 a3 a4 σ, I n a1 a2 a3 a4 σ →
    ((σ.1 70) ≤ a4 →
      (¬ ((σ.1 70) = 0) →
        w_sumWeights_156 C Q  a1 a3 (0 : Int32) σ) ∧
      ((σ.1 70) = 0 →
        (¬ (a1 = 0) →
          w_sumWeights_136 C Q  a1 a2 a3 σ) ∧
        (a1 = 0 →
          inb (0 : Int32) 35000 ∧
          ((σ.2.2.1 75 ((0 : Int32)).toNatClampNeg) = a2 →
            w_sumWeights_156 C Q  a1 a3 (1 : Int32) σ) ∧
          (¬ ((σ.2.2.1 75 ((0 : Int32)).toNatClampNeg) = a2) →
            w_sumWeights_136 C Q  a1 a2 a3 σ)))) ∧
    (¬ ((σ.1 70) ≤ a4) →
      inb a4 1001 ∧
      ∀ v5_1 : Int32, v5_1 = (σ.2.2.1 76 (a4).toNatClampNeg) →
      w_sumWeights_25 C Q (fun a1' a2' a3' a4' τ => ∃ k < n, I k a1' a2' a3' a4' τ) a1 a2 a3 a4 v5_1 σ)
theorem t_sumWeights_7 {C : rCx} (hC : cOK C) {Q : rS → Prop}   {a1 : Int32} {a2 : Int32} {a3 : Int32} {a4 : Int32} {σ : rS} (F : w_sumWeights_7 C Q  a1 a2 a3 a4 σ) : wG C 6 m_sumWeights 7 [some (.ref (co C)), some (.int a1), some (.int a2), some (.int a3), some (.int a4), none] [] σ (qV Q) := by
  obtain ⟨I, ⟨n0, hI0⟩, F0⟩ := F
  have key : ∀ n a1 a2 a3 a4 σ, I n a1 a2 a3 a4 σ → wG C 6 m_sumWeights 7 [some (.ref (co C)), some (.int a1), some (.int a2), some (.int a3), some (.int a4), none] [] σ (qV Q) := by
    intro n
    induction n using Nat.strongRecOn with
    | _ n ih =>
      intro a1 a2 a3 a4 σ hI
      have F := F0 n a1 a2 a3 a4 σ hI
      clear hI hI0
      refine s_il dX13_sumWeights_7 rfl ?_
      refine s_aln dX13_sumWeights_9 rfl ?_
      refine gf_542 dX13_sumWeights_10 rfl ?_
      refine s_ii (t := 115) ((σ.1 70) ≤ a4) dX13_sumWeights_13 rfl rfl (fun hc => ?_) (fun hc => ?_)
      · replace F := F.1 hc
        refine s_aln dX13_sumWeights_115 rfl ?_
        refine gf_542 dX13_sumWeights_116 rfl ?_
        refine s_in (t := 155) ((σ.1 70) = 0) dX13_sumWeights_119 rfl rfl (fun hc => ?_) (fun hc => ?_)
        · replace F := F.1 hc
          refine s_ic dX13_sumWeights_155 ki_0 ?_
          exact s_k (t_sumWeights_156 hC  F) ⟨rfl, rfl, rfl, trivial⟩
        · replace F := F.2 hc
          refine s_iln dX13_sumWeights_122 rfl ?_
          refine s_in (t := 136) (a1 = 0) dX13_sumWeights_123 rfl rfl (fun hc => ?_) (fun hc => ?_)
          · replace F := F.1 hc
            exact s_k (t_sumWeights_136 hC  F) ⟨rfl, rfl, rfl, rfl, trivial⟩
          · replace F := F.2 hc
            refine s_aln dX13_sumWeights_126 rfl ?_
            refine gf_148 dX13_sumWeights_127 rfl ?_
            refine s_ic dX13_sumWeights_130 ki_0 ?_
            refine s_ald hC dX13_sumWeights_131 rt_75 F.1 ?_
            replace F := F.2
            refine s_iln dX13_sumWeights_132 rfl ?_
            refine s_ii (t := 151) ((σ.2.2.1 75 ((0 : Int32)).toNatClampNeg) = a2) dX13_sumWeights_133 rfl rfl (fun hc => ?_) (fun hc => ?_)
            · replace F := F.1 hc
              refine s_ic dX13_sumWeights_151 ki_1 ?_
              refine s_goto (t := 156) dX13_sumWeights_152 rfl ?_
              exact s_k (t_sumWeights_156 hC  F) ⟨rfl, rfl, rfl, trivial⟩
            · replace F := F.2 hc
              exact s_k (t_sumWeights_136 hC  F) ⟨rfl, rfl, rfl, rfl, trivial⟩
      · replace F := F.2 hc
        refine s_aln dX13_sumWeights_16 rfl ?_
        refine gf_151 dX13_sumWeights_17 rfl ?_
        refine s_il dX13_sumWeights_20 rfl ?_
        refine s_ald hC dX13_sumWeights_22 rt_76 F.1 ?_
        replace F := F.2
        refine s_isb dX13_sumWeights_23 (Nat.le_of_ble_eq_true rfl) (fun v5_1 ev5_1 => ?_)
        replace F := F v5_1 ev5_1
        show wG _ _ _ _ [some (.ref (co C)), some (.int a1), some (.int a2), some (.int a3), some (.int a4), some (.int v5_1)] _ _ _
        exact s_k (t_sumWeights_25 hC (fun a1' a2' a3' a4' τ hb => by obtain ⟨k, hk, hI⟩ := hb; exact ih k hk a1' a2' a3' a4' τ hI) F) ⟨rfl, rfl, rfl, rfl, rfl, rfl, trivial⟩
  exact key n0 a1 a2 a3 a4 σ hI0

def w_sumWeights_0 (C : rCx) (Q : rS → Prop)  (a1 : Int32) (a2 : Int32) (a3 : Int32) (σ : rS) : Prop :=
  cV C 1 m_clearSum [.ref (co C)] σ (fun σ1 =>
    w_sumWeights_7 C Q  a1 a2 a3 (0 : Int32) σ1)
theorem t_sumWeights_0 {C : rCx} (hC : cOK C) {Q : rS → Prop}   {a1 : Int32} {a2 : Int32} {a3 : Int32} {σ : rS} (F : w_sumWeights_0 C Q  a1 a2 a3 σ) : wG C 6 m_sumWeights 0 [some (.ref (co C)), some (.int a1), some (.int a2), some (.int a3), none, none] [] σ (qV Q) := by
  unfold w_sumWeights_0 at F
  refine s_aln dX13_sumWeights_0 rfl ?_
  refine k_762 dX13_sumWeights_1 rfl (Nat.le_of_ble_eq_true rfl) (Nat.le_of_ble_eq_true rfl) F (fun σ1 F => ?_)
  refine s_ic dX13_sumWeights_4 ki_0 ?_
  refine s_is dX13_sumWeights_5 (Nat.le_of_ble_eq_true rfl) rfl ?_
  show wG _ _ _ _ [some (.ref (co C)), some (.int a1), some (.int a2), some (.int a3), some (.int (0 : Int32)), none] _ _ _
  exact s_k (t_sumWeights_7 hC  F) ⟨rfl, rfl, rfl, rfl, rfl, trivial⟩

theorem m_sumWeights_run {C : rCx} (hC : cOK C) {Q : rS → Prop} {a1 : Int32} {a2 : Int32} {a3 : Int32} {σ : rS} (F : w_sumWeights_0 C Q a1 a2 a3 σ) : cV C 6 m_sumWeights [.ref (co C), .int a1, .int a2, .int a3] σ Q := m_V (m_ent _ 2) (t_sumWeights_0 hC F)

theorem dX13_sumVisits_0 : decode cX13_sumVisits 0 = .ok (.aload_n 0, 1) := by decide +kernel
theorem dX13_sumVisits_1 : decode cX13_sumVisits 1 = .ok (.invokevirtual 762, 3) := by decide +kernel
theorem dX13_sumVisits_4 : decode cX13_sumVisits 4 = .ok (.iconst 0, 1) := by decide +kernel
theorem dX13_sumVisits_5 : decode cX13_sumVisits 5 = .ok (.istore_n 2, 1) := by decide +kernel
theorem dX13_sumVisits_6 : decode cX13_sumVisits 6 = .ok (.iload_n 2, 1) := by decide +kernel
theorem dX13_sumVisits_7 : decode cX13_sumVisits 7 = .ok (.aload_n 0, 1) := by decide +kernel
theorem dX13_sumVisits_8 : decode cX13_sumVisits 8 = .ok (.getfield 542, 3) := by decide +kernel
theorem dX13_sumVisits_11 : decode cX13_sumVisits 11 = .ok (.if_icmp .ge 76, 3) := by decide +kernel
theorem dX13_sumVisits_14 : decode cX13_sumVisits 14 = .ok (.iload_n 1, 1) := by decide +kernel
theorem dX13_sumVisits_15 : decode cX13_sumVisits 15 = .ok (.ifCond .eq 13, 3) := by decide +kernel
theorem dX13_sumVisits_18 : decode cX13_sumVisits 18 = .ok (.aload_n 0, 1) := by decide +kernel
theorem dX13_sumVisits_19 : decode cX13_sumVisits 19 = .ok (.getfield 169, 3) := by decide +kernel
theorem dX13_sumVisits_22 : decode cX13_sumVisits 22 = .ok (.iload_n 2, 1) := by decide +kernel
theorem dX13_sumVisits_23 : decode cX13_sumVisits 23 = .ok (.iaload, 1) := by decide +kernel
theorem dX13_sumVisits_24 : decode cX13_sumVisits 24 = .ok (.i2l, 1) := by decide +kernel
theorem dX13_sumVisits_25 : decode cX13_sumVisits 25 = .ok (.goto 4, 3) := by decide +kernel
theorem dX13_sumVisits_28 : decode cX13_sumVisits 28 = .ok (.lconst 1, 1) := by decide +kernel
theorem dX13_sumVisits_29 : decode cX13_sumVisits 29 = .ok (.lstore_n 3, 1) := by decide +kernel
theorem dX13_sumVisits_30 : decode cX13_sumVisits 30 = .ok (.aload_n 0, 1) := by decide +kernel
theorem dX13_sumVisits_31 : decode cX13_sumVisits 31 = .ok (.iload_n 2, 1) := by decide +kernel
theorem dX13_sumVisits_32 : decode cX13_sumVisits 32 = .ok (.invokevirtual 793, 3) := by decide +kernel
theorem dX13_sumVisits_35 : decode cX13_sumVisits 35 = .ok (.ifCond .eq 46, 3) := by decide +kernel
theorem dX13_sumVisits_38 : decode cX13_sumVisits 38 = .ok (.lload_n 3, 1) := by decide +kernel
theorem dX13_sumVisits_39 : decode cX13_sumVisits 39 = .ok (.lconst 0, 1) := by decide +kernel
theorem dX13_sumVisits_40 : decode cX13_sumVisits 40 = .ok (.lcmp, 1) := by decide +kernel
theorem dX13_sumVisits_41 : decode cX13_sumVisits 41 = .ok (.ifCond .eq 40, 3) := by decide +kernel
theorem dX13_sumVisits_44 : decode cX13_sumVisits 44 = .ok (.aload_n 0, 1) := by decide +kernel
theorem dX13_sumVisits_45 : decode cX13_sumVisits 45 = .ok (.iload_n 2, 1) := by decide +kernel
theorem dX13_sumVisits_46 : decode cX13_sumVisits 46 = .ok (.invokevirtual 737, 3) := by decide +kernel
theorem dX13_sumVisits_49 : decode cX13_sumVisits 49 = .ok (.aload_n 0, 1) := by decide +kernel
theorem dX13_sumVisits_50 : decode cX13_sumVisits 50 = .ok (.lload_n 3, 1) := by decide +kernel
theorem dX13_sumVisits_51 : decode cX13_sumVisits 51 = .ok (.lconst 0, 1) := by decide +kernel
theorem dX13_sumVisits_52 : decode cX13_sumVisits 52 = .ok (.lcmp, 1) := by decide +kernel
theorem dX13_sumVisits_53 : decode cX13_sumVisits 53 = .ok (.ifCond .ge 8, 3) := by decide +kernel
theorem dX13_sumVisits_56 : decode cX13_sumVisits 56 = .ok (.lload_n 3, 1) := by decide +kernel
theorem dX13_sumVisits_57 : decode cX13_sumVisits 57 = .ok (.lneg, 1) := by decide +kernel
theorem dX13_sumVisits_58 : decode cX13_sumVisits 58 = .ok (.goto 4, 3) := by decide +kernel
theorem dX13_sumVisits_61 : decode cX13_sumVisits 61 = .ok (.lload_n 3, 1) := by decide +kernel
theorem dX13_sumVisits_62 : decode cX13_sumVisits 62 = .ok (.lconst 1, 1) := by decide +kernel
theorem dX13_sumVisits_63 : decode cX13_sumVisits 63 = .ok (.invokevirtual 748, 3) := by decide +kernel
theorem dX13_sumVisits_66 : decode cX13_sumVisits 66 = .ok (.aload_n 0, 1) := by decide +kernel
theorem dX13_sumVisits_67 : decode cX13_sumVisits 67 = .ok (.lload_n 3, 1) := by decide +kernel
theorem dX13_sumVisits_68 : decode cX13_sumVisits 68 = .ok (.lconst 0, 1) := by decide +kernel
theorem dX13_sumVisits_69 : decode cX13_sumVisits 69 = .ok (.lcmp, 1) := by decide +kernel
theorem dX13_sumVisits_70 : decode cX13_sumVisits 70 = .ok (.ifCond .ge 7, 3) := by decide +kernel
theorem dX13_sumVisits_73 : decode cX13_sumVisits 73 = .ok (.iconst (-1), 1) := by decide +kernel
theorem dX13_sumVisits_74 : decode cX13_sumVisits 74 = .ok (.goto 4, 3) := by decide +kernel
theorem dX13_sumVisits_77 : decode cX13_sumVisits 77 = .ok (.iconst 1, 1) := by decide +kernel
theorem dX13_sumVisits_78 : decode cX13_sumVisits 78 = .ok (.invokevirtual 727, 3) := by decide +kernel
theorem dX13_sumVisits_81 : decode cX13_sumVisits 81 = .ok (.iinc 2 1, 3) := by decide +kernel
theorem dX13_sumVisits_84 : decode cX13_sumVisits 84 = .ok (.goto (-78), 3) := by decide +kernel
theorem dX13_sumVisits_87 : decode cX13_sumVisits 87 = .ok (.return_, 1) := by decide +kernel
def w_sumVisits_62 (C : rCx) (Q : rS → Prop) (B6 : Int32 → Int32 → rS → Prop) (a1 : Int32) (a2 : Int32) (a3 : Int64) (s1 : Int64) (σ : rS) : Prop :=
  cV C 4 m_scale [.ref (co C), .long s1, .long (1 : Int64)] σ (fun σ1 =>
    (0 ≤ (lg_cmp a3 (0 : Int64)) →
      cV C 4 m_add [.ref (co C), .int (1 : Int32)] σ1 (fun σ3 =>
        ∀ v2_5 : Int32, v2_5 = a2 + (1 : Int32) →
        B6 a1 v2_5 σ3)) ∧
    (¬ (0 ≤ (lg_cmp a3 (0 : Int64))) →
      cV C 4 m_add [.ref (co C), .int (-1 : Int32)] σ1 (fun σ6 =>
        ∀ v2_8 : Int32, v2_8 = a2 + (1 : Int32) →
        B6 a1 v2_8 σ6)))
theorem t_sumVisits_62 {C : rCx} (hC : cOK C) {Q : rS → Prop} {B6 : Int32 → Int32 → rS → Prop} (hB6 : ∀ a1' a2' τ, B6 a1' a2' τ → wG C 5 m_sumVisits 6 [some (.ref (co C)), some (.int a1'), some (.int a2'), none, none] [] τ (qV Q)) {a1 : Int32} {a2 : Int32} {a3 : Int64} {s1 : Int64} {σ : rS} (F : w_sumVisits_62 C Q B6 a1 a2 a3 s1 σ) : wG C 5 m_sumVisits 62 [some (.ref (co C)), some (.int a1), some (.int a2), some (.long a3), none] [.long s1, .ref (co C)] σ (qV Q) := by
  unfold w_sumVisits_62 at F
  refine s_lc dX13_sumVisits_62 kl_1 ?_
  refine k_748 dX13_sumVisits_63 rfl (Nat.le_of_ble_eq_true rfl) (Nat.le_of_ble_eq_true rfl) F (fun σ1 F => ?_)
  refine s_aln dX13_sumVisits_66 rfl ?_
  refine s_lln dX13_sumVisits_67 rfl ?_
  refine s_lc dX13_sumVisits_68 kl_0 ?_
  refine s_lcmp dX13_sumVisits_69 ?_
  refine s_i (t := 77) (0 ≤ (lg_cmp a3 (0 : Int64))) dX13_sumVisits_70 rfl rfl (fun hc => ?_) (fun hc => ?_)
  · replace F := F.1 hc
    refine s_ic dX13_sumVisits_77 ki_1 ?_
    refine k_727 dX13_sumVisits_78 rfl (Nat.le_of_ble_eq_true rfl) (Nat.le_of_ble_eq_true rfl) F (fun σ3 F => ?_)
    refine s_incb dX13_sumVisits_81 ki_1 rfl (Nat.le_of_ble_eq_true rfl) (fun v2_5 ev2_5 => ?_)
    replace F := F v2_5 ev2_5
    show wG _ _ _ _ [some (.ref (co C)), some (.int a1), some (.int v2_5), some (.long a3), none] _ _ _
    refine s_goto (t := 6) dX13_sumVisits_84 rfl ?_
    exact s_k (hB6 _ _ _ F) ⟨rfl, rfl, rfl, trivial⟩
  · replace F := F.2 hc
    refine s_ic dX13_sumVisits_73 ki_m1 ?_
    refine s_goto (t := 78) dX13_sumVisits_74 rfl ?_
    refine k_727 dX13_sumVisits_78 rfl (Nat.le_of_ble_eq_true rfl) (Nat.le_of_ble_eq_true rfl) F (fun σ6 F => ?_)
    refine s_incb dX13_sumVisits_81 ki_1 rfl (Nat.le_of_ble_eq_true rfl) (fun v2_8 ev2_8 => ?_)
    replace F := F v2_8 ev2_8
    show wG _ _ _ _ [some (.ref (co C)), some (.int a1), some (.int v2_8), some (.long a3), none] _ _ _
    refine s_goto (t := 6) dX13_sumVisits_84 rfl ?_
    exact s_k (hB6 _ _ _ F) ⟨rfl, rfl, rfl, trivial⟩

def w_sumVisits_29 (C : rCx) (Q : rS → Prop) (B6 : Int32 → Int32 → rS → Prop) (a1 : Int32) (a2 : Int32) (s0 : Int64) (σ : rS) : Prop :=
  cI C 0 m_isVisited [.ref (co C), .int a2] σ (fun r2 σ1 =>
    (r2 = 0 →
      ∀ v2_3 : Int32, v2_3 = a2 + (1 : Int32) →
      B6 a1 v2_3 σ1) ∧
    (¬ (r2 = 0) →
      ((lg_cmp s0 (0 : Int64)) = 0 →
        ∀ v2_4 : Int32, v2_4 = a2 + (1 : Int32) →
        B6 a1 v2_4 σ1) ∧
      (¬ ((lg_cmp s0 (0 : Int64)) = 0) →
        cV C 0 m_loadVisits [.ref (co C), .int a2] σ1 (fun σ5 =>
          (0 ≤ (lg_cmp s0 (0 : Int64)) →
            w_sumVisits_62 C Q B6 a1 a2 s0 s0 σ5) ∧
          (¬ (0 ≤ (lg_cmp s0 (0 : Int64))) →
            w_sumVisits_62 C Q B6 a1 a2 s0 (-s0) σ5)))))
theorem t_sumVisits_29 {C : rCx} (hC : cOK C) {Q : rS → Prop} {B6 : Int32 → Int32 → rS → Prop} (hB6 : ∀ a1' a2' τ, B6 a1' a2' τ → wG C 5 m_sumVisits 6 [some (.ref (co C)), some (.int a1'), some (.int a2'), none, none] [] τ (qV Q)) {a1 : Int32} {a2 : Int32} {s0 : Int64} {σ : rS} (F : w_sumVisits_29 C Q B6 a1 a2 s0 σ) : wG C 5 m_sumVisits 29 [some (.ref (co C)), some (.int a1), some (.int a2), none, none] [.long s0] σ (qV Q) := by
  unfold w_sumVisits_29 at F
  refine s_lsn dX13_sumVisits_29 (Nat.le_of_ble_eq_true rfl) rfl ?_
  show wG _ _ _ _ [some (.ref (co C)), some (.int a1), some (.int a2), some (.long s0), none] _ _ _
  refine s_aln dX13_sumVisits_30 rfl ?_
  refine s_iln dX13_sumVisits_31 rfl ?_
  refine k_793 dX13_sumVisits_32 rfl (Nat.le_of_ble_eq_true rfl) (Nat.le_of_ble_eq_true rfl) F (fun r2 σ1 F => ?_)
  refine s_i (t := 81) (r2 = 0) dX13_sumVisits_35 rfl rfl (fun hc => ?_) (fun hc => ?_)
  · replace F := F.1 hc
    refine s_incb dX13_sumVisits_81 ki_1 rfl (Nat.le_of_ble_eq_true rfl) (fun v2_3 ev2_3 => ?_)
    replace F := F v2_3 ev2_3
    show wG _ _ _ _ [some (.ref (co C)), some (.int a1), some (.int v2_3), some (.long s0), none] _ _ _
    refine s_goto (t := 6) dX13_sumVisits_84 rfl ?_
    exact s_k (hB6 _ _ _ F) ⟨rfl, rfl, rfl, trivial⟩
  · replace F := F.2 hc
    refine s_lln dX13_sumVisits_38 rfl ?_
    refine s_lc dX13_sumVisits_39 kl_0 ?_
    refine s_lcmp dX13_sumVisits_40 ?_
    refine s_i (t := 81) ((lg_cmp s0 (0 : Int64)) = 0) dX13_sumVisits_41 rfl rfl (fun hc => ?_) (fun hc => ?_)
    · replace F := F.1 hc
      refine s_incb dX13_sumVisits_81 ki_1 rfl (Nat.le_of_ble_eq_true rfl) (fun v2_4 ev2_4 => ?_)
      replace F := F v2_4 ev2_4
      show wG _ _ _ _ [some (.ref (co C)), some (.int a1), some (.int v2_4), some (.long s0), none] _ _ _
      refine s_goto (t := 6) dX13_sumVisits_84 rfl ?_
      exact s_k (hB6 _ _ _ F) ⟨rfl, rfl, rfl, trivial⟩
    · replace F := F.2 hc
      refine s_aln dX13_sumVisits_44 rfl ?_
      refine s_iln dX13_sumVisits_45 rfl ?_
      refine k_737 dX13_sumVisits_46 rfl (Nat.le_of_ble_eq_true rfl) (Nat.le_of_ble_eq_true rfl) F (fun σ5 F => ?_)
      refine s_aln dX13_sumVisits_49 rfl ?_
      refine s_lln dX13_sumVisits_50 rfl ?_
      refine s_lc dX13_sumVisits_51 kl_0 ?_
      refine s_lcmp dX13_sumVisits_52 ?_
      refine s_i (t := 61) (0 ≤ (lg_cmp s0 (0 : Int64))) dX13_sumVisits_53 rfl rfl (fun hc => ?_) (fun hc => ?_)
      · replace F := F.1 hc
        refine s_lln dX13_sumVisits_61 rfl ?_
        exact s_k (t_sumVisits_62 hC hB6 F) ⟨rfl, rfl, rfl, rfl, trivial⟩
      · replace F := F.2 hc
        refine s_lln dX13_sumVisits_56 rfl ?_
        refine s_lneg dX13_sumVisits_57 ?_
        refine s_goto (t := 62) dX13_sumVisits_58 rfl ?_
        exact s_k (t_sumVisits_62 hC hB6 F) ⟨rfl, rfl, rfl, rfl, trivial⟩

def w_sumVisits_6 (C : rCx) (Q : rS → Prop)  (a1 : Int32) (a2 : Int32) (σ : rS) : Prop :=
  ∃ I : Nat → Int32 → Int32 → rS → Prop, (∃ n, I n a1 a2 σ) ∧ ∀ n a1 a2 σ, I n a1 a2 σ →
    ((σ.1 70) ≤ a2 →
      Q σ) ∧
    (¬ ((σ.1 70) ≤ a2) →
      (a1 = 0 →
        w_sumVisits_29 C Q (fun a1' a2' τ => ∃ k < n, I k a1' a2' τ) a1 a2 (1 : Int64) σ) ∧
      (¬ (a1 = 0) →
        inb a2 1000 ∧
        w_sumVisits_29 C Q (fun a1' a2' τ => ∃ k < n, I k a1' a2' τ) a1 a2 ((σ.2.2.1 82 (a2).toNatClampNeg)).toInt64 σ))
theorem t_sumVisits_6 {C : rCx} (hC : cOK C) {Q : rS → Prop}   {a1 : Int32} {a2 : Int32} {σ : rS} (F : w_sumVisits_6 C Q  a1 a2 σ) : wG C 5 m_sumVisits 6 [some (.ref (co C)), some (.int a1), some (.int a2), none, none] [] σ (qV Q) := by
  obtain ⟨I, ⟨n0, hI0⟩, F0⟩ := F
  have key : ∀ n a1 a2 σ, I n a1 a2 σ → wG C 5 m_sumVisits 6 [some (.ref (co C)), some (.int a1), some (.int a2), none, none] [] σ (qV Q) := by
    intro n
    induction n using Nat.strongRecOn with
    | _ n ih =>
      intro a1 a2 σ hI
      have F := F0 n a1 a2 σ hI
      clear hI hI0
      refine s_iln dX13_sumVisits_6 rfl ?_
      refine s_aln dX13_sumVisits_7 rfl ?_
      refine gf_542 dX13_sumVisits_8 rfl ?_
      refine s_ii (t := 87) ((σ.1 70) ≤ a2) dX13_sumVisits_11 rfl rfl (fun hc => ?_) (fun hc => ?_)
      · replace F := F.1 hc
        exact s_rv dX13_sumVisits_87 rfl F
      · replace F := F.2 hc
        refine s_iln dX13_sumVisits_14 rfl ?_
        refine s_i (t := 28) (a1 = 0) dX13_sumVisits_15 rfl rfl (fun hc => ?_) (fun hc => ?_)
        · replace F := F.1 hc
          refine s_lc dX13_sumVisits_28 kl_1 ?_
          exact s_k (t_sumVisits_29 hC (fun a1' a2' τ hb => by obtain ⟨k, hk, hI⟩ := hb; exact ih k hk a1' a2' τ hI) F) ⟨rfl, rfl, rfl, trivial⟩
        · replace F := F.2 hc
          refine s_aln dX13_sumVisits_18 rfl ?_
          refine gf_169 dX13_sumVisits_19 rfl ?_
          refine s_iln dX13_sumVisits_22 rfl ?_
          refine s_ald hC dX13_sumVisits_23 rt_82 F.1 ?_
          replace F := F.2
          refine s_i2l dX13_sumVisits_24 ?_
          refine s_goto (t := 29) dX13_sumVisits_25 rfl ?_
          exact s_k (t_sumVisits_29 hC (fun a1' a2' τ hb => by obtain ⟨k, hk, hI⟩ := hb; exact ih k hk a1' a2' τ hI) F) ⟨rfl, rfl, rfl, trivial⟩
  exact key n0 a1 a2 σ hI0

def w_sumVisits_0 (C : rCx) (Q : rS → Prop)  (a1 : Int32) (σ : rS) : Prop :=
  cV C 1 m_clearSum [.ref (co C)] σ (fun σ1 =>
    w_sumVisits_6 C Q  a1 (0 : Int32) σ1)
theorem t_sumVisits_0 {C : rCx} (hC : cOK C) {Q : rS → Prop}   {a1 : Int32} {σ : rS} (F : w_sumVisits_0 C Q  a1 σ) : wG C 5 m_sumVisits 0 [some (.ref (co C)), some (.int a1), none, none, none] [] σ (qV Q) := by
  unfold w_sumVisits_0 at F
  refine s_aln dX13_sumVisits_0 rfl ?_
  refine k_762 dX13_sumVisits_1 rfl (Nat.le_of_ble_eq_true rfl) (Nat.le_of_ble_eq_true rfl) F (fun σ1 F => ?_)
  refine s_ic dX13_sumVisits_4 ki_0 ?_
  refine s_isn dX13_sumVisits_5 (Nat.le_of_ble_eq_true rfl) rfl ?_
  show wG _ _ _ _ [some (.ref (co C)), some (.int a1), some (.int (0 : Int32)), none, none] _ _ _
  exact s_k (t_sumVisits_6 hC  F) ⟨rfl, rfl, rfl, trivial⟩

theorem m_sumVisits_run {C : rCx} (hC : cOK C) {Q : rS → Prop} {a1 : Int32} {σ : rS} (F : w_sumVisits_0 C Q a1 σ) : cV C 5 m_sumVisits [.ref (co C), .int a1] σ Q := m_V (m_ent _ 3) (t_sumVisits_0 hC F)

theorem dX13_sumOver_0 : decode cX13_sumOver 0 = .ok (.aload_n 0, 1) := by decide +kernel
theorem dX13_sumOver_1 : decode cX13_sumOver 1 = .ok (.iload_n 1, 1) := by decide +kernel
theorem dX13_sumOver_2 : decode cX13_sumOver 2 = .ok (.iload_n 2, 1) := by decide +kernel
theorem dX13_sumOver_3 : decode cX13_sumOver 3 = .ok (.iload_n 3, 1) := by decide +kernel
theorem dX13_sumOver_4 : decode cX13_sumOver 4 = .ok (.invokevirtual 803, 3) := by decide +kernel
theorem dX13_sumOver_7 : decode cX13_sumOver 7 = .ok (.aload_n 0, 1) := by decide +kernel
theorem dX13_sumOver_8 : decode cX13_sumOver 8 = .ok (.getfield 710, 3) := by decide +kernel
theorem dX13_sumOver_11 : decode cX13_sumOver 11 = .ok (.istore 5, 2) := by decide +kernel
theorem dX13_sumOver_13 : decode cX13_sumOver 13 = .ok (.aload_n 0, 1) := by decide +kernel
theorem dX13_sumOver_14 : decode cX13_sumOver 14 = .ok (.bipush 19, 2) := by decide +kernel
theorem dX13_sumOver_16 : decode cX13_sumOver 16 = .ok (.iconst 4, 1) := by decide +kernel
theorem dX13_sumOver_17 : decode cX13_sumOver 17 = .ok (.invokevirtual 703, 3) := by decide +kernel
theorem dX13_sumOver_20 : decode cX13_sumOver 20 = .ok (.aload_n 0, 1) := by decide +kernel
theorem dX13_sumOver_21 : decode cX13_sumOver 21 = .ok (.bipush 20, 2) := by decide +kernel
theorem dX13_sumOver_23 : decode cX13_sumOver 23 = .ok (.iconst 5, 1) := by decide +kernel
theorem dX13_sumOver_24 : decode cX13_sumOver 24 = .ok (.invokevirtual 703, 3) := by decide +kernel
theorem dX13_sumOver_27 : decode cX13_sumOver 27 = .ok (.aload_n 0, 1) := by decide +kernel
theorem dX13_sumOver_28 : decode cX13_sumOver 28 = .ok (.iload 4, 2) := by decide +kernel
theorem dX13_sumOver_30 : decode cX13_sumOver 30 = .ok (.iconst 0, 1) := by decide +kernel
theorem dX13_sumOver_31 : decode cX13_sumOver 31 = .ok (.iconst 0, 1) := by decide +kernel
theorem dX13_sumOver_32 : decode cX13_sumOver 32 = .ok (.invokevirtual 803, 3) := by decide +kernel
theorem dX13_sumOver_35 : decode cX13_sumOver 35 = .ok (.aload_n 0, 1) := by decide +kernel
theorem dX13_sumOver_36 : decode cX13_sumOver 36 = .ok (.bipush 8, 2) := by decide +kernel
theorem dX13_sumOver_38 : decode cX13_sumOver 38 = .ok (.bipush 19, 2) := by decide +kernel
theorem dX13_sumOver_40 : decode cX13_sumOver 40 = .ok (.iconst 5, 1) := by decide +kernel
theorem dX13_sumOver_41 : decode cX13_sumOver 41 = .ok (.invokevirtual 712, 3) := by decide +kernel
theorem dX13_sumOver_44 : decode cX13_sumOver 44 = .ok (.aload_n 0, 1) := by decide +kernel
theorem dX13_sumOver_45 : decode cX13_sumOver 45 = .ok (.bipush 9, 2) := by decide +kernel
theorem dX13_sumOver_47 : decode cX13_sumOver 47 = .ok (.bipush 20, 2) := by decide +kernel
theorem dX13_sumOver_49 : decode cX13_sumOver 49 = .ok (.iconst 4, 1) := by decide +kernel
theorem dX13_sumOver_50 : decode cX13_sumOver 50 = .ok (.invokevirtual 712, 3) := by decide +kernel
theorem dX13_sumOver_53 : decode cX13_sumOver 53 = .ok (.aload_n 0, 1) := by decide +kernel
theorem dX13_sumOver_54 : decode cX13_sumOver 54 = .ok (.iconst 4, 1) := by decide +kernel
theorem dX13_sumOver_55 : decode cX13_sumOver 55 = .ok (.bipush 8, 2) := by decide +kernel
theorem dX13_sumOver_57 : decode cX13_sumOver 57 = .ok (.invokevirtual 703, 3) := by decide +kernel
theorem dX13_sumOver_60 : decode cX13_sumOver 60 = .ok (.aload_n 0, 1) := by decide +kernel
theorem dX13_sumOver_61 : decode cX13_sumOver 61 = .ok (.iconst 5, 1) := by decide +kernel
theorem dX13_sumOver_62 : decode cX13_sumOver 62 = .ok (.bipush 9, 2) := by decide +kernel
theorem dX13_sumOver_64 : decode cX13_sumOver 64 = .ok (.invokevirtual 703, 3) := by decide +kernel
theorem dX13_sumOver_67 : decode cX13_sumOver 67 = .ok (.aload_n 0, 1) := by decide +kernel
theorem dX13_sumOver_68 : decode cX13_sumOver 68 = .ok (.iconst 4, 1) := by decide +kernel
theorem dX13_sumOver_69 : decode cX13_sumOver 69 = .ok (.iconst 5, 1) := by decide +kernel
theorem dX13_sumOver_70 : decode cX13_sumOver 70 = .ok (.invokevirtual 721, 3) := by decide +kernel
theorem dX13_sumOver_73 : decode cX13_sumOver 73 = .ok (.aload_n 0, 1) := by decide +kernel
theorem dX13_sumOver_74 : decode cX13_sumOver 74 = .ok (.iload 5, 2) := by decide +kernel
theorem dX13_sumOver_76 : decode cX13_sumOver 76 = .ok (.putfield 710, 3) := by decide +kernel
theorem dX13_sumOver_79 : decode cX13_sumOver 79 = .ok (.return_, 1) := by decide +kernel
def w_sumOver_0 (C : rCx) (Q : rS → Prop)  (a1 : Int32) (a2 : Int32) (a3 : Int32) (a4 : Int32) (σ : rS) : Prop :=
  cV C 6 m_sumWeights [.ref (co C), .int a1, .int a2, .int a3] σ (fun σ1 =>
    ∀ v5_3 : Int32, v5_3 = (σ1.1 92) →
    cV C 0 m_copy [.ref (co C), .int (19 : Int32), .int (4 : Int32)] σ1 (fun σ4 =>
      cV C 0 m_copy [.ref (co C), .int (20 : Int32), .int (5 : Int32)] σ4 (fun σ6 =>
        cV C 6 m_sumWeights [.ref (co C), .int a4, .int (0 : Int32), .int (0 : Int32)] σ6 (fun σ8 =>
          cV C 1 m_times [.ref (co C), .int (8 : Int32), .int (19 : Int32), .int (5 : Int32)] σ8 (fun σ10 =>
            cV C 1 m_times [.ref (co C), .int (9 : Int32), .int (20 : Int32), .int (4 : Int32)] σ10 (fun σ12 =>
              cV C 0 m_copy [.ref (co C), .int (4 : Int32), .int (8 : Int32)] σ12 (fun σ14 =>
                cV C 0 m_copy [.ref (co C), .int (5 : Int32), .int (9 : Int32)] σ14 (fun σ16 =>
                  cV C 3 m_reduce [.ref (co C), .int (4 : Int32), .int (5 : Int32)] σ16 (fun σ18 =>
                    ∀ σ20, σ20 = siU σ18 92 v5_3 →
                    Q σ20)))))))))
theorem t_sumOver_0 {C : rCx} (hC : cOK C) {Q : rS → Prop}   {a1 : Int32} {a2 : Int32} {a3 : Int32} {a4 : Int32} {σ : rS} (F : w_sumOver_0 C Q  a1 a2 a3 a4 σ) : wG C 7 m_sumOver 0 [some (.ref (co C)), some (.int a1), some (.int a2), some (.int a3), some (.int a4), none] [] σ (qV Q) := by
  unfold w_sumOver_0 at F
  refine s_aln dX13_sumOver_0 rfl ?_
  refine s_iln dX13_sumOver_1 rfl ?_
  refine s_iln dX13_sumOver_2 rfl ?_
  refine s_iln dX13_sumOver_3 rfl ?_
  refine k_803 dX13_sumOver_4 rfl (Nat.le_of_ble_eq_true rfl) (Nat.le_of_ble_eq_true rfl) F (fun σ1 F => ?_)
  refine s_aln dX13_sumOver_7 rfl ?_
  refine gf_710 dX13_sumOver_8 rfl ?_
  refine s_isb dX13_sumOver_11 (Nat.le_of_ble_eq_true rfl) (fun v5_3 ev5_3 => ?_)
  replace F := F v5_3 ev5_3
  show wG _ _ _ _ [some (.ref (co C)), some (.int a1), some (.int a2), some (.int a3), some (.int a4), some (.int v5_3)] _ _ _
  refine s_aln dX13_sumOver_13 rfl ?_
  refine s_bi dX13_sumOver_14 kb_19 ?_
  refine s_ic dX13_sumOver_16 ki_4 ?_
  refine k_703 dX13_sumOver_17 rfl (Nat.le_of_ble_eq_true rfl) (Nat.le_of_ble_eq_true rfl) F (fun σ4 F => ?_)
  refine s_aln dX13_sumOver_20 rfl ?_
  refine s_bi dX13_sumOver_21 kb_20 ?_
  refine s_ic dX13_sumOver_23 ki_5 ?_
  refine k_703 dX13_sumOver_24 rfl (Nat.le_of_ble_eq_true rfl) (Nat.le_of_ble_eq_true rfl) F (fun σ6 F => ?_)
  refine s_aln dX13_sumOver_27 rfl ?_
  refine s_il dX13_sumOver_28 rfl ?_
  refine s_ic dX13_sumOver_30 ki_0 ?_
  refine s_ic dX13_sumOver_31 ki_0 ?_
  refine k_803 dX13_sumOver_32 rfl (Nat.le_of_ble_eq_true rfl) (Nat.le_of_ble_eq_true rfl) F (fun σ8 F => ?_)
  refine s_aln dX13_sumOver_35 rfl ?_
  refine s_bi dX13_sumOver_36 kb_8 ?_
  refine s_bi dX13_sumOver_38 kb_19 ?_
  refine s_ic dX13_sumOver_40 ki_5 ?_
  refine k_712 dX13_sumOver_41 rfl (Nat.le_of_ble_eq_true rfl) (Nat.le_of_ble_eq_true rfl) F (fun σ10 F => ?_)
  refine s_aln dX13_sumOver_44 rfl ?_
  refine s_bi dX13_sumOver_45 kb_9 ?_
  refine s_bi dX13_sumOver_47 kb_20 ?_
  refine s_ic dX13_sumOver_49 ki_4 ?_
  refine k_712 dX13_sumOver_50 rfl (Nat.le_of_ble_eq_true rfl) (Nat.le_of_ble_eq_true rfl) F (fun σ12 F => ?_)
  refine s_aln dX13_sumOver_53 rfl ?_
  refine s_ic dX13_sumOver_54 ki_4 ?_
  refine s_bi dX13_sumOver_55 kb_8 ?_
  refine k_703 dX13_sumOver_57 rfl (Nat.le_of_ble_eq_true rfl) (Nat.le_of_ble_eq_true rfl) F (fun σ14 F => ?_)
  refine s_aln dX13_sumOver_60 rfl ?_
  refine s_ic dX13_sumOver_61 ki_5 ?_
  refine s_bi dX13_sumOver_62 kb_9 ?_
  refine k_703 dX13_sumOver_64 rfl (Nat.le_of_ble_eq_true rfl) (Nat.le_of_ble_eq_true rfl) F (fun σ16 F => ?_)
  refine s_aln dX13_sumOver_67 rfl ?_
  refine s_ic dX13_sumOver_68 ki_4 ?_
  refine s_ic dX13_sumOver_69 ki_5 ?_
  refine k_721 dX13_sumOver_70 rfl (Nat.le_of_ble_eq_true rfl) (Nat.le_of_ble_eq_true rfl) F (fun σ18 F => ?_)
  refine s_aln dX13_sumOver_73 rfl ?_
  refine s_il dX13_sumOver_74 rfl ?_
  refine pf_710 hC dX13_sumOver_76 rfl (fun σ20 eσ20 => ?_)
  replace F := F σ20 eσ20
  exact s_rv dX13_sumOver_79 rfl F

theorem m_sumOver_run {C : rCx} (hC : cOK C) {Q : rS → Prop} {a1 : Int32} {a2 : Int32} {a3 : Int32} {a4 : Int32} {σ : rS} (F : w_sumOver_0 C Q a1 a2 a3 a4 σ) : cV C 7 m_sumOver [.ref (co C), .int a1, .int a2, .int a3, .int a4] σ Q := m_V (m_ent _ 1) (t_sumOver_0 hC F)

theorem dX13_loadWorth_0 : decode cX13_loadWorth 0 = .ok (.bipush 34, 2) := by decide +kernel
theorem dX13_loadWorth_2 : decode cX13_loadWorth 2 = .ok (.iload_n 2, 1) := by decide +kernel
theorem dX13_loadWorth_3 : decode cX13_loadWorth 3 = .ok (.imul, 1) := by decide +kernel
theorem dX13_loadWorth_4 : decode cX13_loadWorth 4 = .ok (.istore_n 3, 1) := by decide +kernel
theorem dX13_loadWorth_5 : decode cX13_loadWorth 5 = .ok (.aload_n 0, 1) := by decide +kernel
theorem dX13_loadWorth_6 : decode cX13_loadWorth 6 = .ok (.getfield 188, 3) := by decide +kernel
theorem dX13_loadWorth_9 : decode cX13_loadWorth 9 = .ok (.bipush 6, 2) := by decide +kernel
theorem dX13_loadWorth_11 : decode cX13_loadWorth 11 = .ok (.aload_n 1, 1) := by decide +kernel
theorem dX13_loadWorth_12 : decode cX13_loadWorth 12 = .ok (.iload_n 3, 1) := by decide +kernel
theorem dX13_loadWorth_13 : decode cX13_loadWorth 13 = .ok (.iaload, 1) := by decide +kernel
theorem dX13_loadWorth_14 : decode cX13_loadWorth 14 = .ok (.iastore, 1) := by decide +kernel
theorem dX13_loadWorth_15 : decode cX13_loadWorth 15 = .ok (.aload_n 0, 1) := by decide +kernel
theorem dX13_loadWorth_16 : decode cX13_loadWorth 16 = .ok (.getfield 188, 3) := by decide +kernel
theorem dX13_loadWorth_19 : decode cX13_loadWorth 19 = .ok (.bipush 7, 2) := by decide +kernel
theorem dX13_loadWorth_21 : decode cX13_loadWorth 21 = .ok (.aload_n 1, 1) := by decide +kernel
theorem dX13_loadWorth_22 : decode cX13_loadWorth 22 = .ok (.iload_n 3, 1) := by decide +kernel
theorem dX13_loadWorth_23 : decode cX13_loadWorth 23 = .ok (.bipush 17, 2) := by decide +kernel
theorem dX13_loadWorth_25 : decode cX13_loadWorth 25 = .ok (.iadd, 1) := by decide +kernel
theorem dX13_loadWorth_26 : decode cX13_loadWorth 26 = .ok (.iaload, 1) := by decide +kernel
theorem dX13_loadWorth_27 : decode cX13_loadWorth 27 = .ok (.iastore, 1) := by decide +kernel
theorem dX13_loadWorth_28 : decode cX13_loadWorth 28 = .ok (.iconst 0, 1) := by decide +kernel
theorem dX13_loadWorth_29 : decode cX13_loadWorth 29 = .ok (.istore 4, 2) := by decide +kernel
theorem dX13_loadWorth_31 : decode cX13_loadWorth 31 = .ok (.iload 4, 2) := by decide +kernel
theorem dX13_loadWorth_33 : decode cX13_loadWorth 33 = .ok (.bipush 16, 2) := by decide +kernel
theorem dX13_loadWorth_35 : decode cX13_loadWorth 35 = .ok (.if_icmp .ge 48, 3) := by decide +kernel
theorem dX13_loadWorth_38 : decode cX13_loadWorth 38 = .ok (.aload_n 0, 1) := by decide +kernel
theorem dX13_loadWorth_39 : decode cX13_loadWorth 39 = .ok (.getfield 185, 3) := by decide +kernel
theorem dX13_loadWorth_42 : decode cX13_loadWorth 42 = .ok (.ldc_w 735, 3) := by decide +kernel
theorem dX13_loadWorth_45 : decode cX13_loadWorth 45 = .ok (.iload 4, 2) := by decide +kernel
theorem dX13_loadWorth_47 : decode cX13_loadWorth 47 = .ok (.iadd, 1) := by decide +kernel
theorem dX13_loadWorth_48 : decode cX13_loadWorth 48 = .ok (.aload_n 1, 1) := by decide +kernel
theorem dX13_loadWorth_49 : decode cX13_loadWorth 49 = .ok (.iload_n 3, 1) := by decide +kernel
theorem dX13_loadWorth_50 : decode cX13_loadWorth 50 = .ok (.iconst 1, 1) := by decide +kernel
theorem dX13_loadWorth_51 : decode cX13_loadWorth 51 = .ok (.iadd, 1) := by decide +kernel
theorem dX13_loadWorth_52 : decode cX13_loadWorth 52 = .ok (.iload 4, 2) := by decide +kernel
theorem dX13_loadWorth_54 : decode cX13_loadWorth 54 = .ok (.iadd, 1) := by decide +kernel
theorem dX13_loadWorth_55 : decode cX13_loadWorth 55 = .ok (.iaload, 1) := by decide +kernel
theorem dX13_loadWorth_56 : decode cX13_loadWorth 56 = .ok (.iastore, 1) := by decide +kernel
theorem dX13_loadWorth_57 : decode cX13_loadWorth 57 = .ok (.aload_n 0, 1) := by decide +kernel
theorem dX13_loadWorth_58 : decode cX13_loadWorth 58 = .ok (.getfield 185, 3) := by decide +kernel
theorem dX13_loadWorth_61 : decode cX13_loadWorth 61 = .ok (.ldc_w 736, 3) := by decide +kernel
theorem dX13_loadWorth_64 : decode cX13_loadWorth 64 = .ok (.iload 4, 2) := by decide +kernel
theorem dX13_loadWorth_66 : decode cX13_loadWorth 66 = .ok (.iadd, 1) := by decide +kernel
theorem dX13_loadWorth_67 : decode cX13_loadWorth 67 = .ok (.aload_n 1, 1) := by decide +kernel
theorem dX13_loadWorth_68 : decode cX13_loadWorth 68 = .ok (.iload_n 3, 1) := by decide +kernel
theorem dX13_loadWorth_69 : decode cX13_loadWorth 69 = .ok (.bipush 18, 2) := by decide +kernel
theorem dX13_loadWorth_71 : decode cX13_loadWorth 71 = .ok (.iadd, 1) := by decide +kernel
theorem dX13_loadWorth_72 : decode cX13_loadWorth 72 = .ok (.iload 4, 2) := by decide +kernel
theorem dX13_loadWorth_74 : decode cX13_loadWorth 74 = .ok (.iadd, 1) := by decide +kernel
theorem dX13_loadWorth_75 : decode cX13_loadWorth 75 = .ok (.iaload, 1) := by decide +kernel
theorem dX13_loadWorth_76 : decode cX13_loadWorth 76 = .ok (.iastore, 1) := by decide +kernel
theorem dX13_loadWorth_77 : decode cX13_loadWorth 77 = .ok (.iinc 4 1, 3) := by decide +kernel
theorem dX13_loadWorth_80 : decode cX13_loadWorth 80 = .ok (.goto (-49), 3) := by decide +kernel
theorem dX13_loadWorth_83 : decode cX13_loadWorth 83 = .ok (.return_, 1) := by decide +kernel
def w_loadWorth_31 (C : rCx) (Q : rS → Prop)  (a1 : Nat) (a3 : Int32) (a4 : Int32) (σ : rS) : Prop :=
  ∃ I : Nat → Nat → Int32 → Int32 → rS → Prop, (∃ n, I n a1 a3 a4 σ) ∧ ∀ n a1 a3 a4 σ, I n a1 a3 a4 σ →
    ((16 : Int32) ≤ a4 →
      Q σ) ∧
    (¬ ((16 : Int32) ≤ a4) →
      ∃ l1, rT a1 = some (0, l1) ∧ inb ((a3 + (1 : Int32)) + a4) l1 ∧
      inb ((240000 : Int32) + a4) 1200000 ∧
      ∀ σ2, σ2 = riU σ 90 (((240000 : Int32) + a4)).toNatClampNeg (σ.2.2.1 a1 (((a3 + (1 : Int32)) + a4)).toNatClampNeg) →
      ∃ l3, rT a1 = some (0, l3) ∧ inb ((a3 + (18 : Int32)) + a4) l3 ∧
      inb ((280000 : Int32) + a4) 1200000 ∧
      ∀ σ4, σ4 = riU σ2 90 (((280000 : Int32) + a4)).toNatClampNeg (σ2.2.2.1 a1 (((a3 + (18 : Int32)) + a4)).toNatClampNeg) →
      ∀ v4_5 : Int32, v4_5 = a4 + (1 : Int32) →
      ∃ k < n, I k a1 a3 v4_5 σ4)
theorem t_loadWorth_31 {C : rCx} (hC : cOK C) {Q : rS → Prop}   {a1 : Nat} {a3 : Int32} {a4 : Int32} {σ : rS} (F : w_loadWorth_31 C Q  a1 a3 a4 σ) : wG C 0 m_loadWorth 31 [some (.ref (co C)), some (.ref (cad C a1)), none, some (.int a3), some (.int a4)] [] σ (qV Q) := by
  obtain ⟨I, ⟨n0, hI0⟩, F0⟩ := F
  have key : ∀ n a1 a3 a4 σ, I n a1 a3 a4 σ → wG C 0 m_loadWorth 31 [some (.ref (co C)), some (.ref (cad C a1)), none, some (.int a3), some (.int a4)] [] σ (qV Q) := by
    intro n
    induction n using Nat.strongRecOn with
    | _ n ih =>
      intro a1 a3 a4 σ hI
      have F := F0 n a1 a3 a4 σ hI
      clear hI hI0
      refine s_il dX13_loadWorth_31 rfl ?_
      refine s_bi dX13_loadWorth_33 kb_16 ?_
      refine s_ii (t := 83) ((16 : Int32) ≤ a4) dX13_loadWorth_35 rfl rfl (fun hc => ?_) (fun hc => ?_)
      · replace F := F.1 hc
        exact s_rv dX13_loadWorth_83 rfl F
      · replace F := F.2 hc
        refine s_aln dX13_loadWorth_38 rfl ?_
        refine gf_185 dX13_loadWorth_39 rfl ?_
        refine s_ldcw dX13_loadWorth_42 rfl cn_735 ?_
        refine s_il dX13_loadWorth_45 rfl ?_
        refine s_iadd dX13_loadWorth_47 ?_
        refine s_aln dX13_loadWorth_48 rfl ?_
        refine s_iln dX13_loadWorth_49 rfl ?_
        refine s_ic dX13_loadWorth_50 ki_1 ?_
        refine s_iadd dX13_loadWorth_51 ?_
        refine s_il dX13_loadWorth_52 rfl ?_
        refine s_iadd dX13_loadWorth_54 ?_
        obtain ⟨l1, hTl1, hinl1, F⟩ := F
        refine s_ald hC dX13_loadWorth_55 hTl1 hinl1 ?_
        refine s_astb hC dX13_loadWorth_56 rt_90 F.1 (fun σ2 eσ2 => ?_)
        replace F := F.2 σ2 eσ2
        refine s_aln dX13_loadWorth_57 rfl ?_
        refine gf_185 dX13_loadWorth_58 rfl ?_
        refine s_ldcw dX13_loadWorth_61 rfl cn_736 ?_
        refine s_il dX13_loadWorth_64 rfl ?_
        refine s_iadd dX13_loadWorth_66 ?_
        refine s_aln dX13_loadWorth_67 rfl ?_
        refine s_iln dX13_loadWorth_68 rfl ?_
        refine s_bi dX13_loadWorth_69 kb_18 ?_
        refine s_iadd dX13_loadWorth_71 ?_
        refine s_il dX13_loadWorth_72 rfl ?_
        refine s_iadd dX13_loadWorth_74 ?_
        obtain ⟨l3, hTl3, hinl3, F⟩ := F
        refine s_ald hC dX13_loadWorth_75 hTl3 hinl3 ?_
        refine s_astb hC dX13_loadWorth_76 rt_90 F.1 (fun σ4 eσ4 => ?_)
        replace F := F.2 σ4 eσ4
        refine s_incb dX13_loadWorth_77 ki_1 rfl (Nat.le_of_ble_eq_true rfl) (fun v4_5 ev4_5 => ?_)
        replace F := F v4_5 ev4_5
        show wG _ _ _ _ [some (.ref (co C)), some (.ref (cad C a1)), none, some (.int a3), some (.int v4_5)] _ _ _
        refine s_goto (t := 31) dX13_loadWorth_80 rfl ?_
        obtain ⟨k, hk, hI⟩ := F
        exact s_k (ih k hk _ _ _ _ hI) ⟨rfl, rfl, rfl, rfl, trivial⟩
  exact key n0 a1 a3 a4 σ hI0

def w_loadWorth_0 (C : rCx) (Q : rS → Prop)  (a1 : Nat) (a2 : Int32) (σ : rS) : Prop :=
  ∀ v3_1 : Int32, v3_1 = ((34 : Int32) * a2) →
  ∃ l2, rT a1 = some (0, l2) ∧ inb v3_1 l2 ∧
  inb (6 : Int32) 30 ∧
  ∀ σ3, σ3 = riU σ 91 ((6 : Int32)).toNatClampNeg (σ.2.2.1 a1 (v3_1).toNatClampNeg) →
  ∃ l4, rT a1 = some (0, l4) ∧ inb (v3_1 + (17 : Int32)) l4 ∧
  inb (7 : Int32) 30 ∧
  ∀ σ5, σ5 = riU σ3 91 ((7 : Int32)).toNatClampNeg (σ3.2.2.1 a1 ((v3_1 + (17 : Int32))).toNatClampNeg) →
  w_loadWorth_31 C Q  a1 v3_1 (0 : Int32) σ5
theorem t_loadWorth_0 {C : rCx} (hC : cOK C) {Q : rS → Prop}   {a1 : Nat} {a2 : Int32} {σ : rS} (F : w_loadWorth_0 C Q  a1 a2 σ) : wG C 0 m_loadWorth 0 [some (.ref (co C)), some (.ref (cad C a1)), some (.int a2), none, none] [] σ (qV Q) := by
  unfold w_loadWorth_0 at F
  refine s_bi dX13_loadWorth_0 kb_34 ?_
  refine s_iln dX13_loadWorth_2 rfl ?_
  refine s_imul dX13_loadWorth_3 ?_
  refine s_isnb dX13_loadWorth_4 (Nat.le_of_ble_eq_true rfl) (fun v3_1 ev3_1 => ?_)
  replace F := F v3_1 ev3_1
  show wG _ _ _ _ [some (.ref (co C)), some (.ref (cad C a1)), some (.int a2), some (.int v3_1), none] _ _ _
  refine s_aln dX13_loadWorth_5 rfl ?_
  refine gf_188 dX13_loadWorth_6 rfl ?_
  refine s_bi dX13_loadWorth_9 kb_6 ?_
  refine s_aln dX13_loadWorth_11 rfl ?_
  refine s_iln dX13_loadWorth_12 rfl ?_
  obtain ⟨l2, hTl2, hinl2, F⟩ := F
  refine s_ald hC dX13_loadWorth_13 hTl2 hinl2 ?_
  refine s_astb hC dX13_loadWorth_14 rt_91 F.1 (fun σ3 eσ3 => ?_)
  replace F := F.2 σ3 eσ3
  refine s_aln dX13_loadWorth_15 rfl ?_
  refine gf_188 dX13_loadWorth_16 rfl ?_
  refine s_bi dX13_loadWorth_19 kb_7 ?_
  refine s_aln dX13_loadWorth_21 rfl ?_
  refine s_iln dX13_loadWorth_22 rfl ?_
  refine s_bi dX13_loadWorth_23 kb_17 ?_
  refine s_iadd dX13_loadWorth_25 ?_
  obtain ⟨l4, hTl4, hinl4, F⟩ := F
  refine s_ald hC dX13_loadWorth_26 hTl4 hinl4 ?_
  refine s_astb hC dX13_loadWorth_27 rt_91 F.1 (fun σ5 eσ5 => ?_)
  replace F := F.2 σ5 eσ5
  refine s_ic dX13_loadWorth_28 ki_0 ?_
  refine s_is dX13_loadWorth_29 (Nat.le_of_ble_eq_true rfl) rfl ?_
  show wG _ _ _ _ [some (.ref (co C)), some (.ref (cad C a1)), some (.int a2), some (.int v3_1), some (.int (0 : Int32))] _ _ _
  exact s_k (t_loadWorth_31 hC  F) ⟨rfl, rfl, rfl, rfl, trivial⟩

theorem m_loadWorth_run {C : rCx} (hC : cOK C) {Q : rS → Prop} {a1 : Nat} {a2 : Int32} {σ : rS} (F : w_loadWorth_0 C Q a1 a2 σ) : cV C 0 m_loadWorth [.ref (co C), .ref (cad C a1), .int a2] σ Q := m_V (m_ent _ 2) (t_loadWorth_0 hC F)

