/-! methods of the reference: divide, isZero, reduce, clearSum, add, scale, keepIn, load, addProduct -/
theorem dX13_divide_0 : decode cX13_divide 0 = .ok (.aload_n 0, 1) := by decide +kernel
theorem dX13_divide_1 : decode cX13_divide 1 = .ok (.iload_n 2, 1) := by decide +kernel
theorem dX13_divide_2 : decode cX13_divide 2 = .ok (.iload_n 3, 1) := by decide +kernel
theorem dX13_divide_3 : decode cX13_divide 3 = .ok (.invokevirtual 683, 3) := by decide +kernel
theorem dX13_divide_6 : decode cX13_divide 6 = .ok (.ifCond .ge 11, 3) := by decide +kernel
theorem dX13_divide_9 : decode cX13_divide 9 = .ok (.aload_n 0, 1) := by decide +kernel
theorem dX13_divide_10 : decode cX13_divide 10 = .ok (.getfield 188, 3) := by decide +kernel
theorem dX13_divide_13 : decode cX13_divide 13 = .ok (.iload_n 1, 1) := by decide +kernel
theorem dX13_divide_14 : decode cX13_divide 14 = .ok (.iconst 0, 1) := by decide +kernel
theorem dX13_divide_15 : decode cX13_divide 15 = .ok (.iastore, 1) := by decide +kernel
theorem dX13_divide_16 : decode cX13_divide 16 = .ok (.return_, 1) := by decide +kernel
theorem dX13_divide_17 : decode cX13_divide 17 = .ok (.iconst 0, 1) := by decide +kernel
theorem dX13_divide_18 : decode cX13_divide 18 = .ok (.istore 4, 2) := by decide +kernel
theorem dX13_divide_20 : decode cX13_divide 20 = .ok (.aload_n 0, 1) := by decide +kernel
theorem dX13_divide_21 : decode cX13_divide 21 = .ok (.getfield 185, 3) := by decide +kernel
theorem dX13_divide_24 : decode cX13_divide 24 = .ok (.ldc_w 676, 3) := by decide +kernel
theorem dX13_divide_27 : decode cX13_divide 27 = .ok (.iload_n 3, 1) := by decide +kernel
theorem dX13_divide_28 : decode cX13_divide 28 = .ok (.imul, 1) := by decide +kernel
theorem dX13_divide_29 : decode cX13_divide 29 = .ok (.aload_n 0, 1) := by decide +kernel
theorem dX13_divide_30 : decode cX13_divide 30 = .ok (.getfield 188, 3) := by decide +kernel
theorem dX13_divide_33 : decode cX13_divide 33 = .ok (.iload_n 3, 1) := by decide +kernel
theorem dX13_divide_34 : decode cX13_divide 34 = .ok (.iaload, 1) := by decide +kernel
theorem dX13_divide_35 : decode cX13_divide 35 = .ok (.iadd, 1) := by decide +kernel
theorem dX13_divide_36 : decode cX13_divide 36 = .ok (.iconst 1, 1) := by decide +kernel
theorem dX13_divide_37 : decode cX13_divide 37 = .ok (.isub, 1) := by decide +kernel
theorem dX13_divide_38 : decode cX13_divide 38 = .ok (.iaload, 1) := by decide +kernel
theorem dX13_divide_39 : decode cX13_divide 39 = .ok (.iload 4, 2) := by decide +kernel
theorem dX13_divide_41 : decode cX13_divide 41 = .ok (.ishl, 1) := by decide +kernel
theorem dX13_divide_42 : decode cX13_divide 42 = .ok (.ldc_w 686, 3) := by decide +kernel
theorem dX13_divide_45 : decode cX13_divide 45 = .ok (.iand, 1) := by decide +kernel
theorem dX13_divide_46 : decode cX13_divide 46 = .ok (.ifCond .ne 9, 3) := by decide +kernel
theorem dX13_divide_49 : decode cX13_divide 49 = .ok (.iinc 4 1, 3) := by decide +kernel
theorem dX13_divide_52 : decode cX13_divide 52 = .ok (.goto (-32), 3) := by decide +kernel
theorem dX13_divide_55 : decode cX13_divide 55 = .ok (.aload_n 0, 1) := by decide +kernel
theorem dX13_divide_56 : decode cX13_divide 56 = .ok (.iload_n 3, 1) := by decide +kernel
theorem dX13_divide_57 : decode cX13_divide 57 = .ok (.iload 4, 2) := by decide +kernel
theorem dX13_divide_59 : decode cX13_divide 59 = .ok (.invokevirtual 687, 3) := by decide +kernel
theorem dX13_divide_62 : decode cX13_divide 62 = .ok (.aload_n 0, 1) := by decide +kernel
theorem dX13_divide_63 : decode cX13_divide 63 = .ok (.iload_n 2, 1) := by decide +kernel
theorem dX13_divide_64 : decode cX13_divide 64 = .ok (.iload 4, 2) := by decide +kernel
theorem dX13_divide_66 : decode cX13_divide 66 = .ok (.invokevirtual 687, 3) := by decide +kernel
theorem dX13_divide_69 : decode cX13_divide 69 = .ok (.aload_n 0, 1) := by decide +kernel
theorem dX13_divide_70 : decode cX13_divide 70 = .ok (.getfield 188, 3) := by decide +kernel
theorem dX13_divide_73 : decode cX13_divide 73 = .ok (.iload_n 3, 1) := by decide +kernel
theorem dX13_divide_74 : decode cX13_divide 74 = .ok (.iaload, 1) := by decide +kernel
theorem dX13_divide_75 : decode cX13_divide 75 = .ok (.istore 5, 2) := by decide +kernel
theorem dX13_divide_77 : decode cX13_divide 77 = .ok (.aload_n 0, 1) := by decide +kernel
theorem dX13_divide_78 : decode cX13_divide 78 = .ok (.getfield 188, 3) := by decide +kernel
theorem dX13_divide_81 : decode cX13_divide 81 = .ok (.iload_n 2, 1) := by decide +kernel
theorem dX13_divide_82 : decode cX13_divide 82 = .ok (.iaload, 1) := by decide +kernel
theorem dX13_divide_83 : decode cX13_divide 83 = .ok (.istore 6, 2) := by decide +kernel
theorem dX13_divide_85 : decode cX13_divide 85 = .ok (.aload_n 0, 1) := by decide +kernel
theorem dX13_divide_86 : decode cX13_divide 86 = .ok (.getfield 185, 3) := by decide +kernel
theorem dX13_divide_89 : decode cX13_divide 89 = .ok (.ldc_w 676, 3) := by decide +kernel
theorem dX13_divide_92 : decode cX13_divide 92 = .ok (.iload_n 2, 1) := by decide +kernel
theorem dX13_divide_93 : decode cX13_divide 93 = .ok (.imul, 1) := by decide +kernel
theorem dX13_divide_94 : decode cX13_divide 94 = .ok (.iload 6, 2) := by decide +kernel
theorem dX13_divide_96 : decode cX13_divide 96 = .ok (.iadd, 1) := by decide +kernel
theorem dX13_divide_97 : decode cX13_divide 97 = .ok (.iconst 0, 1) := by decide +kernel
theorem dX13_divide_98 : decode cX13_divide 98 = .ok (.iastore, 1) := by decide +kernel
theorem dX13_divide_99 : decode cX13_divide 99 = .ok (.iload 6, 2) := by decide +kernel
theorem dX13_divide_101 : decode cX13_divide 101 = .ok (.iload 5, 2) := by decide +kernel
theorem dX13_divide_103 : decode cX13_divide 103 = .ok (.isub, 1) := by decide +kernel
theorem dX13_divide_104 : decode cX13_divide 104 = .ok (.istore 7, 2) := by decide +kernel
theorem dX13_divide_106 : decode cX13_divide 106 = .ok (.iload 7, 2) := by decide +kernel
theorem dX13_divide_108 : decode cX13_divide 108 = .ok (.ifCond .lt 30, 3) := by decide +kernel
theorem dX13_divide_111 : decode cX13_divide 111 = .ok (.aload_n 0, 1) := by decide +kernel
theorem dX13_divide_112 : decode cX13_divide 112 = .ok (.getfield 185, 3) := by decide +kernel
theorem dX13_divide_115 : decode cX13_divide 115 = .ok (.ldc_w 676, 3) := by decide +kernel
theorem dX13_divide_118 : decode cX13_divide 118 = .ok (.iload_n 1, 1) := by decide +kernel
theorem dX13_divide_119 : decode cX13_divide 119 = .ok (.imul, 1) := by decide +kernel
theorem dX13_divide_120 : decode cX13_divide 120 = .ok (.iload 7, 2) := by decide +kernel
theorem dX13_divide_122 : decode cX13_divide 122 = .ok (.iadd, 1) := by decide +kernel
theorem dX13_divide_123 : decode cX13_divide 123 = .ok (.aload_n 0, 1) := by decide +kernel
theorem dX13_divide_124 : decode cX13_divide 124 = .ok (.iload_n 2, 1) := by decide +kernel
theorem dX13_divide_125 : decode cX13_divide 125 = .ok (.iload 7, 2) := by decide +kernel
theorem dX13_divide_127 : decode cX13_divide 127 = .ok (.iload_n 3, 1) := by decide +kernel
theorem dX13_divide_128 : decode cX13_divide 128 = .ok (.invokevirtual 690, 3) := by decide +kernel
theorem dX13_divide_131 : decode cX13_divide 131 = .ok (.iastore, 1) := by decide +kernel
theorem dX13_divide_132 : decode cX13_divide 132 = .ok (.iinc 7 (-1), 3) := by decide +kernel
theorem dX13_divide_135 : decode cX13_divide 135 = .ok (.goto (-29), 3) := by decide +kernel
theorem dX13_divide_138 : decode cX13_divide 138 = .ok (.aload_n 0, 1) := by decide +kernel
theorem dX13_divide_139 : decode cX13_divide 139 = .ok (.getfield 188, 3) := by decide +kernel
theorem dX13_divide_142 : decode cX13_divide 142 = .ok (.iload_n 1, 1) := by decide +kernel
theorem dX13_divide_143 : decode cX13_divide 143 = .ok (.iload 6, 2) := by decide +kernel
theorem dX13_divide_145 : decode cX13_divide 145 = .ok (.iload 5, 2) := by decide +kernel
theorem dX13_divide_147 : decode cX13_divide 147 = .ok (.isub, 1) := by decide +kernel
theorem dX13_divide_148 : decode cX13_divide 148 = .ok (.iconst 1, 1) := by decide +kernel
theorem dX13_divide_149 : decode cX13_divide 149 = .ok (.iadd, 1) := by decide +kernel
theorem dX13_divide_150 : decode cX13_divide 150 = .ok (.iastore, 1) := by decide +kernel
theorem dX13_divide_151 : decode cX13_divide 151 = .ok (.aload_n 0, 1) := by decide +kernel
theorem dX13_divide_152 : decode cX13_divide 152 = .ok (.iload_n 1, 1) := by decide +kernel
theorem dX13_divide_153 : decode cX13_divide 153 = .ok (.invokevirtual 680, 3) := by decide +kernel
theorem dX13_divide_156 : decode cX13_divide 156 = .ok (.aload_n 0, 1) := by decide +kernel
theorem dX13_divide_157 : decode cX13_divide 157 = .ok (.getfield 188, 3) := by decide +kernel
theorem dX13_divide_160 : decode cX13_divide 160 = .ok (.iload_n 2, 1) := by decide +kernel
theorem dX13_divide_161 : decode cX13_divide 161 = .ok (.iload 5, 2) := by decide +kernel
theorem dX13_divide_163 : decode cX13_divide 163 = .ok (.iastore, 1) := by decide +kernel
theorem dX13_divide_164 : decode cX13_divide 164 = .ok (.aload_n 0, 1) := by decide +kernel
theorem dX13_divide_165 : decode cX13_divide 165 = .ok (.iload_n 2, 1) := by decide +kernel
theorem dX13_divide_166 : decode cX13_divide 166 = .ok (.invokevirtual 680, 3) := by decide +kernel
theorem dX13_divide_169 : decode cX13_divide 169 = .ok (.aload_n 0, 1) := by decide +kernel
theorem dX13_divide_170 : decode cX13_divide 170 = .ok (.iload_n 2, 1) := by decide +kernel
theorem dX13_divide_171 : decode cX13_divide 171 = .ok (.iload 4, 2) := by decide +kernel
theorem dX13_divide_173 : decode cX13_divide 173 = .ok (.invokevirtual 693, 3) := by decide +kernel
theorem dX13_divide_176 : decode cX13_divide 176 = .ok (.aload_n 0, 1) := by decide +kernel
theorem dX13_divide_177 : decode cX13_divide 177 = .ok (.iload_n 3, 1) := by decide +kernel
theorem dX13_divide_178 : decode cX13_divide 178 = .ok (.iload 4, 2) := by decide +kernel
theorem dX13_divide_180 : decode cX13_divide 180 = .ok (.invokevirtual 693, 3) := by decide +kernel
theorem dX13_divide_183 : decode cX13_divide 183 = .ok (.return_, 1) := by decide +kernel
def w_divide_106 (C : rCx) (Q : rS → Prop)  (a1 : Int32) (a2 : Int32) (a3 : Int32) (a4 : Int32) (a5 : Int32) (a6 : Int32) (a7 : Int32) (σ : rS) : Prop :=
  ∃ I : Nat → Int32 → Int32 → Int32 → Int32 → Int32 → Int32 → Int32 → rS → Prop, (∃ n, I n a1 a2 a3 a4 a5 a6 a7 σ) ∧ ∀ n a1 a2 a3 a4 a5 a6 a7 σ, I n a1 a2 a3 a4 a5 a6 a7 σ →
    (a7 < 0 →
      inb a1 30 ∧
      ∀ σ1, σ1 = riU σ 91 (a1).toNatClampNeg ((a6 - a5) + (1 : Int32)) →
      cV C 0 m_trim [.ref (co C), .int a1] σ1 (fun σ2 =>
        inb a2 30 ∧
        ∀ σ4, σ4 = riU σ2 91 (a2).toNatClampNeg a5 →
        cV C 0 m_trim [.ref (co C), .int a2] σ4 (fun σ5 =>
          cV C 1 m_shiftDown [.ref (co C), .int a2, .int a4] σ5 (fun σ7 =>
            cV C 1 m_shiftDown [.ref (co C), .int a3, .int a4] σ7 (fun σ9 =>
              Q σ9))))) ∧
    (¬ (a7 < 0) →
      cI C 0 m_oneDigit [.ref (co C), .int a2, .int a7, .int a3] σ (fun r12 σ11 =>
        inb (((40000 : Int32) * a1) + a7) 1200000 ∧
        ∀ σ13, σ13 = riU σ11 90 ((((40000 : Int32) * a1) + a7)).toNatClampNeg r12 →
        ∀ v7_14 : Int32, v7_14 = a7 + (-1 : Int32) →
        ∃ k < n, I k a1 a2 a3 a4 a5 a6 v7_14 σ13))
theorem t_divide_106 {C : rCx} (hC : cOK C) {Q : rS → Prop}   {a1 : Int32} {a2 : Int32} {a3 : Int32} {a4 : Int32} {a5 : Int32} {a6 : Int32} {a7 : Int32} {σ : rS} (F : w_divide_106 C Q  a1 a2 a3 a4 a5 a6 a7 σ) : wG C 2 m_divide 106 [some (.ref (co C)), some (.int a1), some (.int a2), some (.int a3), some (.int a4), some (.int a5), some (.int a6), some (.int a7)] [] σ (qV Q) := by
  obtain ⟨I, ⟨n0, hI0⟩, F0⟩ := F
  have key : ∀ n a1 a2 a3 a4 a5 a6 a7 σ, I n a1 a2 a3 a4 a5 a6 a7 σ → wG C 2 m_divide 106 [some (.ref (co C)), some (.int a1), some (.int a2), some (.int a3), some (.int a4), some (.int a5), some (.int a6), some (.int a7)] [] σ (qV Q) := by
    intro n
    induction n using Nat.strongRecOn with
    | _ n ih =>
      intro a1 a2 a3 a4 a5 a6 a7 σ hI
      have F := F0 n a1 a2 a3 a4 a5 a6 a7 σ hI
      clear hI hI0
      refine s_il dX13_divide_106 rfl ?_
      refine s_i (t := 138) (a7 < 0) dX13_divide_108 rfl rfl (fun hc => ?_) (fun hc => ?_)
      · replace F := F.1 hc
        refine s_aln dX13_divide_138 rfl ?_
        refine gf_188 dX13_divide_139 rfl ?_
        refine s_iln dX13_divide_142 rfl ?_
        refine s_il dX13_divide_143 rfl ?_
        refine s_il dX13_divide_145 rfl ?_
        refine s_isub dX13_divide_147 ?_
        refine s_ic dX13_divide_148 ki_1 ?_
        refine s_iadd dX13_divide_149 ?_
        refine s_astb hC dX13_divide_150 rt_91 F.1 (fun σ1 eσ1 => ?_)
        replace F := F.2 σ1 eσ1
        refine s_aln dX13_divide_151 rfl ?_
        refine s_iln dX13_divide_152 rfl ?_
        refine k_680 dX13_divide_153 rfl (Nat.le_of_ble_eq_true rfl) (Nat.le_of_ble_eq_true rfl) F (fun σ2 F => ?_)
        refine s_aln dX13_divide_156 rfl ?_
        refine gf_188 dX13_divide_157 rfl ?_
        refine s_iln dX13_divide_160 rfl ?_
        refine s_il dX13_divide_161 rfl ?_
        refine s_astb hC dX13_divide_163 rt_91 F.1 (fun σ4 eσ4 => ?_)
        replace F := F.2 σ4 eσ4
        refine s_aln dX13_divide_164 rfl ?_
        refine s_iln dX13_divide_165 rfl ?_
        refine k_680 dX13_divide_166 rfl (Nat.le_of_ble_eq_true rfl) (Nat.le_of_ble_eq_true rfl) F (fun σ5 F => ?_)
        refine s_aln dX13_divide_169 rfl ?_
        refine s_iln dX13_divide_170 rfl ?_
        refine s_il dX13_divide_171 rfl ?_
        refine k_693 dX13_divide_173 rfl (Nat.le_of_ble_eq_true rfl) (Nat.le_of_ble_eq_true rfl) F (fun σ7 F => ?_)
        refine s_aln dX13_divide_176 rfl ?_
        refine s_iln dX13_divide_177 rfl ?_
        refine s_il dX13_divide_178 rfl ?_
        refine k_693 dX13_divide_180 rfl (Nat.le_of_ble_eq_true rfl) (Nat.le_of_ble_eq_true rfl) F (fun σ9 F => ?_)
        exact s_rv dX13_divide_183 rfl F
      · replace F := F.2 hc
        refine s_aln dX13_divide_111 rfl ?_
        refine gf_185 dX13_divide_112 rfl ?_
        refine s_ldcw dX13_divide_115 rfl cn_676 ?_
        refine s_iln dX13_divide_118 rfl ?_
        refine s_imul dX13_divide_119 ?_
        refine s_il dX13_divide_120 rfl ?_
        refine s_iadd dX13_divide_122 ?_
        refine s_aln dX13_divide_123 rfl ?_
        refine s_iln dX13_divide_124 rfl ?_
        refine s_il dX13_divide_125 rfl ?_
        refine s_iln dX13_divide_127 rfl ?_
        refine k_690 dX13_divide_128 rfl (Nat.le_of_ble_eq_true rfl) (Nat.le_of_ble_eq_true rfl) F (fun r12 σ11 F => ?_)
        refine s_astb hC dX13_divide_131 rt_90 F.1 (fun σ13 eσ13 => ?_)
        replace F := F.2 σ13 eσ13
        refine s_incb dX13_divide_132 ki_m1 rfl (Nat.le_of_ble_eq_true rfl) (fun v7_14 ev7_14 => ?_)
        replace F := F v7_14 ev7_14
        show wG _ _ _ _ [some (.ref (co C)), some (.int a1), some (.int a2), some (.int a3), some (.int a4), some (.int a5), some (.int a6), some (.int v7_14)] _ _ _
        refine s_goto (t := 106) dX13_divide_135 rfl ?_
        obtain ⟨k, hk, hI⟩ := F
        exact s_k (ih k hk _ _ _ _ _ _ _ _ hI) ⟨rfl, rfl, rfl, rfl, rfl, rfl, rfl, rfl, trivial⟩
  exact key n0 a1 a2 a3 a4 a5 a6 a7 σ hI0

def w_divide_20 (C : rCx) (Q : rS → Prop)  (a1 : Int32) (a2 : Int32) (a3 : Int32) (a4 : Int32) (σ : rS) : Prop :=
  ∃ I : Nat → Int32 → Int32 → Int32 → Int32 → rS → Prop, (∃ n, I n a1 a2 a3 a4 σ) ∧ ∀ n a1 a2 a3 a4 σ, I n a1 a2 a3 a4 σ →
    inb a3 30 ∧
    inb ((((40000 : Int32) * a3) + (σ.2.2.1 91 (a3).toNatClampNeg)) - (1 : Int32)) 1200000 ∧
    (¬ ((((σ.2.2.1 90 (((((40000 : Int32) * a3) + (σ.2.2.1 91 (a3).toNatClampNeg)) - (1 : Int32))).toNatClampNeg) <<< (a4 &&& 31)) &&& (32768 : Int32)) = 0) →
      cV C 1 m_shiftUp [.ref (co C), .int a3, .int a4] σ (fun σ1 =>
        cV C 1 m_shiftUp [.ref (co C), .int a2, .int a4] σ1 (fun σ3 =>
          inb a3 30 ∧
          ∀ v5_5 : Int32, v5_5 = (σ3.2.2.1 91 (a3).toNatClampNeg) →
          inb a2 30 ∧
          ∀ v6_6 : Int32, v6_6 = (σ3.2.2.1 91 (a2).toNatClampNeg) →
          inb (((40000 : Int32) * a2) + v6_6) 1200000 ∧
          ∀ σ7, σ7 = riU σ3 90 ((((40000 : Int32) * a2) + v6_6)).toNatClampNeg (0 : Int32) →
          ∀ v7_8 : Int32, v7_8 = (v6_6 - v5_5) →
          w_divide_106 C Q  a1 a2 a3 a4 v5_5 v6_6 v7_8 σ7))) ∧
    ((((σ.2.2.1 90 (((((40000 : Int32) * a3) + (σ.2.2.1 91 (a3).toNatClampNeg)) - (1 : Int32))).toNatClampNeg) <<< (a4 &&& 31)) &&& (32768 : Int32)) = 0 →
      ∀ v4_9 : Int32, v4_9 = a4 + (1 : Int32) →
      ∃ k < n, I k a1 a2 a3 v4_9 σ)
theorem t_divide_20 {C : rCx} (hC : cOK C) {Q : rS → Prop}   {a1 : Int32} {a2 : Int32} {a3 : Int32} {a4 : Int32} {σ : rS} (F : w_divide_20 C Q  a1 a2 a3 a4 σ) : wG C 2 m_divide 20 [some (.ref (co C)), some (.int a1), some (.int a2), some (.int a3), some (.int a4), none, none, none] [] σ (qV Q) := by
  obtain ⟨I, ⟨n0, hI0⟩, F0⟩ := F
  have key : ∀ n a1 a2 a3 a4 σ, I n a1 a2 a3 a4 σ → wG C 2 m_divide 20 [some (.ref (co C)), some (.int a1), some (.int a2), some (.int a3), some (.int a4), none, none, none] [] σ (qV Q) := by
    intro n
    induction n using Nat.strongRecOn with
    | _ n ih =>
      intro a1 a2 a3 a4 σ hI
      have F := F0 n a1 a2 a3 a4 σ hI
      clear hI hI0
      refine s_aln dX13_divide_20 rfl ?_
      refine gf_185 dX13_divide_21 rfl ?_
      refine s_ldcw dX13_divide_24 rfl cn_676 ?_
      refine s_iln dX13_divide_27 rfl ?_
      refine s_imul dX13_divide_28 ?_
      refine s_aln dX13_divide_29 rfl ?_
      refine gf_188 dX13_divide_30 rfl ?_
      refine s_iln dX13_divide_33 rfl ?_
      refine s_ald hC dX13_divide_34 rt_91 F.1 ?_
      replace F := F.2
      refine s_iadd dX13_divide_35 ?_
      refine s_ic dX13_divide_36 ki_1 ?_
      refine s_isub dX13_divide_37 ?_
      refine s_ald hC dX13_divide_38 rt_90 F.1 ?_
      replace F := F.2
      refine s_il dX13_divide_39 rfl ?_
      refine s_ishl dX13_divide_41 ?_
      refine s_ldcw dX13_divide_42 rfl cn_686 ?_
      refine s_iand dX13_divide_45 ?_
      refine s_in (t := 55) ((((σ.2.2.1 90 (((((40000 : Int32) * a3) + (σ.2.2.1 91 (a3).toNatClampNeg)) - (1 : Int32))).toNatClampNeg) <<< (a4 &&& 31)) &&& (32768 : Int32)) = 0) dX13_divide_46 rfl rfl (fun hc => ?_) (fun hc => ?_)
      · replace F := F.1 hc
        refine s_aln dX13_divide_55 rfl ?_
        refine s_iln dX13_divide_56 rfl ?_
        refine s_il dX13_divide_57 rfl ?_
        refine k_687 dX13_divide_59 rfl (Nat.le_of_ble_eq_true rfl) (Nat.le_of_ble_eq_true rfl) F (fun σ1 F => ?_)
        refine s_aln dX13_divide_62 rfl ?_
        refine s_iln dX13_divide_63 rfl ?_
        refine s_il dX13_divide_64 rfl ?_
        refine k_687 dX13_divide_66 rfl (Nat.le_of_ble_eq_true rfl) (Nat.le_of_ble_eq_true rfl) F (fun σ3 F => ?_)
        refine s_aln dX13_divide_69 rfl ?_
        refine gf_188 dX13_divide_70 rfl ?_
        refine s_iln dX13_divide_73 rfl ?_
        refine s_ald hC dX13_divide_74 rt_91 F.1 ?_
        replace F := F.2
        refine s_isb dX13_divide_75 (Nat.le_of_ble_eq_true rfl) (fun v5_5 ev5_5 => ?_)
        replace F := F v5_5 ev5_5
        show wG _ _ _ _ [some (.ref (co C)), some (.int a1), some (.int a2), some (.int a3), some (.int a4), some (.int v5_5), none, none] _ _ _
        refine s_aln dX13_divide_77 rfl ?_
        refine gf_188 dX13_divide_78 rfl ?_
        refine s_iln dX13_divide_81 rfl ?_
        refine s_ald hC dX13_divide_82 rt_91 F.1 ?_
        replace F := F.2
        refine s_isb dX13_divide_83 (Nat.le_of_ble_eq_true rfl) (fun v6_6 ev6_6 => ?_)
        replace F := F v6_6 ev6_6
        show wG _ _ _ _ [some (.ref (co C)), some (.int a1), some (.int a2), some (.int a3), some (.int a4), some (.int v5_5), some (.int v6_6), none] _ _ _
        refine s_aln dX13_divide_85 rfl ?_
        refine gf_185 dX13_divide_86 rfl ?_
        refine s_ldcw dX13_divide_89 rfl cn_676 ?_
        refine s_iln dX13_divide_92 rfl ?_
        refine s_imul dX13_divide_93 ?_
        refine s_il dX13_divide_94 rfl ?_
        refine s_iadd dX13_divide_96 ?_
        refine s_ic dX13_divide_97 ki_0 ?_
        refine s_astb hC dX13_divide_98 rt_90 F.1 (fun σ7 eσ7 => ?_)
        replace F := F.2 σ7 eσ7
        refine s_il dX13_divide_99 rfl ?_
        refine s_il dX13_divide_101 rfl ?_
        refine s_isub dX13_divide_103 ?_
        refine s_isb dX13_divide_104 (Nat.le_of_ble_eq_true rfl) (fun v7_8 ev7_8 => ?_)
        replace F := F v7_8 ev7_8
        show wG _ _ _ _ [some (.ref (co C)), some (.int a1), some (.int a2), some (.int a3), some (.int a4), some (.int v5_5), some (.int v6_6), some (.int v7_8)] _ _ _
        exact s_k (t_divide_106 hC  F) ⟨rfl, rfl, rfl, rfl, rfl, rfl, rfl, rfl, trivial⟩
      · replace F := F.2 hc
        refine s_incb dX13_divide_49 ki_1 rfl (Nat.le_of_ble_eq_true rfl) (fun v4_9 ev4_9 => ?_)
        replace F := F v4_9 ev4_9
        show wG _ _ _ _ [some (.ref (co C)), some (.int a1), some (.int a2), some (.int a3), some (.int v4_9), none, none, none] _ _ _
        refine s_goto (t := 20) dX13_divide_52 rfl ?_
        obtain ⟨k, hk, hI⟩ := F
        exact s_k (ih k hk _ _ _ _ _ hI) ⟨rfl, rfl, rfl, rfl, rfl, trivial⟩
  exact key n0 a1 a2 a3 a4 σ hI0

def w_divide_0 (C : rCx) (Q : rS → Prop)  (a1 : Int32) (a2 : Int32) (a3 : Int32) (σ : rS) : Prop :=
  cI C 0 m_compare [.ref (co C), .int a2, .int a3] σ (fun r2 σ1 =>
    (0 ≤ r2 →
      w_divide_20 C Q  a1 a2 a3 (0 : Int32) σ1) ∧
    (¬ (0 ≤ r2) →
      inb a1 30 ∧
      ∀ σ3, σ3 = riU σ1 91 (a1).toNatClampNeg (0 : Int32) →
      Q σ3))
theorem t_divide_0 {C : rCx} (hC : cOK C) {Q : rS → Prop}   {a1 : Int32} {a2 : Int32} {a3 : Int32} {σ : rS} (F : w_divide_0 C Q  a1 a2 a3 σ) : wG C 2 m_divide 0 [some (.ref (co C)), some (.int a1), some (.int a2), some (.int a3), none, none, none, none] [] σ (qV Q) := by
  unfold w_divide_0 at F
  refine s_aln dX13_divide_0 rfl ?_
  refine s_iln dX13_divide_1 rfl ?_
  refine s_iln dX13_divide_2 rfl ?_
  refine k_683 dX13_divide_3 rfl (Nat.le_of_ble_eq_true rfl) (Nat.le_of_ble_eq_true rfl) F (fun r2 σ1 F => ?_)
  refine s_i (t := 17) (0 ≤ r2) dX13_divide_6 rfl rfl (fun hc => ?_) (fun hc => ?_)
  · replace F := F.1 hc
    refine s_ic dX13_divide_17 ki_0 ?_
    refine s_is dX13_divide_18 (Nat.le_of_ble_eq_true rfl) rfl ?_
    show wG _ _ _ _ [some (.ref (co C)), some (.int a1), some (.int a2), some (.int a3), some (.int (0 : Int32)), none, none, none] _ _ _
    exact s_k (t_divide_20 hC  F) ⟨rfl, rfl, rfl, rfl, rfl, trivial⟩
  · replace F := F.2 hc
    refine s_aln dX13_divide_9 rfl ?_
    refine gf_188 dX13_divide_10 rfl ?_
    refine s_iln dX13_divide_13 rfl ?_
    refine s_ic dX13_divide_14 ki_0 ?_
    refine s_astb hC dX13_divide_15 rt_91 F.1 (fun σ3 eσ3 => ?_)
    replace F := F.2 σ3 eσ3
    exact s_rv dX13_divide_16 rfl F

theorem m_divide_run {C : rCx} (hC : cOK C) {Q : rS → Prop} {a1 : Int32} {a2 : Int32} {a3 : Int32} {σ : rS} (F : w_divide_0 C Q a1 a2 a3 σ) : cV C 2 m_divide [.ref (co C), .int a1, .int a2, .int a3] σ Q := m_V (m_ent _ 4) (t_divide_0 hC F)

theorem dX13_isZero_0 : decode cX13_isZero 0 = .ok (.aload_n 0, 1) := by decide +kernel
theorem dX13_isZero_1 : decode cX13_isZero 1 = .ok (.getfield 188, 3) := by decide +kernel
theorem dX13_isZero_4 : decode cX13_isZero 4 = .ok (.iload_n 1, 1) := by decide +kernel
theorem dX13_isZero_5 : decode cX13_isZero 5 = .ok (.iaload, 1) := by decide +kernel
theorem dX13_isZero_6 : decode cX13_isZero 6 = .ok (.ifCond .ne 7, 3) := by decide +kernel
theorem dX13_isZero_9 : decode cX13_isZero 9 = .ok (.iconst 1, 1) := by decide +kernel
theorem dX13_isZero_10 : decode cX13_isZero 10 = .ok (.goto 4, 3) := by decide +kernel
theorem dX13_isZero_13 : decode cX13_isZero 13 = .ok (.iconst 0, 1) := by decide +kernel
theorem dX13_isZero_14 : decode cX13_isZero 14 = .ok (.ireturn, 1) := by decide +kernel
def w_isZero_0 (C : rCx) (Q : Int32 → rS → Prop)  (a1 : Int32) (σ : rS) : Prop :=
  inb a1 30 ∧
  (¬ ((σ.2.2.1 91 (a1).toNatClampNeg) = 0) →
    Q (0 : Int32) σ) ∧
  ((σ.2.2.1 91 (a1).toNatClampNeg) = 0 →
    Q (1 : Int32) σ)
theorem t_isZero_0 {C : rCx} (hC : cOK C) {Q : Int32 → rS → Prop}   {a1 : Int32} {σ : rS} (F : w_isZero_0 C Q  a1 σ) : wG C 0 m_isZero 0 [some (.ref (co C)), some (.int a1)] [] σ (qI Q) := by
  unfold w_isZero_0 at F
  refine s_aln dX13_isZero_0 rfl ?_
  refine gf_188 dX13_isZero_1 rfl ?_
  refine s_iln dX13_isZero_4 rfl ?_
  refine s_ald hC dX13_isZero_5 rt_91 F.1 ?_
  replace F := F.2
  refine s_in (t := 13) ((σ.2.2.1 91 (a1).toNatClampNeg) = 0) dX13_isZero_6 rfl rfl (fun hc => ?_) (fun hc => ?_)
  · replace F := F.1 hc
    refine s_ic dX13_isZero_13 ki_0 ?_
    exact s_ri dX13_isZero_14 rfl (nb_nar nb_0) F
  · replace F := F.2 hc
    refine s_ic dX13_isZero_9 ki_1 ?_
    refine s_goto (t := 14) dX13_isZero_10 rfl ?_
    exact s_ri dX13_isZero_14 rfl (nb_nar nb_1) F

theorem m_isZero_run {C : rCx} (hC : cOK C) {Q : Int32 → rS → Prop} {a1 : Int32} {σ : rS} (F : w_isZero_0 C Q a1 σ) : cI C 0 m_isZero [.ref (co C), .int a1] σ Q := m_I (m_ent _ 0) (t_isZero_0 hC F)

theorem dX13_reduce_0 : decode cX13_reduce 0 = .ok (.aload_n 0, 1) := by decide +kernel
theorem dX13_reduce_1 : decode cX13_reduce 1 = .ok (.iload_n 1, 1) := by decide +kernel
theorem dX13_reduce_2 : decode cX13_reduce 2 = .ok (.invokevirtual 696, 3) := by decide +kernel
theorem dX13_reduce_5 : decode cX13_reduce 5 = .ok (.ifCond .eq 10, 3) := by decide +kernel
theorem dX13_reduce_8 : decode cX13_reduce 8 = .ok (.aload_n 0, 1) := by decide +kernel
theorem dX13_reduce_9 : decode cX13_reduce 9 = .ok (.iload_n 2, 1) := by decide +kernel
theorem dX13_reduce_10 : decode cX13_reduce 10 = .ok (.lconst 1, 1) := by decide +kernel
theorem dX13_reduce_11 : decode cX13_reduce 11 = .ok (.invokevirtual 699, 3) := by decide +kernel
theorem dX13_reduce_14 : decode cX13_reduce 14 = .ok (.return_, 1) := by decide +kernel
theorem dX13_reduce_15 : decode cX13_reduce 15 = .ok (.aload_n 0, 1) := by decide +kernel
theorem dX13_reduce_16 : decode cX13_reduce 16 = .ok (.iconst 0, 1) := by decide +kernel
theorem dX13_reduce_17 : decode cX13_reduce 17 = .ok (.iload_n 1, 1) := by decide +kernel
theorem dX13_reduce_18 : decode cX13_reduce 18 = .ok (.invokevirtual 703, 3) := by decide +kernel
theorem dX13_reduce_21 : decode cX13_reduce 21 = .ok (.aload_n 0, 1) := by decide +kernel
theorem dX13_reduce_22 : decode cX13_reduce 22 = .ok (.iconst 1, 1) := by decide +kernel
theorem dX13_reduce_23 : decode cX13_reduce 23 = .ok (.iload_n 2, 1) := by decide +kernel
theorem dX13_reduce_24 : decode cX13_reduce 24 = .ok (.invokevirtual 703, 3) := by decide +kernel
theorem dX13_reduce_27 : decode cX13_reduce 27 = .ok (.iconst (-1), 1) := by decide +kernel
theorem dX13_reduce_28 : decode cX13_reduce 28 = .ok (.istore_n 3, 1) := by decide +kernel
theorem dX13_reduce_29 : decode cX13_reduce 29 = .ok (.iload_n 3, 1) := by decide +kernel
theorem dX13_reduce_30 : decode cX13_reduce 30 = .ok (.iconst (-1), 1) := by decide +kernel
theorem dX13_reduce_31 : decode cX13_reduce 31 = .ok (.if_icmp .ne 47, 3) := by decide +kernel
theorem dX13_reduce_34 : decode cX13_reduce 34 = .ok (.aload_n 0, 1) := by decide +kernel
theorem dX13_reduce_35 : decode cX13_reduce 35 = .ok (.iconst 2, 1) := by decide +kernel
theorem dX13_reduce_36 : decode cX13_reduce 36 = .ok (.iconst 0, 1) := by decide +kernel
theorem dX13_reduce_37 : decode cX13_reduce 37 = .ok (.iconst 1, 1) := by decide +kernel
theorem dX13_reduce_38 : decode cX13_reduce 38 = .ok (.invokevirtual 706, 3) := by decide +kernel
theorem dX13_reduce_41 : decode cX13_reduce 41 = .ok (.aload_n 0, 1) := by decide +kernel
theorem dX13_reduce_42 : decode cX13_reduce 42 = .ok (.iconst 0, 1) := by decide +kernel
theorem dX13_reduce_43 : decode cX13_reduce 43 = .ok (.invokevirtual 696, 3) := by decide +kernel
theorem dX13_reduce_46 : decode cX13_reduce 46 = .ok (.ifCond .eq 8, 3) := by decide +kernel
theorem dX13_reduce_49 : decode cX13_reduce 49 = .ok (.iconst 1, 1) := by decide +kernel
theorem dX13_reduce_50 : decode cX13_reduce 50 = .ok (.istore_n 3, 1) := by decide +kernel
theorem dX13_reduce_51 : decode cX13_reduce 51 = .ok (.goto (-22), 3) := by decide +kernel
theorem dX13_reduce_54 : decode cX13_reduce 54 = .ok (.aload_n 0, 1) := by decide +kernel
theorem dX13_reduce_55 : decode cX13_reduce 55 = .ok (.iconst 2, 1) := by decide +kernel
theorem dX13_reduce_56 : decode cX13_reduce 56 = .ok (.iconst 1, 1) := by decide +kernel
theorem dX13_reduce_57 : decode cX13_reduce 57 = .ok (.iconst 0, 1) := by decide +kernel
theorem dX13_reduce_58 : decode cX13_reduce 58 = .ok (.invokevirtual 706, 3) := by decide +kernel
theorem dX13_reduce_61 : decode cX13_reduce 61 = .ok (.aload_n 0, 1) := by decide +kernel
theorem dX13_reduce_62 : decode cX13_reduce 62 = .ok (.iconst 1, 1) := by decide +kernel
theorem dX13_reduce_63 : decode cX13_reduce 63 = .ok (.invokevirtual 696, 3) := by decide +kernel
theorem dX13_reduce_66 : decode cX13_reduce 66 = .ok (.ifCond .eq 7, 3) := by decide +kernel
theorem dX13_reduce_69 : decode cX13_reduce 69 = .ok (.iconst 0, 1) := by decide +kernel
theorem dX13_reduce_70 : decode cX13_reduce 70 = .ok (.goto 4, 3) := by decide +kernel
theorem dX13_reduce_73 : decode cX13_reduce 73 = .ok (.iconst (-1), 1) := by decide +kernel
theorem dX13_reduce_74 : decode cX13_reduce 74 = .ok (.istore_n 3, 1) := by decide +kernel
theorem dX13_reduce_75 : decode cX13_reduce 75 = .ok (.goto (-46), 3) := by decide +kernel
theorem dX13_reduce_78 : decode cX13_reduce 78 = .ok (.aload_n 0, 1) := by decide +kernel
theorem dX13_reduce_79 : decode cX13_reduce 79 = .ok (.getfield 188, 3) := by decide +kernel
theorem dX13_reduce_82 : decode cX13_reduce 82 = .ok (.iload_n 3, 1) := by decide +kernel
theorem dX13_reduce_83 : decode cX13_reduce 83 = .ok (.iaload, 1) := by decide +kernel
theorem dX13_reduce_84 : decode cX13_reduce 84 = .ok (.iconst 1, 1) := by decide +kernel
theorem dX13_reduce_85 : decode cX13_reduce 85 = .ok (.if_icmp .ne 18, 3) := by decide +kernel
theorem dX13_reduce_88 : decode cX13_reduce 88 = .ok (.aload_n 0, 1) := by decide +kernel
theorem dX13_reduce_89 : decode cX13_reduce 89 = .ok (.getfield 185, 3) := by decide +kernel
theorem dX13_reduce_92 : decode cX13_reduce 92 = .ok (.ldc_w 676, 3) := by decide +kernel
theorem dX13_reduce_95 : decode cX13_reduce 95 = .ok (.iload_n 3, 1) := by decide +kernel
theorem dX13_reduce_96 : decode cX13_reduce 96 = .ok (.imul, 1) := by decide +kernel
theorem dX13_reduce_97 : decode cX13_reduce 97 = .ok (.iaload, 1) := by decide +kernel
theorem dX13_reduce_98 : decode cX13_reduce 98 = .ok (.iconst 1, 1) := by decide +kernel
theorem dX13_reduce_99 : decode cX13_reduce 99 = .ok (.if_icmp .ne 4, 3) := by decide +kernel
theorem dX13_reduce_102 : decode cX13_reduce 102 = .ok (.return_, 1) := by decide +kernel
theorem dX13_reduce_103 : decode cX13_reduce 103 = .ok (.aload_n 0, 1) := by decide +kernel
theorem dX13_reduce_104 : decode cX13_reduce 104 = .ok (.iconst 3, 1) := by decide +kernel
theorem dX13_reduce_105 : decode cX13_reduce 105 = .ok (.iload_n 3, 1) := by decide +kernel
theorem dX13_reduce_106 : decode cX13_reduce 106 = .ok (.invokevirtual 703, 3) := by decide +kernel
theorem dX13_reduce_109 : decode cX13_reduce 109 = .ok (.aload_n 0, 1) := by decide +kernel
theorem dX13_reduce_110 : decode cX13_reduce 110 = .ok (.iconst 2, 1) := by decide +kernel
theorem dX13_reduce_111 : decode cX13_reduce 111 = .ok (.iload_n 1, 1) := by decide +kernel
theorem dX13_reduce_112 : decode cX13_reduce 112 = .ok (.iconst 3, 1) := by decide +kernel
theorem dX13_reduce_113 : decode cX13_reduce 113 = .ok (.invokevirtual 706, 3) := by decide +kernel
theorem dX13_reduce_116 : decode cX13_reduce 116 = .ok (.aload_n 0, 1) := by decide +kernel
theorem dX13_reduce_117 : decode cX13_reduce 117 = .ok (.iload_n 1, 1) := by decide +kernel
theorem dX13_reduce_118 : decode cX13_reduce 118 = .ok (.iconst 2, 1) := by decide +kernel
theorem dX13_reduce_119 : decode cX13_reduce 119 = .ok (.invokevirtual 703, 3) := by decide +kernel
theorem dX13_reduce_122 : decode cX13_reduce 122 = .ok (.aload_n 0, 1) := by decide +kernel
theorem dX13_reduce_123 : decode cX13_reduce 123 = .ok (.iconst 2, 1) := by decide +kernel
theorem dX13_reduce_124 : decode cX13_reduce 124 = .ok (.iload_n 2, 1) := by decide +kernel
theorem dX13_reduce_125 : decode cX13_reduce 125 = .ok (.iconst 3, 1) := by decide +kernel
theorem dX13_reduce_126 : decode cX13_reduce 126 = .ok (.invokevirtual 706, 3) := by decide +kernel
theorem dX13_reduce_129 : decode cX13_reduce 129 = .ok (.aload_n 0, 1) := by decide +kernel
theorem dX13_reduce_130 : decode cX13_reduce 130 = .ok (.iload_n 2, 1) := by decide +kernel
theorem dX13_reduce_131 : decode cX13_reduce 131 = .ok (.iconst 2, 1) := by decide +kernel
theorem dX13_reduce_132 : decode cX13_reduce 132 = .ok (.invokevirtual 703, 3) := by decide +kernel
theorem dX13_reduce_135 : decode cX13_reduce 135 = .ok (.return_, 1) := by decide +kernel
def w_reduce_103 (C : rCx) (Q : rS → Prop)  (a1 : Int32) (a2 : Int32) (a3 : Int32) (σ : rS) : Prop :=
  cV C 0 m_copy [.ref (co C), .int (3 : Int32), .int a3] σ (fun σ1 =>
    cV C 2 m_divide [.ref (co C), .int (2 : Int32), .int a1, .int (3 : Int32)] σ1 (fun σ3 =>
      cV C 0 m_copy [.ref (co C), .int a1, .int (2 : Int32)] σ3 (fun σ5 =>
        cV C 2 m_divide [.ref (co C), .int (2 : Int32), .int a2, .int (3 : Int32)] σ5 (fun σ7 =>
          cV C 0 m_copy [.ref (co C), .int a2, .int (2 : Int32)] σ7 (fun σ9 =>
            Q σ9)))))
theorem t_reduce_103 {C : rCx} (hC : cOK C) {Q : rS → Prop}   {a1 : Int32} {a2 : Int32} {a3 : Int32} {σ : rS} (F : w_reduce_103 C Q  a1 a2 a3 σ) : wG C 3 m_reduce 103 [some (.ref (co C)), some (.int a1), some (.int a2), some (.int a3)] [] σ (qV Q) := by
  unfold w_reduce_103 at F
  refine s_aln dX13_reduce_103 rfl ?_
  refine s_ic dX13_reduce_104 ki_3 ?_
  refine s_iln dX13_reduce_105 rfl ?_
  refine k_703 dX13_reduce_106 rfl (Nat.le_of_ble_eq_true rfl) (Nat.le_of_ble_eq_true rfl) F (fun σ1 F => ?_)
  refine s_aln dX13_reduce_109 rfl ?_
  refine s_ic dX13_reduce_110 ki_2 ?_
  refine s_iln dX13_reduce_111 rfl ?_
  refine s_ic dX13_reduce_112 ki_3 ?_
  refine k_706 dX13_reduce_113 rfl (Nat.le_of_ble_eq_true rfl) (Nat.le_of_ble_eq_true rfl) F (fun σ3 F => ?_)
  refine s_aln dX13_reduce_116 rfl ?_
  refine s_iln dX13_reduce_117 rfl ?_
  refine s_ic dX13_reduce_118 ki_2 ?_
  refine k_703 dX13_reduce_119 rfl (Nat.le_of_ble_eq_true rfl) (Nat.le_of_ble_eq_true rfl) F (fun σ5 F => ?_)
  refine s_aln dX13_reduce_122 rfl ?_
  refine s_ic dX13_reduce_123 ki_2 ?_
  refine s_iln dX13_reduce_124 rfl ?_
  refine s_ic dX13_reduce_125 ki_3 ?_
  refine k_706 dX13_reduce_126 rfl (Nat.le_of_ble_eq_true rfl) (Nat.le_of_ble_eq_true rfl) F (fun σ7 F => ?_)
  refine s_aln dX13_reduce_129 rfl ?_
  refine s_iln dX13_reduce_130 rfl ?_
  refine s_ic dX13_reduce_131 ki_2 ?_
  refine k_703 dX13_reduce_132 rfl (Nat.le_of_ble_eq_true rfl) (Nat.le_of_ble_eq_true rfl) F (fun σ9 F => ?_)
  exact s_rv dX13_reduce_135 rfl F

def w_reduce_29 (C : rCx) (Q : rS → Prop)  (a1 : Int32) (a2 : Int32) (a3 : Int32) (σ : rS) : Prop :=
  ∃ I : Nat → Int32 → Int32 → Int32 → rS → Prop, (∃ n, I n a1 a2 a3 σ) ∧ ∀ n a1 a2 a3 σ, I n a1 a2 a3 σ →
    (¬ (a3 = (-1 : Int32)) →
      inb a3 30 ∧
      (¬ ((σ.2.2.1 91 (a3).toNatClampNeg) = (1 : Int32)) →
        w_reduce_103 C Q  a1 a2 a3 σ) ∧
      ((σ.2.2.1 91 (a3).toNatClampNeg) = (1 : Int32) →
        inb ((40000 : Int32) * a3) 1200000 ∧
        (¬ ((σ.2.2.1 90 (((40000 : Int32) * a3)).toNatClampNeg) = (1 : Int32)) →
          w_reduce_103 C Q  a1 a2 a3 σ) ∧
        ((σ.2.2.1 90 (((40000 : Int32) * a3)).toNatClampNeg) = (1 : Int32) →
          Q σ))) ∧
    (a3 = (-1 : Int32) →
      cV C 2 m_divide [.ref (co C), .int (2 : Int32), .int (0 : Int32), .int (1 : Int32)] σ (fun σ1 =>
        cI C 0 m_isZero [.ref (co C), .int (0 : Int32)] σ1 (fun r4 σ3 =>
          (r4 = 0 →
            cV C 2 m_divide [.ref (co C), .int (2 : Int32), .int (1 : Int32), .int (0 : Int32)] σ3 (fun σ5 =>
              cI C 0 m_isZero [.ref (co C), .int (1 : Int32)] σ5 (fun r8 σ7 =>
                (r8 = 0 →
                  ∃ k < n, I k a1 a2 (-1 : Int32) σ7) ∧
                (¬ (r8 = 0) →
                  ∃ k < n, I k a1 a2 (0 : Int32) σ7)))) ∧
          (¬ (r4 = 0) →
            ∃ k < n, I k a1 a2 (1 : Int32) σ3))))
theorem t_reduce_29 {C : rCx} (hC : cOK C) {Q : rS → Prop}   {a1 : Int32} {a2 : Int32} {a3 : Int32} {σ : rS} (F : w_reduce_29 C Q  a1 a2 a3 σ) : wG C 3 m_reduce 29 [some (.ref (co C)), some (.int a1), some (.int a2), some (.int a3)] [] σ (qV Q) := by
  obtain ⟨I, ⟨n0, hI0⟩, F0⟩ := F
  have key : ∀ n a1 a2 a3 σ, I n a1 a2 a3 σ → wG C 3 m_reduce 29 [some (.ref (co C)), some (.int a1), some (.int a2), some (.int a3)] [] σ (qV Q) := by
    intro n
    induction n using Nat.strongRecOn with
    | _ n ih =>
      intro a1 a2 a3 σ hI
      have F := F0 n a1 a2 a3 σ hI
      clear hI hI0
      refine s_iln dX13_reduce_29 rfl ?_
      refine s_ic dX13_reduce_30 ki_m1 ?_
      refine s_iin (t := 78) (a3 = (-1 : Int32)) dX13_reduce_31 rfl rfl (fun hc => ?_) (fun hc => ?_)
      · replace F := F.1 hc
        refine s_aln dX13_reduce_78 rfl ?_
        refine gf_188 dX13_reduce_79 rfl ?_
        refine s_iln dX13_reduce_82 rfl ?_
        refine s_ald hC dX13_reduce_83 rt_91 F.1 ?_
        replace F := F.2
        refine s_ic dX13_reduce_84 ki_1 ?_
        refine s_iin (t := 103) ((σ.2.2.1 91 (a3).toNatClampNeg) = (1 : Int32)) dX13_reduce_85 rfl rfl (fun hc => ?_) (fun hc => ?_)
        · replace F := F.1 hc
          exact s_k (t_reduce_103 hC  F) ⟨rfl, rfl, rfl, rfl, trivial⟩
        · replace F := F.2 hc
          refine s_aln dX13_reduce_88 rfl ?_
          refine gf_185 dX13_reduce_89 rfl ?_
          refine s_ldcw dX13_reduce_92 rfl cn_676 ?_
          refine s_iln dX13_reduce_95 rfl ?_
          refine s_imul dX13_reduce_96 ?_
          refine s_ald hC dX13_reduce_97 rt_90 F.1 ?_
          replace F := F.2
          refine s_ic dX13_reduce_98 ki_1 ?_
          refine s_iin (t := 103) ((σ.2.2.1 90 (((40000 : Int32) * a3)).toNatClampNeg) = (1 : Int32)) dX13_reduce_99 rfl rfl (fun hc => ?_) (fun hc => ?_)
          · replace F := F.1 hc
            exact s_k (t_reduce_103 hC  F) ⟨rfl, rfl, rfl, rfl, trivial⟩
          · replace F := F.2 hc
            exact s_rv dX13_reduce_102 rfl F
      · replace F := F.2 hc
        refine s_aln dX13_reduce_34 rfl ?_
        refine s_ic dX13_reduce_35 ki_2 ?_
        refine s_ic dX13_reduce_36 ki_0 ?_
        refine s_ic dX13_reduce_37 ki_1 ?_
        refine k_706 dX13_reduce_38 rfl (Nat.le_of_ble_eq_true rfl) (Nat.le_of_ble_eq_true rfl) F (fun σ1 F => ?_)
        refine s_aln dX13_reduce_41 rfl ?_
        refine s_ic dX13_reduce_42 ki_0 ?_
        refine k_696 dX13_reduce_43 rfl (Nat.le_of_ble_eq_true rfl) (Nat.le_of_ble_eq_true rfl) F (fun r4 σ3 F => ?_)
        refine s_i (t := 54) (r4 = 0) dX13_reduce_46 rfl rfl (fun hc => ?_) (fun hc => ?_)
        · replace F := F.1 hc
          refine s_aln dX13_reduce_54 rfl ?_
          refine s_ic dX13_reduce_55 ki_2 ?_
          refine s_ic dX13_reduce_56 ki_1 ?_
          refine s_ic dX13_reduce_57 ki_0 ?_
          refine k_706 dX13_reduce_58 rfl (Nat.le_of_ble_eq_true rfl) (Nat.le_of_ble_eq_true rfl) F (fun σ5 F => ?_)
          refine s_aln dX13_reduce_61 rfl ?_
          refine s_ic dX13_reduce_62 ki_1 ?_
          refine k_696 dX13_reduce_63 rfl (Nat.le_of_ble_eq_true rfl) (Nat.le_of_ble_eq_true rfl) F (fun r8 σ7 F => ?_)
          refine s_i (t := 73) (r8 = 0) dX13_reduce_66 rfl rfl (fun hc => ?_) (fun hc => ?_)
          · replace F := F.1 hc
            refine s_ic dX13_reduce_73 ki_m1 ?_
            refine s_isn dX13_reduce_74 (Nat.le_of_ble_eq_true rfl) rfl ?_
            show wG _ _ _ _ [some (.ref (co C)), some (.int a1), some (.int a2), some (.int (-1 : Int32))] _ _ _
            refine s_goto (t := 29) dX13_reduce_75 rfl ?_
            obtain ⟨k, hk, hI⟩ := F
            exact s_k (ih k hk _ _ _ _ hI) ⟨rfl, rfl, rfl, rfl, trivial⟩
          · replace F := F.2 hc
            refine s_ic dX13_reduce_69 ki_0 ?_
            refine s_goto (t := 74) dX13_reduce_70 rfl ?_
            refine s_isn dX13_reduce_74 (Nat.le_of_ble_eq_true rfl) rfl ?_
            show wG _ _ _ _ [some (.ref (co C)), some (.int a1), some (.int a2), some (.int (0 : Int32))] _ _ _
            refine s_goto (t := 29) dX13_reduce_75 rfl ?_
            obtain ⟨k, hk, hI⟩ := F
            exact s_k (ih k hk _ _ _ _ hI) ⟨rfl, rfl, rfl, rfl, trivial⟩
        · replace F := F.2 hc
          refine s_ic dX13_reduce_49 ki_1 ?_
          refine s_isn dX13_reduce_50 (Nat.le_of_ble_eq_true rfl) rfl ?_
          show wG _ _ _ _ [some (.ref (co C)), some (.int a1), some (.int a2), some (.int (1 : Int32))] _ _ _
          refine s_goto (t := 29) dX13_reduce_51 rfl ?_
          obtain ⟨k, hk, hI⟩ := F
          exact s_k (ih k hk _ _ _ _ hI) ⟨rfl, rfl, rfl, rfl, trivial⟩
  exact key n0 a1 a2 a3 σ hI0

def w_reduce_0 (C : rCx) (Q : rS → Prop)  (a1 : Int32) (a2 : Int32) (σ : rS) : Prop :=
  cI C 0 m_isZero [.ref (co C), .int a1] σ (fun r2 σ1 =>
    (r2 = 0 →
      cV C 0 m_copy [.ref (co C), .int (0 : Int32), .int a1] σ1 (fun σ3 =>
        cV C 0 m_copy [.ref (co C), .int (1 : Int32), .int a2] σ3 (fun σ5 =>
          w_reduce_29 C Q  a1 a2 (-1 : Int32) σ5))) ∧
    (¬ (r2 = 0) →
      cV C 0 m_set [.ref (co C), .int a2, .long (1 : Int64)] σ1 (fun σ7 =>
        Q σ7)))
theorem t_reduce_0 {C : rCx} (hC : cOK C) {Q : rS → Prop}   {a1 : Int32} {a2 : Int32} {σ : rS} (F : w_reduce_0 C Q  a1 a2 σ) : wG C 3 m_reduce 0 [some (.ref (co C)), some (.int a1), some (.int a2), none] [] σ (qV Q) := by
  unfold w_reduce_0 at F
  refine s_aln dX13_reduce_0 rfl ?_
  refine s_iln dX13_reduce_1 rfl ?_
  refine k_696 dX13_reduce_2 rfl (Nat.le_of_ble_eq_true rfl) (Nat.le_of_ble_eq_true rfl) F (fun r2 σ1 F => ?_)
  refine s_i (t := 15) (r2 = 0) dX13_reduce_5 rfl rfl (fun hc => ?_) (fun hc => ?_)
  · replace F := F.1 hc
    refine s_aln dX13_reduce_15 rfl ?_
    refine s_ic dX13_reduce_16 ki_0 ?_
    refine s_iln dX13_reduce_17 rfl ?_
    refine k_703 dX13_reduce_18 rfl (Nat.le_of_ble_eq_true rfl) (Nat.le_of_ble_eq_true rfl) F (fun σ3 F => ?_)
    refine s_aln dX13_reduce_21 rfl ?_
    refine s_ic dX13_reduce_22 ki_1 ?_
    refine s_iln dX13_reduce_23 rfl ?_
    refine k_703 dX13_reduce_24 rfl (Nat.le_of_ble_eq_true rfl) (Nat.le_of_ble_eq_true rfl) F (fun σ5 F => ?_)
    refine s_ic dX13_reduce_27 ki_m1 ?_
    refine s_isn dX13_reduce_28 (Nat.le_of_ble_eq_true rfl) rfl ?_
    show wG _ _ _ _ [some (.ref (co C)), some (.int a1), some (.int a2), some (.int (-1 : Int32))] _ _ _
    exact s_k (t_reduce_29 hC  F) ⟨rfl, rfl, rfl, rfl, trivial⟩
  · replace F := F.2 hc
    refine s_aln dX13_reduce_8 rfl ?_
    refine s_iln dX13_reduce_9 rfl ?_
    refine s_lc dX13_reduce_10 kl_1 ?_
    refine k_699 dX13_reduce_11 rfl (Nat.le_of_ble_eq_true rfl) (Nat.le_of_ble_eq_true rfl) F (fun σ7 F => ?_)
    exact s_rv dX13_reduce_14 rfl F

theorem m_reduce_run {C : rCx} (hC : cOK C) {Q : rS → Prop} {a1 : Int32} {a2 : Int32} {σ : rS} (F : w_reduce_0 C Q a1 a2 σ) : cV C 3 m_reduce [.ref (co C), .int a1, .int a2] σ Q := m_V (m_ent _ 1) (t_reduce_0 hC F)

theorem dX13_clearSum_0 : decode cX13_clearSum 0 = .ok (.aload_n 0, 1) := by decide +kernel
theorem dX13_clearSum_1 : decode cX13_clearSum 1 = .ok (.iconst 4, 1) := by decide +kernel
theorem dX13_clearSum_2 : decode cX13_clearSum 2 = .ok (.lconst 0, 1) := by decide +kernel
theorem dX13_clearSum_3 : decode cX13_clearSum 3 = .ok (.invokevirtual 699, 3) := by decide +kernel
theorem dX13_clearSum_6 : decode cX13_clearSum 6 = .ok (.aload_n 0, 1) := by decide +kernel
theorem dX13_clearSum_7 : decode cX13_clearSum 7 = .ok (.iconst 5, 1) := by decide +kernel
theorem dX13_clearSum_8 : decode cX13_clearSum 8 = .ok (.lconst 1, 1) := by decide +kernel
theorem dX13_clearSum_9 : decode cX13_clearSum 9 = .ok (.invokevirtual 699, 3) := by decide +kernel
theorem dX13_clearSum_12 : decode cX13_clearSum 12 = .ok (.aload_n 0, 1) := by decide +kernel
theorem dX13_clearSum_13 : decode cX13_clearSum 13 = .ok (.iconst 1, 1) := by decide +kernel
theorem dX13_clearSum_14 : decode cX13_clearSum 14 = .ok (.putfield 710, 3) := by decide +kernel
theorem dX13_clearSum_17 : decode cX13_clearSum 17 = .ok (.return_, 1) := by decide +kernel
def w_clearSum_0 (C : rCx) (Q : rS → Prop)   (σ : rS) : Prop :=
  cV C 0 m_set [.ref (co C), .int (4 : Int32), .long (0 : Int64)] σ (fun σ1 =>
    cV C 0 m_set [.ref (co C), .int (5 : Int32), .long (1 : Int64)] σ1 (fun σ3 =>
      ∀ σ5, σ5 = siU σ3 92 (1 : Int32) →
      Q σ5))
theorem t_clearSum_0 {C : rCx} (hC : cOK C) {Q : rS → Prop}    {σ : rS} (F : w_clearSum_0 C Q   σ) : wG C 1 m_clearSum 0 [some (.ref (co C))] [] σ (qV Q) := by
  unfold w_clearSum_0 at F
  refine s_aln dX13_clearSum_0 rfl ?_
  refine s_ic dX13_clearSum_1 ki_4 ?_
  refine s_lc dX13_clearSum_2 kl_0 ?_
  refine k_699 dX13_clearSum_3 rfl (Nat.le_of_ble_eq_true rfl) (Nat.le_of_ble_eq_true rfl) F (fun σ1 F => ?_)
  refine s_aln dX13_clearSum_6 rfl ?_
  refine s_ic dX13_clearSum_7 ki_5 ?_
  refine s_lc dX13_clearSum_8 kl_1 ?_
  refine k_699 dX13_clearSum_9 rfl (Nat.le_of_ble_eq_true rfl) (Nat.le_of_ble_eq_true rfl) F (fun σ3 F => ?_)
  refine s_aln dX13_clearSum_12 rfl ?_
  refine s_ic dX13_clearSum_13 ki_1 ?_
  refine pf_710 hC dX13_clearSum_14 rfl (fun σ5 eσ5 => ?_)
  replace F := F σ5 eσ5
  exact s_rv dX13_clearSum_17 rfl F

theorem m_clearSum_run {C : rCx} (hC : cOK C) {Q : rS → Prop}  {σ : rS} (F : w_clearSum_0 C Q  σ) : cV C 1 m_clearSum [.ref (co C)] σ Q := m_V (m_ent _ 0) (t_clearSum_0 hC F)

theorem dX13_add_0 : decode cX13_add 0 = .ok (.aload_n 0, 1) := by decide +kernel
theorem dX13_add_1 : decode cX13_add 1 = .ok (.bipush 8, 2) := by decide +kernel
theorem dX13_add_3 : decode cX13_add 3 = .ok (.iconst 4, 1) := by decide +kernel
theorem dX13_add_4 : decode cX13_add 4 = .ok (.bipush 7, 2) := by decide +kernel
theorem dX13_add_6 : decode cX13_add 6 = .ok (.invokevirtual 712, 3) := by decide +kernel
theorem dX13_add_9 : decode cX13_add 9 = .ok (.aload_n 0, 1) := by decide +kernel
theorem dX13_add_10 : decode cX13_add 10 = .ok (.bipush 9, 2) := by decide +kernel
theorem dX13_add_12 : decode cX13_add 12 = .ok (.bipush 6, 2) := by decide +kernel
theorem dX13_add_14 : decode cX13_add 14 = .ok (.iconst 5, 1) := by decide +kernel
theorem dX13_add_15 : decode cX13_add 15 = .ok (.invokevirtual 712, 3) := by decide +kernel
theorem dX13_add_18 : decode cX13_add 18 = .ok (.aload_n 0, 1) := by decide +kernel
theorem dX13_add_19 : decode cX13_add 19 = .ok (.bipush 10, 2) := by decide +kernel
theorem dX13_add_21 : decode cX13_add 21 = .ok (.iconst 5, 1) := by decide +kernel
theorem dX13_add_22 : decode cX13_add 22 = .ok (.bipush 7, 2) := by decide +kernel
theorem dX13_add_24 : decode cX13_add 24 = .ok (.invokevirtual 712, 3) := by decide +kernel
theorem dX13_add_27 : decode cX13_add 27 = .ok (.iload_n 1, 1) := by decide +kernel
theorem dX13_add_28 : decode cX13_add 28 = .ok (.aload_n 0, 1) := by decide +kernel
theorem dX13_add_29 : decode cX13_add 29 = .ok (.getfield 710, 3) := by decide +kernel
theorem dX13_add_32 : decode cX13_add 32 = .ok (.if_icmp .eq 11, 3) := by decide +kernel
theorem dX13_add_35 : decode cX13_add 35 = .ok (.aload_n 0, 1) := by decide +kernel
theorem dX13_add_36 : decode cX13_add 36 = .ok (.iconst 4, 1) := by decide +kernel
theorem dX13_add_37 : decode cX13_add 37 = .ok (.invokevirtual 696, 3) := by decide +kernel
theorem dX13_add_40 : decode cX13_add 40 = .ok (.ifCond .eq 34, 3) := by decide +kernel
theorem dX13_add_43 : decode cX13_add 43 = .ok (.aload_n 0, 1) := by decide +kernel
theorem dX13_add_44 : decode cX13_add 44 = .ok (.bipush 8, 2) := by decide +kernel
theorem dX13_add_46 : decode cX13_add 46 = .ok (.bipush 9, 2) := by decide +kernel
theorem dX13_add_48 : decode cX13_add 48 = .ok (.invokevirtual 715, 3) := by decide +kernel
theorem dX13_add_51 : decode cX13_add 51 = .ok (.aload_n 0, 1) := by decide +kernel
theorem dX13_add_52 : decode cX13_add 52 = .ok (.aload_n 0, 1) := by decide +kernel
theorem dX13_add_53 : decode cX13_add 53 = .ok (.iconst 4, 1) := by decide +kernel
theorem dX13_add_54 : decode cX13_add 54 = .ok (.invokevirtual 696, 3) := by decide +kernel
theorem dX13_add_57 : decode cX13_add 57 = .ok (.ifCond .eq 7, 3) := by decide +kernel
theorem dX13_add_60 : decode cX13_add 60 = .ok (.iload_n 1, 1) := by decide +kernel
theorem dX13_add_61 : decode cX13_add 61 = .ok (.goto 7, 3) := by decide +kernel
theorem dX13_add_64 : decode cX13_add 64 = .ok (.aload_n 0, 1) := by decide +kernel
theorem dX13_add_65 : decode cX13_add 65 = .ok (.getfield 710, 3) := by decide +kernel
theorem dX13_add_68 : decode cX13_add 68 = .ok (.putfield 710, 3) := by decide +kernel
theorem dX13_add_71 : decode cX13_add 71 = .ok (.goto 46, 3) := by decide +kernel
theorem dX13_add_74 : decode cX13_add 74 = .ok (.aload_n 0, 1) := by decide +kernel
theorem dX13_add_75 : decode cX13_add 75 = .ok (.bipush 8, 2) := by decide +kernel
theorem dX13_add_77 : decode cX13_add 77 = .ok (.bipush 9, 2) := by decide +kernel
theorem dX13_add_79 : decode cX13_add 79 = .ok (.invokevirtual 683, 3) := by decide +kernel
theorem dX13_add_82 : decode cX13_add 82 = .ok (.ifCond .lt 14, 3) := by decide +kernel
theorem dX13_add_85 : decode cX13_add 85 = .ok (.aload_n 0, 1) := by decide +kernel
theorem dX13_add_86 : decode cX13_add 86 = .ok (.bipush 8, 2) := by decide +kernel
theorem dX13_add_88 : decode cX13_add 88 = .ok (.bipush 9, 2) := by decide +kernel
theorem dX13_add_90 : decode cX13_add 90 = .ok (.invokevirtual 718, 3) := by decide +kernel
theorem dX13_add_93 : decode cX13_add 93 = .ok (.goto 24, 3) := by decide +kernel
theorem dX13_add_96 : decode cX13_add 96 = .ok (.aload_n 0, 1) := by decide +kernel
theorem dX13_add_97 : decode cX13_add 97 = .ok (.bipush 9, 2) := by decide +kernel
theorem dX13_add_99 : decode cX13_add 99 = .ok (.bipush 8, 2) := by decide +kernel
theorem dX13_add_101 : decode cX13_add 101 = .ok (.invokevirtual 718, 3) := by decide +kernel
theorem dX13_add_104 : decode cX13_add 104 = .ok (.aload_n 0, 1) := by decide +kernel
theorem dX13_add_105 : decode cX13_add 105 = .ok (.bipush 8, 2) := by decide +kernel
theorem dX13_add_107 : decode cX13_add 107 = .ok (.bipush 9, 2) := by decide +kernel
theorem dX13_add_109 : decode cX13_add 109 = .ok (.invokevirtual 703, 3) := by decide +kernel
theorem dX13_add_112 : decode cX13_add 112 = .ok (.aload_n 0, 1) := by decide +kernel
theorem dX13_add_113 : decode cX13_add 113 = .ok (.iload_n 1, 1) := by decide +kernel
theorem dX13_add_114 : decode cX13_add 114 = .ok (.putfield 710, 3) := by decide +kernel
theorem dX13_add_117 : decode cX13_add 117 = .ok (.aload_n 0, 1) := by decide +kernel
theorem dX13_add_118 : decode cX13_add 118 = .ok (.iconst 4, 1) := by decide +kernel
theorem dX13_add_119 : decode cX13_add 119 = .ok (.bipush 8, 2) := by decide +kernel
theorem dX13_add_121 : decode cX13_add 121 = .ok (.invokevirtual 703, 3) := by decide +kernel
theorem dX13_add_124 : decode cX13_add 124 = .ok (.aload_n 0, 1) := by decide +kernel
theorem dX13_add_125 : decode cX13_add 125 = .ok (.iconst 5, 1) := by decide +kernel
theorem dX13_add_126 : decode cX13_add 126 = .ok (.bipush 10, 2) := by decide +kernel
theorem dX13_add_128 : decode cX13_add 128 = .ok (.invokevirtual 703, 3) := by decide +kernel
theorem dX13_add_131 : decode cX13_add 131 = .ok (.aload_n 0, 1) := by decide +kernel
theorem dX13_add_132 : decode cX13_add 132 = .ok (.iconst 4, 1) := by decide +kernel
theorem dX13_add_133 : decode cX13_add 133 = .ok (.iconst 5, 1) := by decide +kernel
theorem dX13_add_134 : decode cX13_add 134 = .ok (.invokevirtual 721, 3) := by decide +kernel
theorem dX13_add_137 : decode cX13_add 137 = .ok (.aload_n 0, 1) := by decide +kernel
theorem dX13_add_138 : decode cX13_add 138 = .ok (.aload_n 0, 1) := by decide +kernel
theorem dX13_add_139 : decode cX13_add 139 = .ok (.iconst 4, 1) := by decide +kernel
theorem dX13_add_140 : decode cX13_add 140 = .ok (.invokevirtual 696, 3) := by decide +kernel
theorem dX13_add_143 : decode cX13_add 143 = .ok (.ifCond .eq 7, 3) := by decide +kernel
theorem dX13_add_146 : decode cX13_add 146 = .ok (.iconst 1, 1) := by decide +kernel
theorem dX13_add_147 : decode cX13_add 147 = .ok (.goto 7, 3) := by decide +kernel
theorem dX13_add_150 : decode cX13_add 150 = .ok (.aload_n 0, 1) := by decide +kernel
theorem dX13_add_151 : decode cX13_add 151 = .ok (.getfield 710, 3) := by decide +kernel
theorem dX13_add_154 : decode cX13_add 154 = .ok (.putfield 710, 3) := by decide +kernel
theorem dX13_add_157 : decode cX13_add 157 = .ok (.return_, 1) := by decide +kernel
def w_add_117 (C : rCx) (Q : rS → Prop)   (σ : rS) : Prop :=
  cV C 0 m_copy [.ref (co C), .int (4 : Int32), .int (8 : Int32)] σ (fun σ1 =>
    cV C 0 m_copy [.ref (co C), .int (5 : Int32), .int (10 : Int32)] σ1 (fun σ3 =>
      cV C 3 m_reduce [.ref (co C), .int (4 : Int32), .int (5 : Int32)] σ3 (fun σ5 =>
        cI C 0 m_isZero [.ref (co C), .int (4 : Int32)] σ5 (fun r8 σ7 =>
          (r8 = 0 →
            ∀ σ9, σ9 = siU σ7 92 (σ7.1 92) →
            Q σ9) ∧
          (¬ (r8 = 0) →
            ∀ σ10, σ10 = siU σ7 92 (1 : Int32) →
            Q σ10)))))
theorem t_add_117 {C : rCx} (hC : cOK C) {Q : rS → Prop}    {σ : rS} (F : w_add_117 C Q   σ) : wG C 4 m_add 117 [some (.ref (co C)), none] [] σ (qV Q) := by
  unfold w_add_117 at F
  refine s_aln dX13_add_117 rfl ?_
  refine s_ic dX13_add_118 ki_4 ?_
  refine s_bi dX13_add_119 kb_8 ?_
  refine k_703 dX13_add_121 rfl (Nat.le_of_ble_eq_true rfl) (Nat.le_of_ble_eq_true rfl) F (fun σ1 F => ?_)
  refine s_aln dX13_add_124 rfl ?_
  refine s_ic dX13_add_125 ki_5 ?_
  refine s_bi dX13_add_126 kb_10 ?_
  refine k_703 dX13_add_128 rfl (Nat.le_of_ble_eq_true rfl) (Nat.le_of_ble_eq_true rfl) F (fun σ3 F => ?_)
  refine s_aln dX13_add_131 rfl ?_
  refine s_ic dX13_add_132 ki_4 ?_
  refine s_ic dX13_add_133 ki_5 ?_
  refine k_721 dX13_add_134 rfl (Nat.le_of_ble_eq_true rfl) (Nat.le_of_ble_eq_true rfl) F (fun σ5 F => ?_)
  refine s_aln dX13_add_137 rfl ?_
  refine s_aln dX13_add_138 rfl ?_
  refine s_ic dX13_add_139 ki_4 ?_
  refine k_696 dX13_add_140 rfl (Nat.le_of_ble_eq_true rfl) (Nat.le_of_ble_eq_true rfl) F (fun r8 σ7 F => ?_)
  refine s_i (t := 150) (r8 = 0) dX13_add_143 rfl rfl (fun hc => ?_) (fun hc => ?_)
  · replace F := F.1 hc
    refine s_aln dX13_add_150 rfl ?_
    refine gf_710 dX13_add_151 rfl ?_
    refine pf_710 hC dX13_add_154 rfl (fun σ9 eσ9 => ?_)
    replace F := F σ9 eσ9
    exact s_rv dX13_add_157 rfl F
  · replace F := F.2 hc
    refine s_ic dX13_add_146 ki_1 ?_
    refine s_goto (t := 154) dX13_add_147 rfl ?_
    refine pf_710 hC dX13_add_154 rfl (fun σ10 eσ10 => ?_)
    replace F := F σ10 eσ10
    exact s_rv dX13_add_157 rfl F

def w_add_43 (C : rCx) (Q : rS → Prop)  (a1 : Int32) (σ : rS) : Prop :=
  cV C 1 m_plus [.ref (co C), .int (8 : Int32), .int (9 : Int32)] σ (fun σ1 =>
    cI C 0 m_isZero [.ref (co C), .int (4 : Int32)] σ1 (fun r4 σ3 =>
      (r4 = 0 →
        ∀ σ5, σ5 = siU σ3 92 (σ3.1 92) →
        w_add_117 C Q   σ5) ∧
      (¬ (r4 = 0) →
        ∀ σ6, σ6 = siU σ3 92 a1 →
        w_add_117 C Q   σ6)))
theorem t_add_43 {C : rCx} (hC : cOK C) {Q : rS → Prop}   {a1 : Int32} {σ : rS} (F : w_add_43 C Q  a1 σ) : wG C 4 m_add 43 [some (.ref (co C)), some (.int a1)] [] σ (qV Q) := by
  unfold w_add_43 at F
  refine s_aln dX13_add_43 rfl ?_
  refine s_bi dX13_add_44 kb_8 ?_
  refine s_bi dX13_add_46 kb_9 ?_
  refine k_715 dX13_add_48 rfl (Nat.le_of_ble_eq_true rfl) (Nat.le_of_ble_eq_true rfl) F (fun σ1 F => ?_)
  refine s_aln dX13_add_51 rfl ?_
  refine s_aln dX13_add_52 rfl ?_
  refine s_ic dX13_add_53 ki_4 ?_
  refine k_696 dX13_add_54 rfl (Nat.le_of_ble_eq_true rfl) (Nat.le_of_ble_eq_true rfl) F (fun r4 σ3 F => ?_)
  refine s_i (t := 64) (r4 = 0) dX13_add_57 rfl rfl (fun hc => ?_) (fun hc => ?_)
  · replace F := F.1 hc
    refine s_aln dX13_add_64 rfl ?_
    refine gf_710 dX13_add_65 rfl ?_
    refine pf_710 hC dX13_add_68 rfl (fun σ5 eσ5 => ?_)
    replace F := F σ5 eσ5
    refine s_goto (t := 117) dX13_add_71 rfl ?_
    exact s_k (t_add_117 hC  F) ⟨rfl, trivial⟩
  · replace F := F.2 hc
    refine s_iln dX13_add_60 rfl ?_
    refine s_goto (t := 68) dX13_add_61 rfl ?_
    refine pf_710 hC dX13_add_68 rfl (fun σ6 eσ6 => ?_)
    replace F := F σ6 eσ6
    refine s_goto (t := 117) dX13_add_71 rfl ?_
    exact s_k (t_add_117 hC  F) ⟨rfl, trivial⟩

def w_add_0 (C : rCx) (Q : rS → Prop)  (a1 : Int32) (σ : rS) : Prop :=
  cV C 1 m_times [.ref (co C), .int (8 : Int32), .int (4 : Int32), .int (7 : Int32)] σ (fun σ1 =>
    cV C 1 m_times [.ref (co C), .int (9 : Int32), .int (6 : Int32), .int (5 : Int32)] σ1 (fun σ3 =>
      cV C 1 m_times [.ref (co C), .int (10 : Int32), .int (5 : Int32), .int (7 : Int32)] σ3 (fun σ5 =>
        (a1 = (σ5.1 92) →
          w_add_43 C Q  a1 σ5) ∧
        (¬ (a1 = (σ5.1 92)) →
          cI C 0 m_isZero [.ref (co C), .int (4 : Int32)] σ5 (fun r8 σ7 =>
            (r8 = 0 →
              cI C 0 m_compare [.ref (co C), .int (8 : Int32), .int (9 : Int32)] σ7 (fun r10 σ9 =>
                (r10 < 0 →
                  cV C 1 m_minus [.ref (co C), .int (9 : Int32), .int (8 : Int32)] σ9 (fun σ11 =>
                    cV C 0 m_copy [.ref (co C), .int (8 : Int32), .int (9 : Int32)] σ11 (fun σ13 =>
                      ∀ σ15, σ15 = siU σ13 92 a1 →
                      w_add_117 C Q   σ15))) ∧
                (¬ (r10 < 0) →
                  cV C 1 m_minus [.ref (co C), .int (8 : Int32), .int (9 : Int32)] σ9 (fun σ16 =>
                    w_add_117 C Q   σ16)))) ∧
            (¬ (r8 = 0) →
              w_add_43 C Q  a1 σ7))))))
theorem t_add_0 {C : rCx} (hC : cOK C) {Q : rS → Prop}   {a1 : Int32} {σ : rS} (F : w_add_0 C Q  a1 σ) : wG C 4 m_add 0 [some (.ref (co C)), some (.int a1)] [] σ (qV Q) := by
  unfold w_add_0 at F
  refine s_aln dX13_add_0 rfl ?_
  refine s_bi dX13_add_1 kb_8 ?_
  refine s_ic dX13_add_3 ki_4 ?_
  refine s_bi dX13_add_4 kb_7 ?_
  refine k_712 dX13_add_6 rfl (Nat.le_of_ble_eq_true rfl) (Nat.le_of_ble_eq_true rfl) F (fun σ1 F => ?_)
  refine s_aln dX13_add_9 rfl ?_
  refine s_bi dX13_add_10 kb_9 ?_
  refine s_bi dX13_add_12 kb_6 ?_
  refine s_ic dX13_add_14 ki_5 ?_
  refine k_712 dX13_add_15 rfl (Nat.le_of_ble_eq_true rfl) (Nat.le_of_ble_eq_true rfl) F (fun σ3 F => ?_)
  refine s_aln dX13_add_18 rfl ?_
  refine s_bi dX13_add_19 kb_10 ?_
  refine s_ic dX13_add_21 ki_5 ?_
  refine s_bi dX13_add_22 kb_7 ?_
  refine k_712 dX13_add_24 rfl (Nat.le_of_ble_eq_true rfl) (Nat.le_of_ble_eq_true rfl) F (fun σ5 F => ?_)
  refine s_iln dX13_add_27 rfl ?_
  refine s_aln dX13_add_28 rfl ?_
  refine gf_710 dX13_add_29 rfl ?_
  refine s_ii (t := 43) (a1 = (σ5.1 92)) dX13_add_32 rfl rfl (fun hc => ?_) (fun hc => ?_)
  · replace F := F.1 hc
    exact s_k (t_add_43 hC  F) ⟨rfl, rfl, trivial⟩
  · replace F := F.2 hc
    refine s_aln dX13_add_35 rfl ?_
    refine s_ic dX13_add_36 ki_4 ?_
    refine k_696 dX13_add_37 rfl (Nat.le_of_ble_eq_true rfl) (Nat.le_of_ble_eq_true rfl) F (fun r8 σ7 F => ?_)
    refine s_i (t := 74) (r8 = 0) dX13_add_40 rfl rfl (fun hc => ?_) (fun hc => ?_)
    · replace F := F.1 hc
      refine s_aln dX13_add_74 rfl ?_
      refine s_bi dX13_add_75 kb_8 ?_
      refine s_bi dX13_add_77 kb_9 ?_
      refine k_683 dX13_add_79 rfl (Nat.le_of_ble_eq_true rfl) (Nat.le_of_ble_eq_true rfl) F (fun r10 σ9 F => ?_)
      refine s_i (t := 96) (r10 < 0) dX13_add_82 rfl rfl (fun hc => ?_) (fun hc => ?_)
      · replace F := F.1 hc
        refine s_aln dX13_add_96 rfl ?_
        refine s_bi dX13_add_97 kb_9 ?_
        refine s_bi dX13_add_99 kb_8 ?_
        refine k_718 dX13_add_101 rfl (Nat.le_of_ble_eq_true rfl) (Nat.le_of_ble_eq_true rfl) F (fun σ11 F => ?_)
        refine s_aln dX13_add_104 rfl ?_
        refine s_bi dX13_add_105 kb_8 ?_
        refine s_bi dX13_add_107 kb_9 ?_
        refine k_703 dX13_add_109 rfl (Nat.le_of_ble_eq_true rfl) (Nat.le_of_ble_eq_true rfl) F (fun σ13 F => ?_)
        refine s_aln dX13_add_112 rfl ?_
        refine s_iln dX13_add_113 rfl ?_
        refine pf_710 hC dX13_add_114 rfl (fun σ15 eσ15 => ?_)
        replace F := F σ15 eσ15
        exact s_k (t_add_117 hC  F) ⟨rfl, trivial⟩
      · replace F := F.2 hc
        refine s_aln dX13_add_85 rfl ?_
        refine s_bi dX13_add_86 kb_8 ?_
        refine s_bi dX13_add_88 kb_9 ?_
        refine k_718 dX13_add_90 rfl (Nat.le_of_ble_eq_true rfl) (Nat.le_of_ble_eq_true rfl) F (fun σ16 F => ?_)
        refine s_goto (t := 117) dX13_add_93 rfl ?_
        exact s_k (t_add_117 hC  F) ⟨rfl, trivial⟩
    · replace F := F.2 hc
      exact s_k (t_add_43 hC  F) ⟨rfl, rfl, trivial⟩

theorem m_add_run {C : rCx} (hC : cOK C) {Q : rS → Prop} {a1 : Int32} {σ : rS} (F : w_add_0 C Q a1 σ) : cV C 4 m_add [.ref (co C), .int a1] σ Q := m_V (m_ent _ 0) (t_add_0 hC F)

theorem dX13_scale_0 : decode cX13_scale 0 = .ok (.aload_n 0, 1) := by decide +kernel
theorem dX13_scale_1 : decode cX13_scale 1 = .ok (.bipush 8, 2) := by decide +kernel
theorem dX13_scale_3 : decode cX13_scale 3 = .ok (.lload_n 1, 1) := by decide +kernel
theorem dX13_scale_4 : decode cX13_scale 4 = .ok (.invokevirtual 699, 3) := by decide +kernel
theorem dX13_scale_7 : decode cX13_scale 7 = .ok (.aload_n 0, 1) := by decide +kernel
theorem dX13_scale_8 : decode cX13_scale 8 = .ok (.bipush 9, 2) := by decide +kernel
theorem dX13_scale_10 : decode cX13_scale 10 = .ok (.bipush 6, 2) := by decide +kernel
theorem dX13_scale_12 : decode cX13_scale 12 = .ok (.bipush 8, 2) := by decide +kernel
theorem dX13_scale_14 : decode cX13_scale 14 = .ok (.invokevirtual 712, 3) := by decide +kernel
theorem dX13_scale_17 : decode cX13_scale 17 = .ok (.aload_n 0, 1) := by decide +kernel
theorem dX13_scale_18 : decode cX13_scale 18 = .ok (.bipush 6, 2) := by decide +kernel
theorem dX13_scale_20 : decode cX13_scale 20 = .ok (.bipush 9, 2) := by decide +kernel
theorem dX13_scale_22 : decode cX13_scale 22 = .ok (.invokevirtual 703, 3) := by decide +kernel
theorem dX13_scale_25 : decode cX13_scale 25 = .ok (.aload_n 0, 1) := by decide +kernel
theorem dX13_scale_26 : decode cX13_scale 26 = .ok (.bipush 8, 2) := by decide +kernel
theorem dX13_scale_28 : decode cX13_scale 28 = .ok (.lload_n 3, 1) := by decide +kernel
theorem dX13_scale_29 : decode cX13_scale 29 = .ok (.invokevirtual 699, 3) := by decide +kernel
theorem dX13_scale_32 : decode cX13_scale 32 = .ok (.aload_n 0, 1) := by decide +kernel
theorem dX13_scale_33 : decode cX13_scale 33 = .ok (.bipush 9, 2) := by decide +kernel
theorem dX13_scale_35 : decode cX13_scale 35 = .ok (.bipush 7, 2) := by decide +kernel
theorem dX13_scale_37 : decode cX13_scale 37 = .ok (.bipush 8, 2) := by decide +kernel
theorem dX13_scale_39 : decode cX13_scale 39 = .ok (.invokevirtual 712, 3) := by decide +kernel
theorem dX13_scale_42 : decode cX13_scale 42 = .ok (.aload_n 0, 1) := by decide +kernel
theorem dX13_scale_43 : decode cX13_scale 43 = .ok (.bipush 7, 2) := by decide +kernel
theorem dX13_scale_45 : decode cX13_scale 45 = .ok (.bipush 9, 2) := by decide +kernel
theorem dX13_scale_47 : decode cX13_scale 47 = .ok (.invokevirtual 703, 3) := by decide +kernel
theorem dX13_scale_50 : decode cX13_scale 50 = .ok (.aload_n 0, 1) := by decide +kernel
theorem dX13_scale_51 : decode cX13_scale 51 = .ok (.bipush 6, 2) := by decide +kernel
theorem dX13_scale_53 : decode cX13_scale 53 = .ok (.bipush 7, 2) := by decide +kernel
theorem dX13_scale_55 : decode cX13_scale 55 = .ok (.invokevirtual 721, 3) := by decide +kernel
theorem dX13_scale_58 : decode cX13_scale 58 = .ok (.return_, 1) := by decide +kernel
def w_scale_0 (C : rCx) (Q : rS → Prop)  (a1 : Int64) (a3 : Int64) (σ : rS) : Prop :=
  cV C 0 m_set [.ref (co C), .int (8 : Int32), .long a1] σ (fun σ1 =>
    cV C 1 m_times [.ref (co C), .int (9 : Int32), .int (6 : Int32), .int (8 : Int32)] σ1 (fun σ3 =>
      cV C 0 m_copy [.ref (co C), .int (6 : Int32), .int (9 : Int32)] σ3 (fun σ5 =>
        cV C 0 m_set [.ref (co C), .int (8 : Int32), .long a3] σ5 (fun σ7 =>
          cV C 1 m_times [.ref (co C), .int (9 : Int32), .int (7 : Int32), .int (8 : Int32)] σ7 (fun σ9 =>
            cV C 0 m_copy [.ref (co C), .int (7 : Int32), .int (9 : Int32)] σ9 (fun σ11 =>
              cV C 3 m_reduce [.ref (co C), .int (6 : Int32), .int (7 : Int32)] σ11 (fun σ13 =>
                Q σ13)))))))
theorem t_scale_0 {C : rCx} (hC : cOK C) {Q : rS → Prop}   {a1 : Int64} {a3 : Int64} {σ : rS} (F : w_scale_0 C Q  a1 a3 σ) : wG C 4 m_scale 0 [some (.ref (co C)), some (.long a1), none, some (.long a3), none] [] σ (qV Q) := by
  unfold w_scale_0 at F
  refine s_aln dX13_scale_0 rfl ?_
  refine s_bi dX13_scale_1 kb_8 ?_
  refine s_lln dX13_scale_3 rfl ?_
  refine k_699 dX13_scale_4 rfl (Nat.le_of_ble_eq_true rfl) (Nat.le_of_ble_eq_true rfl) F (fun σ1 F => ?_)
  refine s_aln dX13_scale_7 rfl ?_
  refine s_bi dX13_scale_8 kb_9 ?_
  refine s_bi dX13_scale_10 kb_6 ?_
  refine s_bi dX13_scale_12 kb_8 ?_
  refine k_712 dX13_scale_14 rfl (Nat.le_of_ble_eq_true rfl) (Nat.le_of_ble_eq_true rfl) F (fun σ3 F => ?_)
  refine s_aln dX13_scale_17 rfl ?_
  refine s_bi dX13_scale_18 kb_6 ?_
  refine s_bi dX13_scale_20 kb_9 ?_
  refine k_703 dX13_scale_22 rfl (Nat.le_of_ble_eq_true rfl) (Nat.le_of_ble_eq_true rfl) F (fun σ5 F => ?_)
  refine s_aln dX13_scale_25 rfl ?_
  refine s_bi dX13_scale_26 kb_8 ?_
  refine s_lln dX13_scale_28 rfl ?_
  refine k_699 dX13_scale_29 rfl (Nat.le_of_ble_eq_true rfl) (Nat.le_of_ble_eq_true rfl) F (fun σ7 F => ?_)
  refine s_aln dX13_scale_32 rfl ?_
  refine s_bi dX13_scale_33 kb_9 ?_
  refine s_bi dX13_scale_35 kb_7 ?_
  refine s_bi dX13_scale_37 kb_8 ?_
  refine k_712 dX13_scale_39 rfl (Nat.le_of_ble_eq_true rfl) (Nat.le_of_ble_eq_true rfl) F (fun σ9 F => ?_)
  refine s_aln dX13_scale_42 rfl ?_
  refine s_bi dX13_scale_43 kb_7 ?_
  refine s_bi dX13_scale_45 kb_9 ?_
  refine k_703 dX13_scale_47 rfl (Nat.le_of_ble_eq_true rfl) (Nat.le_of_ble_eq_true rfl) F (fun σ11 F => ?_)
  refine s_aln dX13_scale_50 rfl ?_
  refine s_bi dX13_scale_51 kb_6 ?_
  refine s_bi dX13_scale_53 kb_7 ?_
  refine k_721 dX13_scale_55 rfl (Nat.le_of_ble_eq_true rfl) (Nat.le_of_ble_eq_true rfl) F (fun σ13 F => ?_)
  exact s_rv dX13_scale_58 rfl F

theorem m_scale_run {C : rCx} (hC : cOK C) {Q : rS → Prop} {a1 : Int64} {a3 : Int64} {σ : rS} (F : w_scale_0 C Q a1 a3 σ) : cV C 4 m_scale [.ref (co C), .long a1, .long a3] σ Q := m_V (m_ent _ 0) (t_scale_0 hC F)

theorem dX13_keepIn_0 : decode cX13_keepIn 0 = .ok (.sipush 260, 3) := by decide +kernel
theorem dX13_keepIn_3 : decode cX13_keepIn 3 = .ok (.iload_n 1, 1) := by decide +kernel
theorem dX13_keepIn_4 : decode cX13_keepIn 4 = .ok (.imul, 1) := by decide +kernel
theorem dX13_keepIn_5 : decode cX13_keepIn 5 = .ok (.istore 4, 2) := by decide +kernel
theorem dX13_keepIn_7 : decode cX13_keepIn 7 = .ok (.aload_n 0, 1) := by decide +kernel
theorem dX13_keepIn_8 : decode cX13_keepIn 8 = .ok (.getfield 192, 3) := by decide +kernel
theorem dX13_keepIn_11 : decode cX13_keepIn 11 = .ok (.iload 4, 2) := by decide +kernel
theorem dX13_keepIn_13 : decode cX13_keepIn 13 = .ok (.aload_n 0, 1) := by decide +kernel
theorem dX13_keepIn_14 : decode cX13_keepIn 14 = .ok (.getfield 188, 3) := by decide +kernel
theorem dX13_keepIn_17 : decode cX13_keepIn 17 = .ok (.iload_n 2, 1) := by decide +kernel
theorem dX13_keepIn_18 : decode cX13_keepIn 18 = .ok (.iaload, 1) := by decide +kernel
theorem dX13_keepIn_19 : decode cX13_keepIn 19 = .ok (.iastore, 1) := by decide +kernel
theorem dX13_keepIn_20 : decode cX13_keepIn 20 = .ok (.aload_n 0, 1) := by decide +kernel
theorem dX13_keepIn_21 : decode cX13_keepIn 21 = .ok (.getfield 192, 3) := by decide +kernel
theorem dX13_keepIn_24 : decode cX13_keepIn 24 = .ok (.iload 4, 2) := by decide +kernel
theorem dX13_keepIn_26 : decode cX13_keepIn 26 = .ok (.sipush 130, 3) := by decide +kernel
theorem dX13_keepIn_29 : decode cX13_keepIn 29 = .ok (.iadd, 1) := by decide +kernel
theorem dX13_keepIn_30 : decode cX13_keepIn 30 = .ok (.aload_n 0, 1) := by decide +kernel
theorem dX13_keepIn_31 : decode cX13_keepIn 31 = .ok (.getfield 188, 3) := by decide +kernel
theorem dX13_keepIn_34 : decode cX13_keepIn 34 = .ok (.iload_n 3, 1) := by decide +kernel
theorem dX13_keepIn_35 : decode cX13_keepIn 35 = .ok (.iaload, 1) := by decide +kernel
theorem dX13_keepIn_36 : decode cX13_keepIn 36 = .ok (.iastore, 1) := by decide +kernel
theorem dX13_keepIn_37 : decode cX13_keepIn 37 = .ok (.iconst 0, 1) := by decide +kernel
theorem dX13_keepIn_38 : decode cX13_keepIn 38 = .ok (.istore 5, 2) := by decide +kernel
theorem dX13_keepIn_40 : decode cX13_keepIn 40 = .ok (.iload 5, 2) := by decide +kernel
theorem dX13_keepIn_42 : decode cX13_keepIn 42 = .ok (.aload_n 0, 1) := by decide +kernel
theorem dX13_keepIn_43 : decode cX13_keepIn 43 = .ok (.getfield 188, 3) := by decide +kernel
theorem dX13_keepIn_46 : decode cX13_keepIn 46 = .ok (.iload_n 2, 1) := by decide +kernel
theorem dX13_keepIn_47 : decode cX13_keepIn 47 = .ok (.iaload, 1) := by decide +kernel
theorem dX13_keepIn_48 : decode cX13_keepIn 48 = .ok (.if_icmp .ge 34, 3) := by decide +kernel
theorem dX13_keepIn_51 : decode cX13_keepIn 51 = .ok (.aload_n 0, 1) := by decide +kernel
theorem dX13_keepIn_52 : decode cX13_keepIn 52 = .ok (.getfield 192, 3) := by decide +kernel
theorem dX13_keepIn_55 : decode cX13_keepIn 55 = .ok (.iload 4, 2) := by decide +kernel
theorem dX13_keepIn_57 : decode cX13_keepIn 57 = .ok (.iconst 1, 1) := by decide +kernel
theorem dX13_keepIn_58 : decode cX13_keepIn 58 = .ok (.iadd, 1) := by decide +kernel
theorem dX13_keepIn_59 : decode cX13_keepIn 59 = .ok (.iload 5, 2) := by decide +kernel
theorem dX13_keepIn_61 : decode cX13_keepIn 61 = .ok (.iadd, 1) := by decide +kernel
theorem dX13_keepIn_62 : decode cX13_keepIn 62 = .ok (.aload_n 0, 1) := by decide +kernel
theorem dX13_keepIn_63 : decode cX13_keepIn 63 = .ok (.getfield 185, 3) := by decide +kernel
theorem dX13_keepIn_66 : decode cX13_keepIn 66 = .ok (.ldc_w 676, 3) := by decide +kernel
theorem dX13_keepIn_69 : decode cX13_keepIn 69 = .ok (.iload_n 2, 1) := by decide +kernel
theorem dX13_keepIn_70 : decode cX13_keepIn 70 = .ok (.imul, 1) := by decide +kernel
theorem dX13_keepIn_71 : decode cX13_keepIn 71 = .ok (.iload 5, 2) := by decide +kernel
theorem dX13_keepIn_73 : decode cX13_keepIn 73 = .ok (.iadd, 1) := by decide +kernel
theorem dX13_keepIn_74 : decode cX13_keepIn 74 = .ok (.iaload, 1) := by decide +kernel
theorem dX13_keepIn_75 : decode cX13_keepIn 75 = .ok (.iastore, 1) := by decide +kernel
theorem dX13_keepIn_76 : decode cX13_keepIn 76 = .ok (.iinc 5 1, 3) := by decide +kernel
theorem dX13_keepIn_79 : decode cX13_keepIn 79 = .ok (.goto (-39), 3) := by decide +kernel
theorem dX13_keepIn_82 : decode cX13_keepIn 82 = .ok (.iconst 0, 1) := by decide +kernel
theorem dX13_keepIn_83 : decode cX13_keepIn 83 = .ok (.istore 5, 2) := by decide +kernel
theorem dX13_keepIn_85 : decode cX13_keepIn 85 = .ok (.iload 5, 2) := by decide +kernel
theorem dX13_keepIn_87 : decode cX13_keepIn 87 = .ok (.aload_n 0, 1) := by decide +kernel
theorem dX13_keepIn_88 : decode cX13_keepIn 88 = .ok (.getfield 188, 3) := by decide +kernel
theorem dX13_keepIn_91 : decode cX13_keepIn 91 = .ok (.iload_n 3, 1) := by decide +kernel
theorem dX13_keepIn_92 : decode cX13_keepIn 92 = .ok (.iaload, 1) := by decide +kernel
theorem dX13_keepIn_93 : decode cX13_keepIn 93 = .ok (.if_icmp .ge 38, 3) := by decide +kernel
theorem dX13_keepIn_96 : decode cX13_keepIn 96 = .ok (.aload_n 0, 1) := by decide +kernel
theorem dX13_keepIn_97 : decode cX13_keepIn 97 = .ok (.getfield 192, 3) := by decide +kernel
theorem dX13_keepIn_100 : decode cX13_keepIn 100 = .ok (.iload 4, 2) := by decide +kernel
theorem dX13_keepIn_102 : decode cX13_keepIn 102 = .ok (.sipush 130, 3) := by decide +kernel
theorem dX13_keepIn_105 : decode cX13_keepIn 105 = .ok (.iadd, 1) := by decide +kernel
theorem dX13_keepIn_106 : decode cX13_keepIn 106 = .ok (.iconst 1, 1) := by decide +kernel
theorem dX13_keepIn_107 : decode cX13_keepIn 107 = .ok (.iadd, 1) := by decide +kernel
theorem dX13_keepIn_108 : decode cX13_keepIn 108 = .ok (.iload 5, 2) := by decide +kernel
theorem dX13_keepIn_110 : decode cX13_keepIn 110 = .ok (.iadd, 1) := by decide +kernel
theorem dX13_keepIn_111 : decode cX13_keepIn 111 = .ok (.aload_n 0, 1) := by decide +kernel
theorem dX13_keepIn_112 : decode cX13_keepIn 112 = .ok (.getfield 185, 3) := by decide +kernel
theorem dX13_keepIn_115 : decode cX13_keepIn 115 = .ok (.ldc_w 676, 3) := by decide +kernel
theorem dX13_keepIn_118 : decode cX13_keepIn 118 = .ok (.iload_n 3, 1) := by decide +kernel
theorem dX13_keepIn_119 : decode cX13_keepIn 119 = .ok (.imul, 1) := by decide +kernel
theorem dX13_keepIn_120 : decode cX13_keepIn 120 = .ok (.iload 5, 2) := by decide +kernel
theorem dX13_keepIn_122 : decode cX13_keepIn 122 = .ok (.iadd, 1) := by decide +kernel
theorem dX13_keepIn_123 : decode cX13_keepIn 123 = .ok (.iaload, 1) := by decide +kernel
theorem dX13_keepIn_124 : decode cX13_keepIn 124 = .ok (.iastore, 1) := by decide +kernel
theorem dX13_keepIn_125 : decode cX13_keepIn 125 = .ok (.iinc 5 1, 3) := by decide +kernel
theorem dX13_keepIn_128 : decode cX13_keepIn 128 = .ok (.goto (-43), 3) := by decide +kernel
theorem dX13_keepIn_131 : decode cX13_keepIn 131 = .ok (.return_, 1) := by decide +kernel
def w_keepIn_85 (C : rCx) (Q : rS → Prop)  (a3 : Int32) (a4 : Int32) (a5 : Int32) (σ : rS) : Prop :=
  ∃ I : Nat → Int32 → Int32 → Int32 → rS → Prop, (∃ n, I n a3 a4 a5 σ) ∧ ∀ n a3 a4 a5 σ, I n a3 a4 a5 σ →
    inb a3 30 ∧
    ((σ.2.2.1 91 (a3).toNatClampNeg) ≤ a5 →
      Q σ) ∧
    (¬ ((σ.2.2.1 91 (a3).toNatClampNeg) ≤ a5) →
      inb (((40000 : Int32) * a3) + a5) 1200000 ∧
      inb (((a4 + (130 : Int32)) + (1 : Int32)) + a5) 566000 ∧
      ∀ σ1, σ1 = riU σ 93 ((((a4 + (130 : Int32)) + (1 : Int32)) + a5)).toNatClampNeg (σ.2.2.1 90 ((((40000 : Int32) * a3) + a5)).toNatClampNeg) →
      ∀ v5_2 : Int32, v5_2 = a5 + (1 : Int32) →
      ∃ k < n, I k a3 a4 v5_2 σ1)
theorem t_keepIn_85 {C : rCx} (hC : cOK C) {Q : rS → Prop}   {a3 : Int32} {a4 : Int32} {a5 : Int32} {σ : rS} (F : w_keepIn_85 C Q  a3 a4 a5 σ) : wG C 0 m_keepIn 85 [some (.ref (co C)), none, none, some (.int a3), some (.int a4), some (.int a5)] [] σ (qV Q) := by
  obtain ⟨I, ⟨n0, hI0⟩, F0⟩ := F
  have key : ∀ n a3 a4 a5 σ, I n a3 a4 a5 σ → wG C 0 m_keepIn 85 [some (.ref (co C)), none, none, some (.int a3), some (.int a4), some (.int a5)] [] σ (qV Q) := by
    intro n
    induction n using Nat.strongRecOn with
    | _ n ih =>
      intro a3 a4 a5 σ hI
      have F := F0 n a3 a4 a5 σ hI
      clear hI hI0
      refine s_il dX13_keepIn_85 rfl ?_
      refine s_aln dX13_keepIn_87 rfl ?_
      refine gf_188 dX13_keepIn_88 rfl ?_
      refine s_iln dX13_keepIn_91 rfl ?_
      refine s_ald hC dX13_keepIn_92 rt_91 F.1 ?_
      replace F := F.2
      refine s_ii (t := 131) ((σ.2.2.1 91 (a3).toNatClampNeg) ≤ a5) dX13_keepIn_93 rfl rfl (fun hc => ?_) (fun hc => ?_)
      · replace F := F.1 hc
        exact s_rv dX13_keepIn_131 rfl F
      · replace F := F.2 hc
        refine s_aln dX13_keepIn_96 rfl ?_
        refine gf_192 dX13_keepIn_97 rfl ?_
        refine s_il dX13_keepIn_100 rfl ?_
        refine s_si dX13_keepIn_102 ks_130 ?_
        refine s_iadd dX13_keepIn_105 ?_
        refine s_ic dX13_keepIn_106 ki_1 ?_
        refine s_iadd dX13_keepIn_107 ?_
        refine s_il dX13_keepIn_108 rfl ?_
        refine s_iadd dX13_keepIn_110 ?_
        refine s_aln dX13_keepIn_111 rfl ?_
        refine gf_185 dX13_keepIn_112 rfl ?_
        refine s_ldcw dX13_keepIn_115 rfl cn_676 ?_
        refine s_iln dX13_keepIn_118 rfl ?_
        refine s_imul dX13_keepIn_119 ?_
        refine s_il dX13_keepIn_120 rfl ?_
        refine s_iadd dX13_keepIn_122 ?_
        refine s_ald hC dX13_keepIn_123 rt_90 F.1 ?_
        replace F := F.2
        refine s_astb hC dX13_keepIn_124 rt_93 F.1 (fun σ1 eσ1 => ?_)
        replace F := F.2 σ1 eσ1
        refine s_incb dX13_keepIn_125 ki_1 rfl (Nat.le_of_ble_eq_true rfl) (fun v5_2 ev5_2 => ?_)
        replace F := F v5_2 ev5_2
        show wG _ _ _ _ [some (.ref (co C)), none, none, some (.int a3), some (.int a4), some (.int v5_2)] _ _ _
        refine s_goto (t := 85) dX13_keepIn_128 rfl ?_
        obtain ⟨k, hk, hI⟩ := F
        exact s_k (ih k hk _ _ _ _ hI) ⟨rfl, rfl, rfl, rfl, trivial⟩
  exact key n0 a3 a4 a5 σ hI0

def w_keepIn_40 (C : rCx) (Q : rS → Prop)  (a2 : Int32) (a3 : Int32) (a4 : Int32) (a5 : Int32) (σ : rS) : Prop :=
  ∃ I : Nat → Int32 → Int32 → Int32 → Int32 → rS → Prop, (∃ n, I n a2 a3 a4 a5 σ) ∧ ∀ n a2 a3 a4 a5 σ, I n a2 a3 a4 a5 σ →
    inb a2 30 ∧
    ((σ.2.2.1 91 (a2).toNatClampNeg) ≤ a5 →
      w_keepIn_85 C Q  a3 a4 (0 : Int32) σ) ∧
    (¬ ((σ.2.2.1 91 (a2).toNatClampNeg) ≤ a5) →
      inb (((40000 : Int32) * a2) + a5) 1200000 ∧
      inb ((a4 + (1 : Int32)) + a5) 566000 ∧
      ∀ σ1, σ1 = riU σ 93 (((a4 + (1 : Int32)) + a5)).toNatClampNeg (σ.2.2.1 90 ((((40000 : Int32) * a2) + a5)).toNatClampNeg) →
      ∀ v5_2 : Int32, v5_2 = a5 + (1 : Int32) →
      ∃ k < n, I k a2 a3 a4 v5_2 σ1)
theorem t_keepIn_40 {C : rCx} (hC : cOK C) {Q : rS → Prop}   {a2 : Int32} {a3 : Int32} {a4 : Int32} {a5 : Int32} {σ : rS} (F : w_keepIn_40 C Q  a2 a3 a4 a5 σ) : wG C 0 m_keepIn 40 [some (.ref (co C)), none, some (.int a2), some (.int a3), some (.int a4), some (.int a5)] [] σ (qV Q) := by
  obtain ⟨I, ⟨n0, hI0⟩, F0⟩ := F
  have key : ∀ n a2 a3 a4 a5 σ, I n a2 a3 a4 a5 σ → wG C 0 m_keepIn 40 [some (.ref (co C)), none, some (.int a2), some (.int a3), some (.int a4), some (.int a5)] [] σ (qV Q) := by
    intro n
    induction n using Nat.strongRecOn with
    | _ n ih =>
      intro a2 a3 a4 a5 σ hI
      have F := F0 n a2 a3 a4 a5 σ hI
      clear hI hI0
      refine s_il dX13_keepIn_40 rfl ?_
      refine s_aln dX13_keepIn_42 rfl ?_
      refine gf_188 dX13_keepIn_43 rfl ?_
      refine s_iln dX13_keepIn_46 rfl ?_
      refine s_ald hC dX13_keepIn_47 rt_91 F.1 ?_
      replace F := F.2
      refine s_ii (t := 82) ((σ.2.2.1 91 (a2).toNatClampNeg) ≤ a5) dX13_keepIn_48 rfl rfl (fun hc => ?_) (fun hc => ?_)
      · replace F := F.1 hc
        refine s_ic dX13_keepIn_82 ki_0 ?_
        refine s_is dX13_keepIn_83 (Nat.le_of_ble_eq_true rfl) rfl ?_
        show wG _ _ _ _ [some (.ref (co C)), none, some (.int a2), some (.int a3), some (.int a4), some (.int (0 : Int32))] _ _ _
        exact s_k (t_keepIn_85 hC  F) ⟨rfl, rfl, rfl, rfl, trivial⟩
      · replace F := F.2 hc
        refine s_aln dX13_keepIn_51 rfl ?_
        refine gf_192 dX13_keepIn_52 rfl ?_
        refine s_il dX13_keepIn_55 rfl ?_
        refine s_ic dX13_keepIn_57 ki_1 ?_
        refine s_iadd dX13_keepIn_58 ?_
        refine s_il dX13_keepIn_59 rfl ?_
        refine s_iadd dX13_keepIn_61 ?_
        refine s_aln dX13_keepIn_62 rfl ?_
        refine gf_185 dX13_keepIn_63 rfl ?_
        refine s_ldcw dX13_keepIn_66 rfl cn_676 ?_
        refine s_iln dX13_keepIn_69 rfl ?_
        refine s_imul dX13_keepIn_70 ?_
        refine s_il dX13_keepIn_71 rfl ?_
        refine s_iadd dX13_keepIn_73 ?_
        refine s_ald hC dX13_keepIn_74 rt_90 F.1 ?_
        replace F := F.2
        refine s_astb hC dX13_keepIn_75 rt_93 F.1 (fun σ1 eσ1 => ?_)
        replace F := F.2 σ1 eσ1
        refine s_incb dX13_keepIn_76 ki_1 rfl (Nat.le_of_ble_eq_true rfl) (fun v5_2 ev5_2 => ?_)
        replace F := F v5_2 ev5_2
        show wG _ _ _ _ [some (.ref (co C)), none, some (.int a2), some (.int a3), some (.int a4), some (.int v5_2)] _ _ _
        refine s_goto (t := 40) dX13_keepIn_79 rfl ?_
        obtain ⟨k, hk, hI⟩ := F
        exact s_k (ih k hk _ _ _ _ _ hI) ⟨rfl, rfl, rfl, rfl, rfl, trivial⟩
  exact key n0 a2 a3 a4 a5 σ hI0

def w_keepIn_0 (C : rCx) (Q : rS → Prop)  (a1 : Int32) (a2 : Int32) (a3 : Int32) (σ : rS) : Prop :=
  ∀ v4_1 : Int32, v4_1 = ((260 : Int32) * a1) →
  inb a2 30 ∧
  inb v4_1 566000 ∧
  ∀ σ2, σ2 = riU σ 93 (v4_1).toNatClampNeg (σ.2.2.1 91 (a2).toNatClampNeg) →
  inb a3 30 ∧
  inb (v4_1 + (130 : Int32)) 566000 ∧
  ∀ σ3, σ3 = riU σ2 93 ((v4_1 + (130 : Int32))).toNatClampNeg (σ2.2.2.1 91 (a3).toNatClampNeg) →
  w_keepIn_40 C Q  a2 a3 v4_1 (0 : Int32) σ3
theorem t_keepIn_0 {C : rCx} (hC : cOK C) {Q : rS → Prop}   {a1 : Int32} {a2 : Int32} {a3 : Int32} {σ : rS} (F : w_keepIn_0 C Q  a1 a2 a3 σ) : wG C 0 m_keepIn 0 [some (.ref (co C)), some (.int a1), some (.int a2), some (.int a3), none, none] [] σ (qV Q) := by
  unfold w_keepIn_0 at F
  refine s_si dX13_keepIn_0 ks_260 ?_
  refine s_iln dX13_keepIn_3 rfl ?_
  refine s_imul dX13_keepIn_4 ?_
  refine s_isb dX13_keepIn_5 (Nat.le_of_ble_eq_true rfl) (fun v4_1 ev4_1 => ?_)
  replace F := F v4_1 ev4_1
  show wG _ _ _ _ [some (.ref (co C)), some (.int a1), some (.int a2), some (.int a3), some (.int v4_1), none] _ _ _
  refine s_aln dX13_keepIn_7 rfl ?_
  refine gf_192 dX13_keepIn_8 rfl ?_
  refine s_il dX13_keepIn_11 rfl ?_
  refine s_aln dX13_keepIn_13 rfl ?_
  refine gf_188 dX13_keepIn_14 rfl ?_
  refine s_iln dX13_keepIn_17 rfl ?_
  refine s_ald hC dX13_keepIn_18 rt_91 F.1 ?_
  replace F := F.2
  refine s_astb hC dX13_keepIn_19 rt_93 F.1 (fun σ2 eσ2 => ?_)
  replace F := F.2 σ2 eσ2
  refine s_aln dX13_keepIn_20 rfl ?_
  refine gf_192 dX13_keepIn_21 rfl ?_
  refine s_il dX13_keepIn_24 rfl ?_
  refine s_si dX13_keepIn_26 ks_130 ?_
  refine s_iadd dX13_keepIn_29 ?_
  refine s_aln dX13_keepIn_30 rfl ?_
  refine gf_188 dX13_keepIn_31 rfl ?_
  refine s_iln dX13_keepIn_34 rfl ?_
  refine s_ald hC dX13_keepIn_35 rt_91 F.1 ?_
  replace F := F.2
  refine s_astb hC dX13_keepIn_36 rt_93 F.1 (fun σ3 eσ3 => ?_)
  replace F := F.2 σ3 eσ3
  refine s_ic dX13_keepIn_37 ki_0 ?_
  refine s_is dX13_keepIn_38 (Nat.le_of_ble_eq_true rfl) rfl ?_
  show wG _ _ _ _ [some (.ref (co C)), some (.int a1), some (.int a2), some (.int a3), some (.int v4_1), some (.int (0 : Int32))] _ _ _
  exact s_k (t_keepIn_40 hC  F) ⟨rfl, rfl, rfl, rfl, rfl, trivial⟩

theorem m_keepIn_run {C : rCx} (hC : cOK C) {Q : rS → Prop} {a1 : Int32} {a2 : Int32} {a3 : Int32} {σ : rS} (F : w_keepIn_0 C Q a1 a2 a3 σ) : cV C 0 m_keepIn [.ref (co C), .int a1, .int a2, .int a3] σ Q := m_V (m_ent _ 2) (t_keepIn_0 hC F)

theorem dX13_load_0 : decode cX13_load 0 = .ok (.sipush 260, 3) := by decide +kernel
theorem dX13_load_3 : decode cX13_load 3 = .ok (.iload_n 1, 1) := by decide +kernel
theorem dX13_load_4 : decode cX13_load 4 = .ok (.imul, 1) := by decide +kernel
theorem dX13_load_5 : decode cX13_load 5 = .ok (.istore 4, 2) := by decide +kernel
theorem dX13_load_7 : decode cX13_load 7 = .ok (.aload_n 0, 1) := by decide +kernel
theorem dX13_load_8 : decode cX13_load 8 = .ok (.getfield 188, 3) := by decide +kernel
theorem dX13_load_11 : decode cX13_load 11 = .ok (.iload_n 2, 1) := by decide +kernel
theorem dX13_load_12 : decode cX13_load 12 = .ok (.aload_n 0, 1) := by decide +kernel
theorem dX13_load_13 : decode cX13_load 13 = .ok (.getfield 192, 3) := by decide +kernel
theorem dX13_load_16 : decode cX13_load 16 = .ok (.iload 4, 2) := by decide +kernel
theorem dX13_load_18 : decode cX13_load 18 = .ok (.iaload, 1) := by decide +kernel
theorem dX13_load_19 : decode cX13_load 19 = .ok (.iastore, 1) := by decide +kernel
theorem dX13_load_20 : decode cX13_load 20 = .ok (.aload_n 0, 1) := by decide +kernel
theorem dX13_load_21 : decode cX13_load 21 = .ok (.getfield 188, 3) := by decide +kernel
theorem dX13_load_24 : decode cX13_load 24 = .ok (.iload_n 3, 1) := by decide +kernel
theorem dX13_load_25 : decode cX13_load 25 = .ok (.aload_n 0, 1) := by decide +kernel
theorem dX13_load_26 : decode cX13_load 26 = .ok (.getfield 192, 3) := by decide +kernel
theorem dX13_load_29 : decode cX13_load 29 = .ok (.iload 4, 2) := by decide +kernel
theorem dX13_load_31 : decode cX13_load 31 = .ok (.sipush 130, 3) := by decide +kernel
theorem dX13_load_34 : decode cX13_load 34 = .ok (.iadd, 1) := by decide +kernel
theorem dX13_load_35 : decode cX13_load 35 = .ok (.iaload, 1) := by decide +kernel
theorem dX13_load_36 : decode cX13_load 36 = .ok (.iastore, 1) := by decide +kernel
theorem dX13_load_37 : decode cX13_load 37 = .ok (.iconst 0, 1) := by decide +kernel
theorem dX13_load_38 : decode cX13_load 38 = .ok (.istore 5, 2) := by decide +kernel
theorem dX13_load_40 : decode cX13_load 40 = .ok (.iload 5, 2) := by decide +kernel
theorem dX13_load_42 : decode cX13_load 42 = .ok (.aload_n 0, 1) := by decide +kernel
theorem dX13_load_43 : decode cX13_load 43 = .ok (.getfield 188, 3) := by decide +kernel
theorem dX13_load_46 : decode cX13_load 46 = .ok (.iload_n 2, 1) := by decide +kernel
theorem dX13_load_47 : decode cX13_load 47 = .ok (.iaload, 1) := by decide +kernel
theorem dX13_load_48 : decode cX13_load 48 = .ok (.if_icmp .ge 34, 3) := by decide +kernel
theorem dX13_load_51 : decode cX13_load 51 = .ok (.aload_n 0, 1) := by decide +kernel
theorem dX13_load_52 : decode cX13_load 52 = .ok (.getfield 185, 3) := by decide +kernel
theorem dX13_load_55 : decode cX13_load 55 = .ok (.ldc_w 676, 3) := by decide +kernel
theorem dX13_load_58 : decode cX13_load 58 = .ok (.iload_n 2, 1) := by decide +kernel
theorem dX13_load_59 : decode cX13_load 59 = .ok (.imul, 1) := by decide +kernel
theorem dX13_load_60 : decode cX13_load 60 = .ok (.iload 5, 2) := by decide +kernel
theorem dX13_load_62 : decode cX13_load 62 = .ok (.iadd, 1) := by decide +kernel
theorem dX13_load_63 : decode cX13_load 63 = .ok (.aload_n 0, 1) := by decide +kernel
theorem dX13_load_64 : decode cX13_load 64 = .ok (.getfield 192, 3) := by decide +kernel
theorem dX13_load_67 : decode cX13_load 67 = .ok (.iload 4, 2) := by decide +kernel
theorem dX13_load_69 : decode cX13_load 69 = .ok (.iconst 1, 1) := by decide +kernel
theorem dX13_load_70 : decode cX13_load 70 = .ok (.iadd, 1) := by decide +kernel
theorem dX13_load_71 : decode cX13_load 71 = .ok (.iload 5, 2) := by decide +kernel
theorem dX13_load_73 : decode cX13_load 73 = .ok (.iadd, 1) := by decide +kernel
theorem dX13_load_74 : decode cX13_load 74 = .ok (.iaload, 1) := by decide +kernel
theorem dX13_load_75 : decode cX13_load 75 = .ok (.iastore, 1) := by decide +kernel
theorem dX13_load_76 : decode cX13_load 76 = .ok (.iinc 5 1, 3) := by decide +kernel
theorem dX13_load_79 : decode cX13_load 79 = .ok (.goto (-39), 3) := by decide +kernel
theorem dX13_load_82 : decode cX13_load 82 = .ok (.iconst 0, 1) := by decide +kernel
theorem dX13_load_83 : decode cX13_load 83 = .ok (.istore 5, 2) := by decide +kernel
theorem dX13_load_85 : decode cX13_load 85 = .ok (.iload 5, 2) := by decide +kernel
theorem dX13_load_87 : decode cX13_load 87 = .ok (.aload_n 0, 1) := by decide +kernel
theorem dX13_load_88 : decode cX13_load 88 = .ok (.getfield 188, 3) := by decide +kernel
theorem dX13_load_91 : decode cX13_load 91 = .ok (.iload_n 3, 1) := by decide +kernel
theorem dX13_load_92 : decode cX13_load 92 = .ok (.iaload, 1) := by decide +kernel
theorem dX13_load_93 : decode cX13_load 93 = .ok (.if_icmp .ge 38, 3) := by decide +kernel
theorem dX13_load_96 : decode cX13_load 96 = .ok (.aload_n 0, 1) := by decide +kernel
theorem dX13_load_97 : decode cX13_load 97 = .ok (.getfield 185, 3) := by decide +kernel
theorem dX13_load_100 : decode cX13_load 100 = .ok (.ldc_w 676, 3) := by decide +kernel
theorem dX13_load_103 : decode cX13_load 103 = .ok (.iload_n 3, 1) := by decide +kernel
theorem dX13_load_104 : decode cX13_load 104 = .ok (.imul, 1) := by decide +kernel
theorem dX13_load_105 : decode cX13_load 105 = .ok (.iload 5, 2) := by decide +kernel
theorem dX13_load_107 : decode cX13_load 107 = .ok (.iadd, 1) := by decide +kernel
theorem dX13_load_108 : decode cX13_load 108 = .ok (.aload_n 0, 1) := by decide +kernel
theorem dX13_load_109 : decode cX13_load 109 = .ok (.getfield 192, 3) := by decide +kernel
theorem dX13_load_112 : decode cX13_load 112 = .ok (.iload 4, 2) := by decide +kernel
theorem dX13_load_114 : decode cX13_load 114 = .ok (.sipush 130, 3) := by decide +kernel
theorem dX13_load_117 : decode cX13_load 117 = .ok (.iadd, 1) := by decide +kernel
theorem dX13_load_118 : decode cX13_load 118 = .ok (.iconst 1, 1) := by decide +kernel
theorem dX13_load_119 : decode cX13_load 119 = .ok (.iadd, 1) := by decide +kernel
theorem dX13_load_120 : decode cX13_load 120 = .ok (.iload 5, 2) := by decide +kernel
theorem dX13_load_122 : decode cX13_load 122 = .ok (.iadd, 1) := by decide +kernel
theorem dX13_load_123 : decode cX13_load 123 = .ok (.iaload, 1) := by decide +kernel
theorem dX13_load_124 : decode cX13_load 124 = .ok (.iastore, 1) := by decide +kernel
theorem dX13_load_125 : decode cX13_load 125 = .ok (.iinc 5 1, 3) := by decide +kernel
theorem dX13_load_128 : decode cX13_load 128 = .ok (.goto (-43), 3) := by decide +kernel
theorem dX13_load_131 : decode cX13_load 131 = .ok (.return_, 1) := by decide +kernel
def w_load_85 (C : rCx) (Q : rS → Prop)  (a3 : Int32) (a4 : Int32) (a5 : Int32) (σ : rS) : Prop :=
  ∃ I : Nat → Int32 → Int32 → Int32 → rS → Prop, (∃ n, I n a3 a4 a5 σ) ∧ ∀ n a3 a4 a5 σ, I n a3 a4 a5 σ →
    inb a3 30 ∧
    ((σ.2.2.1 91 (a3).toNatClampNeg) ≤ a5 →
      Q σ) ∧
    (¬ ((σ.2.2.1 91 (a3).toNatClampNeg) ≤ a5) →
      inb (((a4 + (130 : Int32)) + (1 : Int32)) + a5) 566000 ∧
      inb (((40000 : Int32) * a3) + a5) 1200000 ∧
      ∀ σ1, σ1 = riU σ 90 ((((40000 : Int32) * a3) + a5)).toNatClampNeg (σ.2.2.1 93 ((((a4 + (130 : Int32)) + (1 : Int32)) + a5)).toNatClampNeg) →
      ∀ v5_2 : Int32, v5_2 = a5 + (1 : Int32) →
      ∃ k < n, I k a3 a4 v5_2 σ1)
theorem t_load_85 {C : rCx} (hC : cOK C) {Q : rS → Prop}   {a3 : Int32} {a4 : Int32} {a5 : Int32} {σ : rS} (F : w_load_85 C Q  a3 a4 a5 σ) : wG C 0 m_load 85 [some (.ref (co C)), none, none, some (.int a3), some (.int a4), some (.int a5)] [] σ (qV Q) := by
  obtain ⟨I, ⟨n0, hI0⟩, F0⟩ := F
  have key : ∀ n a3 a4 a5 σ, I n a3 a4 a5 σ → wG C 0 m_load 85 [some (.ref (co C)), none, none, some (.int a3), some (.int a4), some (.int a5)] [] σ (qV Q) := by
    intro n
    induction n using Nat.strongRecOn with
    | _ n ih =>
      intro a3 a4 a5 σ hI
      have F := F0 n a3 a4 a5 σ hI
      clear hI hI0
      refine s_il dX13_load_85 rfl ?_
      refine s_aln dX13_load_87 rfl ?_
      refine gf_188 dX13_load_88 rfl ?_
      refine s_iln dX13_load_91 rfl ?_
      refine s_ald hC dX13_load_92 rt_91 F.1 ?_
      replace F := F.2
      refine s_ii (t := 131) ((σ.2.2.1 91 (a3).toNatClampNeg) ≤ a5) dX13_load_93 rfl rfl (fun hc => ?_) (fun hc => ?_)
      · replace F := F.1 hc
        exact s_rv dX13_load_131 rfl F
      · replace F := F.2 hc
        refine s_aln dX13_load_96 rfl ?_
        refine gf_185 dX13_load_97 rfl ?_
        refine s_ldcw dX13_load_100 rfl cn_676 ?_
        refine s_iln dX13_load_103 rfl ?_
        refine s_imul dX13_load_104 ?_
        refine s_il dX13_load_105 rfl ?_
        refine s_iadd dX13_load_107 ?_
        refine s_aln dX13_load_108 rfl ?_
        refine gf_192 dX13_load_109 rfl ?_
        refine s_il dX13_load_112 rfl ?_
        refine s_si dX13_load_114 ks_130 ?_
        refine s_iadd dX13_load_117 ?_
        refine s_ic dX13_load_118 ki_1 ?_
        refine s_iadd dX13_load_119 ?_
        refine s_il dX13_load_120 rfl ?_
        refine s_iadd dX13_load_122 ?_
        refine s_ald hC dX13_load_123 rt_93 F.1 ?_
        replace F := F.2
        refine s_astb hC dX13_load_124 rt_90 F.1 (fun σ1 eσ1 => ?_)
        replace F := F.2 σ1 eσ1
        refine s_incb dX13_load_125 ki_1 rfl (Nat.le_of_ble_eq_true rfl) (fun v5_2 ev5_2 => ?_)
        replace F := F v5_2 ev5_2
        show wG _ _ _ _ [some (.ref (co C)), none, none, some (.int a3), some (.int a4), some (.int v5_2)] _ _ _
        refine s_goto (t := 85) dX13_load_128 rfl ?_
        obtain ⟨k, hk, hI⟩ := F
        exact s_k (ih k hk _ _ _ _ hI) ⟨rfl, rfl, rfl, rfl, trivial⟩
  exact key n0 a3 a4 a5 σ hI0

def w_load_40 (C : rCx) (Q : rS → Prop)  (a2 : Int32) (a3 : Int32) (a4 : Int32) (a5 : Int32) (σ : rS) : Prop :=
  ∃ I : Nat → Int32 → Int32 → Int32 → Int32 → rS → Prop, (∃ n, I n a2 a3 a4 a5 σ) ∧ ∀ n a2 a3 a4 a5 σ, I n a2 a3 a4 a5 σ →
    inb a2 30 ∧
    ((σ.2.2.1 91 (a2).toNatClampNeg) ≤ a5 →
      w_load_85 C Q  a3 a4 (0 : Int32) σ) ∧
    (¬ ((σ.2.2.1 91 (a2).toNatClampNeg) ≤ a5) →
      inb ((a4 + (1 : Int32)) + a5) 566000 ∧
      inb (((40000 : Int32) * a2) + a5) 1200000 ∧
      ∀ σ1, σ1 = riU σ 90 ((((40000 : Int32) * a2) + a5)).toNatClampNeg (σ.2.2.1 93 (((a4 + (1 : Int32)) + a5)).toNatClampNeg) →
      ∀ v5_2 : Int32, v5_2 = a5 + (1 : Int32) →
      ∃ k < n, I k a2 a3 a4 v5_2 σ1)
theorem t_load_40 {C : rCx} (hC : cOK C) {Q : rS → Prop}   {a2 : Int32} {a3 : Int32} {a4 : Int32} {a5 : Int32} {σ : rS} (F : w_load_40 C Q  a2 a3 a4 a5 σ) : wG C 0 m_load 40 [some (.ref (co C)), none, some (.int a2), some (.int a3), some (.int a4), some (.int a5)] [] σ (qV Q) := by
  obtain ⟨I, ⟨n0, hI0⟩, F0⟩ := F
  have key : ∀ n a2 a3 a4 a5 σ, I n a2 a3 a4 a5 σ → wG C 0 m_load 40 [some (.ref (co C)), none, some (.int a2), some (.int a3), some (.int a4), some (.int a5)] [] σ (qV Q) := by
    intro n
    induction n using Nat.strongRecOn with
    | _ n ih =>
      intro a2 a3 a4 a5 σ hI
      have F := F0 n a2 a3 a4 a5 σ hI
      clear hI hI0
      refine s_il dX13_load_40 rfl ?_
      refine s_aln dX13_load_42 rfl ?_
      refine gf_188 dX13_load_43 rfl ?_
      refine s_iln dX13_load_46 rfl ?_
      refine s_ald hC dX13_load_47 rt_91 F.1 ?_
      replace F := F.2
      refine s_ii (t := 82) ((σ.2.2.1 91 (a2).toNatClampNeg) ≤ a5) dX13_load_48 rfl rfl (fun hc => ?_) (fun hc => ?_)
      · replace F := F.1 hc
        refine s_ic dX13_load_82 ki_0 ?_
        refine s_is dX13_load_83 (Nat.le_of_ble_eq_true rfl) rfl ?_
        show wG _ _ _ _ [some (.ref (co C)), none, some (.int a2), some (.int a3), some (.int a4), some (.int (0 : Int32))] _ _ _
        exact s_k (t_load_85 hC  F) ⟨rfl, rfl, rfl, rfl, trivial⟩
      · replace F := F.2 hc
        refine s_aln dX13_load_51 rfl ?_
        refine gf_185 dX13_load_52 rfl ?_
        refine s_ldcw dX13_load_55 rfl cn_676 ?_
        refine s_iln dX13_load_58 rfl ?_
        refine s_imul dX13_load_59 ?_
        refine s_il dX13_load_60 rfl ?_
        refine s_iadd dX13_load_62 ?_
        refine s_aln dX13_load_63 rfl ?_
        refine gf_192 dX13_load_64 rfl ?_
        refine s_il dX13_load_67 rfl ?_
        refine s_ic dX13_load_69 ki_1 ?_
        refine s_iadd dX13_load_70 ?_
        refine s_il dX13_load_71 rfl ?_
        refine s_iadd dX13_load_73 ?_
        refine s_ald hC dX13_load_74 rt_93 F.1 ?_
        replace F := F.2
        refine s_astb hC dX13_load_75 rt_90 F.1 (fun σ1 eσ1 => ?_)
        replace F := F.2 σ1 eσ1
        refine s_incb dX13_load_76 ki_1 rfl (Nat.le_of_ble_eq_true rfl) (fun v5_2 ev5_2 => ?_)
        replace F := F v5_2 ev5_2
        show wG _ _ _ _ [some (.ref (co C)), none, some (.int a2), some (.int a3), some (.int a4), some (.int v5_2)] _ _ _
        refine s_goto (t := 40) dX13_load_79 rfl ?_
        obtain ⟨k, hk, hI⟩ := F
        exact s_k (ih k hk _ _ _ _ _ hI) ⟨rfl, rfl, rfl, rfl, rfl, trivial⟩
  exact key n0 a2 a3 a4 a5 σ hI0

def w_load_0 (C : rCx) (Q : rS → Prop)  (a1 : Int32) (a2 : Int32) (a3 : Int32) (σ : rS) : Prop :=
  ∀ v4_1 : Int32, v4_1 = ((260 : Int32) * a1) →
  inb v4_1 566000 ∧
  inb a2 30 ∧
  ∀ σ2, σ2 = riU σ 91 (a2).toNatClampNeg (σ.2.2.1 93 (v4_1).toNatClampNeg) →
  inb (v4_1 + (130 : Int32)) 566000 ∧
  inb a3 30 ∧
  ∀ σ3, σ3 = riU σ2 91 (a3).toNatClampNeg (σ2.2.2.1 93 ((v4_1 + (130 : Int32))).toNatClampNeg) →
  w_load_40 C Q  a2 a3 v4_1 (0 : Int32) σ3
theorem t_load_0 {C : rCx} (hC : cOK C) {Q : rS → Prop}   {a1 : Int32} {a2 : Int32} {a3 : Int32} {σ : rS} (F : w_load_0 C Q  a1 a2 a3 σ) : wG C 0 m_load 0 [some (.ref (co C)), some (.int a1), some (.int a2), some (.int a3), none, none] [] σ (qV Q) := by
  unfold w_load_0 at F
  refine s_si dX13_load_0 ks_260 ?_
  refine s_iln dX13_load_3 rfl ?_
  refine s_imul dX13_load_4 ?_
  refine s_isb dX13_load_5 (Nat.le_of_ble_eq_true rfl) (fun v4_1 ev4_1 => ?_)
  replace F := F v4_1 ev4_1
  show wG _ _ _ _ [some (.ref (co C)), some (.int a1), some (.int a2), some (.int a3), some (.int v4_1), none] _ _ _
  refine s_aln dX13_load_7 rfl ?_
  refine gf_188 dX13_load_8 rfl ?_
  refine s_iln dX13_load_11 rfl ?_
  refine s_aln dX13_load_12 rfl ?_
  refine gf_192 dX13_load_13 rfl ?_
  refine s_il dX13_load_16 rfl ?_
  refine s_ald hC dX13_load_18 rt_93 F.1 ?_
  replace F := F.2
  refine s_astb hC dX13_load_19 rt_91 F.1 (fun σ2 eσ2 => ?_)
  replace F := F.2 σ2 eσ2
  refine s_aln dX13_load_20 rfl ?_
  refine gf_188 dX13_load_21 rfl ?_
  refine s_iln dX13_load_24 rfl ?_
  refine s_aln dX13_load_25 rfl ?_
  refine gf_192 dX13_load_26 rfl ?_
  refine s_il dX13_load_29 rfl ?_
  refine s_si dX13_load_31 ks_130 ?_
  refine s_iadd dX13_load_34 ?_
  refine s_ald hC dX13_load_35 rt_93 F.1 ?_
  replace F := F.2
  refine s_astb hC dX13_load_36 rt_91 F.1 (fun σ3 eσ3 => ?_)
  replace F := F.2 σ3 eσ3
  refine s_ic dX13_load_37 ki_0 ?_
  refine s_is dX13_load_38 (Nat.le_of_ble_eq_true rfl) rfl ?_
  show wG _ _ _ _ [some (.ref (co C)), some (.int a1), some (.int a2), some (.int a3), some (.int v4_1), some (.int (0 : Int32))] _ _ _
  exact s_k (t_load_40 hC  F) ⟨rfl, rfl, rfl, rfl, rfl, trivial⟩

theorem m_load_run {C : rCx} (hC : cOK C) {Q : rS → Prop} {a1 : Int32} {a2 : Int32} {a3 : Int32} {σ : rS} (F : w_load_0 C Q a1 a2 a3 σ) : cV C 0 m_load [.ref (co C), .int a1, .int a2, .int a3] σ Q := m_V (m_ent _ 2) (t_load_0 hC F)

theorem dX13_addProduct_0 : decode cX13_addProduct 0 = .ok (.aload_n 0, 1) := by decide +kernel
theorem dX13_addProduct_1 : decode cX13_addProduct 1 = .ok (.getfield 192, 3) := by decide +kernel
theorem dX13_addProduct_4 : decode cX13_addProduct 4 = .ok (.sipush 260, 3) := by decide +kernel
theorem dX13_addProduct_7 : decode cX13_addProduct 7 = .ok (.iload_n 2, 1) := by decide +kernel
theorem dX13_addProduct_8 : decode cX13_addProduct 8 = .ok (.imul, 1) := by decide +kernel
theorem dX13_addProduct_9 : decode cX13_addProduct 9 = .ok (.iaload, 1) := by decide +kernel
theorem dX13_addProduct_10 : decode cX13_addProduct 10 = .ok (.ifCond .eq 16, 3) := by decide +kernel
theorem dX13_addProduct_13 : decode cX13_addProduct 13 = .ok (.aload_n 0, 1) := by decide +kernel
theorem dX13_addProduct_14 : decode cX13_addProduct 14 = .ok (.getfield 192, 3) := by decide +kernel
theorem dX13_addProduct_17 : decode cX13_addProduct 17 = .ok (.sipush 260, 3) := by decide +kernel
theorem dX13_addProduct_20 : decode cX13_addProduct 20 = .ok (.iload_n 3, 1) := by decide +kernel
theorem dX13_addProduct_21 : decode cX13_addProduct 21 = .ok (.imul, 1) := by decide +kernel
theorem dX13_addProduct_22 : decode cX13_addProduct 22 = .ok (.iaload, 1) := by decide +kernel
theorem dX13_addProduct_23 : decode cX13_addProduct 23 = .ok (.ifCond .ne 4, 3) := by decide +kernel
theorem dX13_addProduct_26 : decode cX13_addProduct 26 = .ok (.return_, 1) := by decide +kernel
theorem dX13_addProduct_27 : decode cX13_addProduct 27 = .ok (.aload_n 0, 1) := by decide +kernel
theorem dX13_addProduct_28 : decode cX13_addProduct 28 = .ok (.iload_n 2, 1) := by decide +kernel
theorem dX13_addProduct_29 : decode cX13_addProduct 29 = .ok (.bipush 6, 2) := by decide +kernel
theorem dX13_addProduct_31 : decode cX13_addProduct 31 = .ok (.bipush 7, 2) := by decide +kernel
theorem dX13_addProduct_33 : decode cX13_addProduct 33 = .ok (.invokevirtual 724, 3) := by decide +kernel
theorem dX13_addProduct_36 : decode cX13_addProduct 36 = .ok (.aload_n 0, 1) := by decide +kernel
theorem dX13_addProduct_37 : decode cX13_addProduct 37 = .ok (.iload_n 3, 1) := by decide +kernel
theorem dX13_addProduct_38 : decode cX13_addProduct 38 = .ok (.bipush 11, 2) := by decide +kernel
theorem dX13_addProduct_40 : decode cX13_addProduct 40 = .ok (.bipush 12, 2) := by decide +kernel
theorem dX13_addProduct_42 : decode cX13_addProduct 42 = .ok (.invokevirtual 724, 3) := by decide +kernel
theorem dX13_addProduct_45 : decode cX13_addProduct 45 = .ok (.aload_n 0, 1) := by decide +kernel
theorem dX13_addProduct_46 : decode cX13_addProduct 46 = .ok (.bipush 13, 2) := by decide +kernel
theorem dX13_addProduct_48 : decode cX13_addProduct 48 = .ok (.bipush 6, 2) := by decide +kernel
theorem dX13_addProduct_50 : decode cX13_addProduct 50 = .ok (.bipush 11, 2) := by decide +kernel
theorem dX13_addProduct_52 : decode cX13_addProduct 52 = .ok (.invokevirtual 712, 3) := by decide +kernel
theorem dX13_addProduct_55 : decode cX13_addProduct 55 = .ok (.aload_n 0, 1) := by decide +kernel
theorem dX13_addProduct_56 : decode cX13_addProduct 56 = .ok (.bipush 14, 2) := by decide +kernel
theorem dX13_addProduct_58 : decode cX13_addProduct 58 = .ok (.bipush 7, 2) := by decide +kernel
theorem dX13_addProduct_60 : decode cX13_addProduct 60 = .ok (.bipush 12, 2) := by decide +kernel
theorem dX13_addProduct_62 : decode cX13_addProduct 62 = .ok (.invokevirtual 712, 3) := by decide +kernel
theorem dX13_addProduct_65 : decode cX13_addProduct 65 = .ok (.aload_n 0, 1) := by decide +kernel
theorem dX13_addProduct_66 : decode cX13_addProduct 66 = .ok (.bipush 6, 2) := by decide +kernel
theorem dX13_addProduct_68 : decode cX13_addProduct 68 = .ok (.bipush 13, 2) := by decide +kernel
theorem dX13_addProduct_70 : decode cX13_addProduct 70 = .ok (.invokevirtual 703, 3) := by decide +kernel
theorem dX13_addProduct_73 : decode cX13_addProduct 73 = .ok (.aload_n 0, 1) := by decide +kernel
theorem dX13_addProduct_74 : decode cX13_addProduct 74 = .ok (.bipush 7, 2) := by decide +kernel
theorem dX13_addProduct_76 : decode cX13_addProduct 76 = .ok (.bipush 14, 2) := by decide +kernel
theorem dX13_addProduct_78 : decode cX13_addProduct 78 = .ok (.invokevirtual 703, 3) := by decide +kernel
theorem dX13_addProduct_81 : decode cX13_addProduct 81 = .ok (.iload 4, 2) := by decide +kernel
theorem dX13_addProduct_83 : decode cX13_addProduct 83 = .ok (.iconst (-1), 1) := by decide +kernel
theorem dX13_addProduct_84 : decode cX13_addProduct 84 = .ok (.if_icmp .eq 49, 3) := by decide +kernel
theorem dX13_addProduct_87 : decode cX13_addProduct 87 = .ok (.aload_n 0, 1) := by decide +kernel
theorem dX13_addProduct_88 : decode cX13_addProduct 88 = .ok (.iload 4, 2) := by decide +kernel
theorem dX13_addProduct_90 : decode cX13_addProduct 90 = .ok (.bipush 11, 2) := by decide +kernel
theorem dX13_addProduct_92 : decode cX13_addProduct 92 = .ok (.bipush 12, 2) := by decide +kernel
theorem dX13_addProduct_94 : decode cX13_addProduct 94 = .ok (.invokevirtual 724, 3) := by decide +kernel
theorem dX13_addProduct_97 : decode cX13_addProduct 97 = .ok (.aload_n 0, 1) := by decide +kernel
theorem dX13_addProduct_98 : decode cX13_addProduct 98 = .ok (.bipush 13, 2) := by decide +kernel
theorem dX13_addProduct_100 : decode cX13_addProduct 100 = .ok (.bipush 6, 2) := by decide +kernel
theorem dX13_addProduct_102 : decode cX13_addProduct 102 = .ok (.bipush 12, 2) := by decide +kernel
theorem dX13_addProduct_104 : decode cX13_addProduct 104 = .ok (.invokevirtual 712, 3) := by decide +kernel
theorem dX13_addProduct_107 : decode cX13_addProduct 107 = .ok (.aload_n 0, 1) := by decide +kernel
theorem dX13_addProduct_108 : decode cX13_addProduct 108 = .ok (.bipush 14, 2) := by decide +kernel
theorem dX13_addProduct_110 : decode cX13_addProduct 110 = .ok (.bipush 7, 2) := by decide +kernel
theorem dX13_addProduct_112 : decode cX13_addProduct 112 = .ok (.bipush 11, 2) := by decide +kernel
theorem dX13_addProduct_114 : decode cX13_addProduct 114 = .ok (.invokevirtual 712, 3) := by decide +kernel
theorem dX13_addProduct_117 : decode cX13_addProduct 117 = .ok (.aload_n 0, 1) := by decide +kernel
theorem dX13_addProduct_118 : decode cX13_addProduct 118 = .ok (.bipush 6, 2) := by decide +kernel
theorem dX13_addProduct_120 : decode cX13_addProduct 120 = .ok (.bipush 13, 2) := by decide +kernel
theorem dX13_addProduct_122 : decode cX13_addProduct 122 = .ok (.invokevirtual 703, 3) := by decide +kernel
theorem dX13_addProduct_125 : decode cX13_addProduct 125 = .ok (.aload_n 0, 1) := by decide +kernel
theorem dX13_addProduct_126 : decode cX13_addProduct 126 = .ok (.bipush 7, 2) := by decide +kernel
theorem dX13_addProduct_128 : decode cX13_addProduct 128 = .ok (.bipush 14, 2) := by decide +kernel
theorem dX13_addProduct_130 : decode cX13_addProduct 130 = .ok (.invokevirtual 703, 3) := by decide +kernel
theorem dX13_addProduct_133 : decode cX13_addProduct 133 = .ok (.aload_n 0, 1) := by decide +kernel
theorem dX13_addProduct_134 : decode cX13_addProduct 134 = .ok (.bipush 6, 2) := by decide +kernel
theorem dX13_addProduct_136 : decode cX13_addProduct 136 = .ok (.bipush 7, 2) := by decide +kernel
theorem dX13_addProduct_138 : decode cX13_addProduct 138 = .ok (.invokevirtual 721, 3) := by decide +kernel
theorem dX13_addProduct_141 : decode cX13_addProduct 141 = .ok (.aload_n 0, 1) := by decide +kernel
theorem dX13_addProduct_142 : decode cX13_addProduct 142 = .ok (.iload_n 1, 1) := by decide +kernel
theorem dX13_addProduct_143 : decode cX13_addProduct 143 = .ok (.iconst 4, 1) := by decide +kernel
theorem dX13_addProduct_144 : decode cX13_addProduct 144 = .ok (.iconst 5, 1) := by decide +kernel
theorem dX13_addProduct_145 : decode cX13_addProduct 145 = .ok (.invokevirtual 724, 3) := by decide +kernel
theorem dX13_addProduct_148 : decode cX13_addProduct 148 = .ok (.aload_n 0, 1) := by decide +kernel
theorem dX13_addProduct_149 : decode cX13_addProduct 149 = .ok (.iconst 1, 1) := by decide +kernel
theorem dX13_addProduct_150 : decode cX13_addProduct 150 = .ok (.putfield 710, 3) := by decide +kernel
theorem dX13_addProduct_153 : decode cX13_addProduct 153 = .ok (.aload_n 0, 1) := by decide +kernel
theorem dX13_addProduct_154 : decode cX13_addProduct 154 = .ok (.iconst 1, 1) := by decide +kernel
theorem dX13_addProduct_155 : decode cX13_addProduct 155 = .ok (.invokevirtual 727, 3) := by decide +kernel
theorem dX13_addProduct_158 : decode cX13_addProduct 158 = .ok (.aload_n 0, 1) := by decide +kernel
theorem dX13_addProduct_159 : decode cX13_addProduct 159 = .ok (.iload_n 1, 1) := by decide +kernel
theorem dX13_addProduct_160 : decode cX13_addProduct 160 = .ok (.iconst 4, 1) := by decide +kernel
theorem dX13_addProduct_161 : decode cX13_addProduct 161 = .ok (.iconst 5, 1) := by decide +kernel
theorem dX13_addProduct_162 : decode cX13_addProduct 162 = .ok (.invokevirtual 730, 3) := by decide +kernel
theorem dX13_addProduct_165 : decode cX13_addProduct 165 = .ok (.return_, 1) := by decide +kernel
def w_addProduct_133 (C : rCx) (Q : rS → Prop)  (a1 : Int32) (σ : rS) : Prop :=
  cV C 3 m_reduce [.ref (co C), .int (6 : Int32), .int (7 : Int32)] σ (fun σ1 =>
    cV C 0 m_load [.ref (co C), .int a1, .int (4 : Int32), .int (5 : Int32)] σ1 (fun σ3 =>
      ∀ σ5, σ5 = siU σ3 92 (1 : Int32) →
      cV C 4 m_add [.ref (co C), .int (1 : Int32)] σ5 (fun σ6 =>
        cV C 0 m_keepIn [.ref (co C), .int a1, .int (4 : Int32), .int (5 : Int32)] σ6 (fun σ8 =>
          Q σ8))))
theorem t_addProduct_133 {C : rCx} (hC : cOK C) {Q : rS → Prop}   {a1 : Int32} {σ : rS} (F : w_addProduct_133 C Q  a1 σ) : wG C 5 m_addProduct 133 [some (.ref (co C)), some (.int a1), none, none, none] [] σ (qV Q) := by
  unfold w_addProduct_133 at F
  refine s_aln dX13_addProduct_133 rfl ?_
  refine s_bi dX13_addProduct_134 kb_6 ?_
  refine s_bi dX13_addProduct_136 kb_7 ?_
  refine k_721 dX13_addProduct_138 rfl (Nat.le_of_ble_eq_true rfl) (Nat.le_of_ble_eq_true rfl) F (fun σ1 F => ?_)
  refine s_aln dX13_addProduct_141 rfl ?_
  refine s_iln dX13_addProduct_142 rfl ?_
  refine s_ic dX13_addProduct_143 ki_4 ?_
  refine s_ic dX13_addProduct_144 ki_5 ?_
  refine k_724 dX13_addProduct_145 rfl (Nat.le_of_ble_eq_true rfl) (Nat.le_of_ble_eq_true rfl) F (fun σ3 F => ?_)
  refine s_aln dX13_addProduct_148 rfl ?_
  refine s_ic dX13_addProduct_149 ki_1 ?_
  refine pf_710 hC dX13_addProduct_150 rfl (fun σ5 eσ5 => ?_)
  replace F := F σ5 eσ5
  refine s_aln dX13_addProduct_153 rfl ?_
  refine s_ic dX13_addProduct_154 ki_1 ?_
  refine k_727 dX13_addProduct_155 rfl (Nat.le_of_ble_eq_true rfl) (Nat.le_of_ble_eq_true rfl) F (fun σ6 F => ?_)
  refine s_aln dX13_addProduct_158 rfl ?_
  refine s_iln dX13_addProduct_159 rfl ?_
  refine s_ic dX13_addProduct_160 ki_4 ?_
  refine s_ic dX13_addProduct_161 ki_5 ?_
  refine k_730 dX13_addProduct_162 rfl (Nat.le_of_ble_eq_true rfl) (Nat.le_of_ble_eq_true rfl) F (fun σ8 F => ?_)
  exact s_rv dX13_addProduct_165 rfl F

def w_addProduct_0 (C : rCx) (Q : rS → Prop)  (a1 : Int32) (a2 : Int32) (a3 : Int32) (a4 : Int32) (σ : rS) : Prop :=
  inb ((260 : Int32) * a2) 566000 ∧
  ((σ.2.2.1 93 (((260 : Int32) * a2)).toNatClampNeg) = 0 →
    Q σ) ∧
  (¬ ((σ.2.2.1 93 (((260 : Int32) * a2)).toNatClampNeg) = 0) →
    inb ((260 : Int32) * a3) 566000 ∧
    (¬ ((σ.2.2.1 93 (((260 : Int32) * a3)).toNatClampNeg) = 0) →
      cV C 0 m_load [.ref (co C), .int a2, .int (6 : Int32), .int (7 : Int32)] σ (fun σ1 =>
        cV C 0 m_load [.ref (co C), .int a3, .int (11 : Int32), .int (12 : Int32)] σ1 (fun σ3 =>
          cV C 1 m_times [.ref (co C), .int (13 : Int32), .int (6 : Int32), .int (11 : Int32)] σ3 (fun σ5 =>
            cV C 1 m_times [.ref (co C), .int (14 : Int32), .int (7 : Int32), .int (12 : Int32)] σ5 (fun σ7 =>
              cV C 0 m_copy [.ref (co C), .int (6 : Int32), .int (13 : Int32)] σ7 (fun σ9 =>
                cV C 0 m_copy [.ref (co C), .int (7 : Int32), .int (14 : Int32)] σ9 (fun σ11 =>
                  (a4 = (-1 : Int32) →
                    w_addProduct_133 C Q  a1 σ11) ∧
                  (¬ (a4 = (-1 : Int32)) →
                    cV C 0 m_load [.ref (co C), .int a4, .int (11 : Int32), .int (12 : Int32)] σ11 (fun σ13 =>
                      cV C 1 m_times [.ref (co C), .int (13 : Int32), .int (6 : Int32), .int (12 : Int32)] σ13 (fun σ15 =>
                        cV C 1 m_times [.ref (co C), .int (14 : Int32), .int (7 : Int32), .int (11 : Int32)] σ15 (fun σ17 =>
                          cV C 0 m_copy [.ref (co C), .int (6 : Int32), .int (13 : Int32)] σ17 (fun σ19 =>
                            cV C 0 m_copy [.ref (co C), .int (7 : Int32), .int (14 : Int32)] σ19 (fun σ21 =>
                              w_addProduct_133 C Q  a1 σ21))))))))))))) ∧
    ((σ.2.2.1 93 (((260 : Int32) * a3)).toNatClampNeg) = 0 →
      Q σ))
theorem t_addProduct_0 {C : rCx} (hC : cOK C) {Q : rS → Prop}   {a1 : Int32} {a2 : Int32} {a3 : Int32} {a4 : Int32} {σ : rS} (F : w_addProduct_0 C Q  a1 a2 a3 a4 σ) : wG C 5 m_addProduct 0 [some (.ref (co C)), some (.int a1), some (.int a2), some (.int a3), some (.int a4)] [] σ (qV Q) := by
  unfold w_addProduct_0 at F
  refine s_aln dX13_addProduct_0 rfl ?_
  refine gf_192 dX13_addProduct_1 rfl ?_
  refine s_si dX13_addProduct_4 ks_260 ?_
  refine s_iln dX13_addProduct_7 rfl ?_
  refine s_imul dX13_addProduct_8 ?_
  refine s_ald hC dX13_addProduct_9 rt_93 F.1 ?_
  replace F := F.2
  refine s_i (t := 26) ((σ.2.2.1 93 (((260 : Int32) * a2)).toNatClampNeg) = 0) dX13_addProduct_10 rfl rfl (fun hc => ?_) (fun hc => ?_)
  · replace F := F.1 hc
    exact s_rv dX13_addProduct_26 rfl F
  · replace F := F.2 hc
    refine s_aln dX13_addProduct_13 rfl ?_
    refine gf_192 dX13_addProduct_14 rfl ?_
    refine s_si dX13_addProduct_17 ks_260 ?_
    refine s_iln dX13_addProduct_20 rfl ?_
    refine s_imul dX13_addProduct_21 ?_
    refine s_ald hC dX13_addProduct_22 rt_93 F.1 ?_
    replace F := F.2
    refine s_in (t := 27) ((σ.2.2.1 93 (((260 : Int32) * a3)).toNatClampNeg) = 0) dX13_addProduct_23 rfl rfl (fun hc => ?_) (fun hc => ?_)
    · replace F := F.1 hc
      refine s_aln dX13_addProduct_27 rfl ?_
      refine s_iln dX13_addProduct_28 rfl ?_
      refine s_bi dX13_addProduct_29 kb_6 ?_
      refine s_bi dX13_addProduct_31 kb_7 ?_
      refine k_724 dX13_addProduct_33 rfl (Nat.le_of_ble_eq_true rfl) (Nat.le_of_ble_eq_true rfl) F (fun σ1 F => ?_)
      refine s_aln dX13_addProduct_36 rfl ?_
      refine s_iln dX13_addProduct_37 rfl ?_
      refine s_bi dX13_addProduct_38 kb_11 ?_
      refine s_bi dX13_addProduct_40 kb_12 ?_
      refine k_724 dX13_addProduct_42 rfl (Nat.le_of_ble_eq_true rfl) (Nat.le_of_ble_eq_true rfl) F (fun σ3 F => ?_)
      refine s_aln dX13_addProduct_45 rfl ?_
      refine s_bi dX13_addProduct_46 kb_13 ?_
      refine s_bi dX13_addProduct_48 kb_6 ?_
      refine s_bi dX13_addProduct_50 kb_11 ?_
      refine k_712 dX13_addProduct_52 rfl (Nat.le_of_ble_eq_true rfl) (Nat.le_of_ble_eq_true rfl) F (fun σ5 F => ?_)
      refine s_aln dX13_addProduct_55 rfl ?_
      refine s_bi dX13_addProduct_56 kb_14 ?_
      refine s_bi dX13_addProduct_58 kb_7 ?_
      refine s_bi dX13_addProduct_60 kb_12 ?_
      refine k_712 dX13_addProduct_62 rfl (Nat.le_of_ble_eq_true rfl) (Nat.le_of_ble_eq_true rfl) F (fun σ7 F => ?_)
      refine s_aln dX13_addProduct_65 rfl ?_
      refine s_bi dX13_addProduct_66 kb_6 ?_
      refine s_bi dX13_addProduct_68 kb_13 ?_
      refine k_703 dX13_addProduct_70 rfl (Nat.le_of_ble_eq_true rfl) (Nat.le_of_ble_eq_true rfl) F (fun σ9 F => ?_)
      refine s_aln dX13_addProduct_73 rfl ?_
      refine s_bi dX13_addProduct_74 kb_7 ?_
      refine s_bi dX13_addProduct_76 kb_14 ?_
      refine k_703 dX13_addProduct_78 rfl (Nat.le_of_ble_eq_true rfl) (Nat.le_of_ble_eq_true rfl) F (fun σ11 F => ?_)
      refine s_il dX13_addProduct_81 rfl ?_
      refine s_ic dX13_addProduct_83 ki_m1 ?_
      refine s_ii (t := 133) (a4 = (-1 : Int32)) dX13_addProduct_84 rfl rfl (fun hc => ?_) (fun hc => ?_)
      · replace F := F.1 hc
        exact s_k (t_addProduct_133 hC  F) ⟨rfl, rfl, trivial⟩
      · replace F := F.2 hc
        refine s_aln dX13_addProduct_87 rfl ?_
        refine s_il dX13_addProduct_88 rfl ?_
        refine s_bi dX13_addProduct_90 kb_11 ?_
        refine s_bi dX13_addProduct_92 kb_12 ?_
        refine k_724 dX13_addProduct_94 rfl (Nat.le_of_ble_eq_true rfl) (Nat.le_of_ble_eq_true rfl) F (fun σ13 F => ?_)
        refine s_aln dX13_addProduct_97 rfl ?_
        refine s_bi dX13_addProduct_98 kb_13 ?_
        refine s_bi dX13_addProduct_100 kb_6 ?_
        refine s_bi dX13_addProduct_102 kb_12 ?_
        refine k_712 dX13_addProduct_104 rfl (Nat.le_of_ble_eq_true rfl) (Nat.le_of_ble_eq_true rfl) F (fun σ15 F => ?_)
        refine s_aln dX13_addProduct_107 rfl ?_
        refine s_bi dX13_addProduct_108 kb_14 ?_
        refine s_bi dX13_addProduct_110 kb_7 ?_
        refine s_bi dX13_addProduct_112 kb_11 ?_
        refine k_712 dX13_addProduct_114 rfl (Nat.le_of_ble_eq_true rfl) (Nat.le_of_ble_eq_true rfl) F (fun σ17 F => ?_)
        refine s_aln dX13_addProduct_117 rfl ?_
        refine s_bi dX13_addProduct_118 kb_6 ?_
        refine s_bi dX13_addProduct_120 kb_13 ?_
        refine k_703 dX13_addProduct_122 rfl (Nat.le_of_ble_eq_true rfl) (Nat.le_of_ble_eq_true rfl) F (fun σ19 F => ?_)
        refine s_aln dX13_addProduct_125 rfl ?_
        refine s_bi dX13_addProduct_126 kb_7 ?_
        refine s_bi dX13_addProduct_128 kb_14 ?_
        refine k_703 dX13_addProduct_130 rfl (Nat.le_of_ble_eq_true rfl) (Nat.le_of_ble_eq_true rfl) F (fun σ21 F => ?_)
        exact s_k (t_addProduct_133 hC  F) ⟨rfl, rfl, trivial⟩
    · replace F := F.2 hc
      exact s_rv dX13_addProduct_26 rfl F

theorem m_addProduct_run {C : rCx} (hC : cOK C) {Q : rS → Prop} {a1 : Int32} {a2 : Int32} {a3 : Int32} {a4 : Int32} {σ : rS} (F : w_addProduct_0 C Q a1 a2 a3 a4 σ) : cV C 5 m_addProduct [.ref (co C), .int a1, .int a2, .int a3, .int a4] σ Q := m_V (m_ent _ 0) (t_addProduct_0 hC F)

