/-! methods of the reference: apply, settle, cellOf, behind, expression, arguments, tellDraw -/
theorem dX13_apply_0 : decode cX13_apply 0 = .ok (.aload_n 0, 1) := by decide +kernel
theorem dX13_apply_1 : decode cX13_apply 1 = .ok (.getfield 107, 3) := by decide +kernel
theorem dX13_apply_4 : decode cX13_apply 4 = .ok (.aload_n 0, 1) := by decide +kernel
theorem dX13_apply_5 : decode cX13_apply 5 = .ok (.getfield 425, 3) := by decide +kernel
theorem dX13_apply_8 : decode cX13_apply 8 = .ok (.iconst 1, 1) := by decide +kernel
theorem dX13_apply_9 : decode cX13_apply 9 = .ok (.isub, 1) := by decide +kernel
theorem dX13_apply_10 : decode cX13_apply 10 = .ok (.iaload, 1) := by decide +kernel
theorem dX13_apply_11 : decode cX13_apply 11 = .ok (.istore_n 1, 1) := by decide +kernel
theorem dX13_apply_12 : decode cX13_apply 12 = .ok (.aload_n 0, 1) := by decide +kernel
theorem dX13_apply_13 : decode cX13_apply 13 = .ok (.dup, 1) := by decide +kernel
theorem dX13_apply_14 : decode cX13_apply 14 = .ok (.getfield 425, 3) := by decide +kernel
theorem dX13_apply_17 : decode cX13_apply 17 = .ok (.iconst 1, 1) := by decide +kernel
theorem dX13_apply_18 : decode cX13_apply 18 = .ok (.isub, 1) := by decide +kernel
theorem dX13_apply_19 : decode cX13_apply 19 = .ok (.putfield 425, 3) := by decide +kernel
theorem dX13_apply_22 : decode cX13_apply 22 = .ok (.aload_n 0, 1) := by decide +kernel
theorem dX13_apply_23 : decode cX13_apply 23 = .ok (.dup, 1) := by decide +kernel
theorem dX13_apply_24 : decode cX13_apply 24 = .ok (.getfield 435, 3) := by decide +kernel
theorem dX13_apply_27 : decode cX13_apply 27 = .ok (.iconst 1, 1) := by decide +kernel
theorem dX13_apply_28 : decode cX13_apply 28 = .ok (.isub, 1) := by decide +kernel
theorem dX13_apply_29 : decode cX13_apply 29 = .ok (.putfield 435, 3) := by decide +kernel
theorem dX13_apply_32 : decode cX13_apply 32 = .ok (.aload_n 0, 1) := by decide +kernel
theorem dX13_apply_33 : decode cX13_apply 33 = .ok (.getfield 113, 3) := by decide +kernel
theorem dX13_apply_36 : decode cX13_apply 36 = .ok (.aload_n 0, 1) := by decide +kernel
theorem dX13_apply_37 : decode cX13_apply 37 = .ok (.getfield 435, 3) := by decide +kernel
theorem dX13_apply_40 : decode cX13_apply 40 = .ok (.iconst 1, 1) := by decide +kernel
theorem dX13_apply_41 : decode cX13_apply 41 = .ok (.isub, 1) := by decide +kernel
theorem dX13_apply_42 : decode cX13_apply 42 = .ok (.iaload, 1) := by decide +kernel
theorem dX13_apply_43 : decode cX13_apply 43 = .ok (.istore_n 2, 1) := by decide +kernel
theorem dX13_apply_44 : decode cX13_apply 44 = .ok (.aload_n 0, 1) := by decide +kernel
theorem dX13_apply_45 : decode cX13_apply 45 = .ok (.getfield 113, 3) := by decide +kernel
theorem dX13_apply_48 : decode cX13_apply 48 = .ok (.aload_n 0, 1) := by decide +kernel
theorem dX13_apply_49 : decode cX13_apply 49 = .ok (.getfield 435, 3) := by decide +kernel
theorem dX13_apply_52 : decode cX13_apply 52 = .ok (.iaload, 1) := by decide +kernel
theorem dX13_apply_53 : decode cX13_apply 53 = .ok (.istore_n 3, 1) := by decide +kernel
theorem dX13_apply_54 : decode cX13_apply 54 = .ok (.aload_n 0, 1) := by decide +kernel
theorem dX13_apply_55 : decode cX13_apply 55 = .ok (.getfield 438, 3) := by decide +kernel
theorem dX13_apply_58 : decode cX13_apply 58 = .ok (.ifCond .ne 4, 3) := by decide +kernel
theorem dX13_apply_61 : decode cX13_apply 61 = .ok (.return_, 1) := by decide +kernel
theorem dX13_apply_62 : decode cX13_apply 62 = .ok (.iload_n 1, 1) := by decide +kernel
theorem dX13_apply_63 : decode cX13_apply 63 = .ok (.bipush 47, 2) := by decide +kernel
theorem dX13_apply_65 : decode cX13_apply 65 = .ok (.if_icmp .eq 9, 3) := by decide +kernel
theorem dX13_apply_68 : decode cX13_apply 68 = .ok (.iload_n 1, 1) := by decide +kernel
theorem dX13_apply_69 : decode cX13_apply 69 = .ok (.bipush 37, 2) := by decide +kernel
theorem dX13_apply_71 : decode cX13_apply 71 = .ok (.if_icmp .ne 13, 3) := by decide +kernel
theorem dX13_apply_74 : decode cX13_apply 74 = .ok (.iload_n 3, 1) := by decide +kernel
theorem dX13_apply_75 : decode cX13_apply 75 = .ok (.ifCond .ne 9, 3) := by decide +kernel
theorem dX13_apply_78 : decode cX13_apply 78 = .ok (.aload_n 0, 1) := by decide +kernel
theorem dX13_apply_79 : decode cX13_apply 79 = .ok (.iconst 2, 1) := by decide +kernel
theorem dX13_apply_80 : decode cX13_apply 80 = .ok (.putfield 428, 3) := by decide +kernel
theorem dX13_apply_83 : decode cX13_apply 83 = .ok (.return_, 1) := by decide +kernel
theorem dX13_apply_84 : decode cX13_apply 84 = .ok (.iload_n 1, 1) := by decide +kernel
theorem dX13_apply_85 : decode cX13_apply 85 = .ok (.invokestatic 441, 3) := by decide +kernel
theorem dX13_apply_88 : decode cX13_apply 88 = .ok (.iconst 3, 1) := by decide +kernel
theorem dX13_apply_89 : decode cX13_apply 89 = .ok (.if_icmp .ne 12, 3) := by decide +kernel
theorem dX13_apply_92 : decode cX13_apply 92 = .ok (.iload_n 1, 1) := by decide +kernel
theorem dX13_apply_93 : decode cX13_apply 93 = .ok (.iload_n 2, 1) := by decide +kernel
theorem dX13_apply_94 : decode cX13_apply 94 = .ok (.iload_n 3, 1) := by decide +kernel
theorem dX13_apply_95 : decode cX13_apply 95 = .ok (.invokestatic 444, 3) := by decide +kernel
theorem dX13_apply_98 : decode cX13_apply 98 = .ok (.goto 104, 3) := by decide +kernel
theorem dX13_apply_101 : decode cX13_apply 101 = .ok (.iload_n 1, 1) := by decide +kernel
theorem dX13_apply_102 : decode cX13_apply 102 = .ok (.bipush 124, 2) := by decide +kernel
theorem dX13_apply_104 : decode cX13_apply 104 = .ok (.if_icmp .ne 22, 3) := by decide +kernel
theorem dX13_apply_107 : decode cX13_apply 107 = .ok (.iload_n 2, 1) := by decide +kernel
theorem dX13_apply_108 : decode cX13_apply 108 = .ok (.ifCond .ne 7, 3) := by decide +kernel
theorem dX13_apply_111 : decode cX13_apply 111 = .ok (.iload_n 3, 1) := by decide +kernel
theorem dX13_apply_112 : decode cX13_apply 112 = .ok (.ifCond .eq 7, 3) := by decide +kernel
theorem dX13_apply_115 : decode cX13_apply 115 = .ok (.iconst 1, 1) := by decide +kernel
theorem dX13_apply_116 : decode cX13_apply 116 = .ok (.goto 4, 3) := by decide +kernel
theorem dX13_apply_119 : decode cX13_apply 119 = .ok (.iconst 0, 1) := by decide +kernel
theorem dX13_apply_120 : decode cX13_apply 120 = .ok (.invokestatic 431, 3) := by decide +kernel
theorem dX13_apply_123 : decode cX13_apply 123 = .ok (.goto 79, 3) := by decide +kernel
theorem dX13_apply_126 : decode cX13_apply 126 = .ok (.iload_n 1, 1) := by decide +kernel
theorem dX13_apply_127 : decode cX13_apply 127 = .ok (.bipush 38, 2) := by decide +kernel
theorem dX13_apply_129 : decode cX13_apply 129 = .ok (.if_icmp .ne 22, 3) := by decide +kernel
theorem dX13_apply_132 : decode cX13_apply 132 = .ok (.iload_n 2, 1) := by decide +kernel
theorem dX13_apply_133 : decode cX13_apply 133 = .ok (.ifCond .eq 11, 3) := by decide +kernel
theorem dX13_apply_136 : decode cX13_apply 136 = .ok (.iload_n 3, 1) := by decide +kernel
theorem dX13_apply_137 : decode cX13_apply 137 = .ok (.ifCond .eq 7, 3) := by decide +kernel
theorem dX13_apply_140 : decode cX13_apply 140 = .ok (.iconst 1, 1) := by decide +kernel
theorem dX13_apply_141 : decode cX13_apply 141 = .ok (.goto 4, 3) := by decide +kernel
theorem dX13_apply_144 : decode cX13_apply 144 = .ok (.iconst 0, 1) := by decide +kernel
theorem dX13_apply_145 : decode cX13_apply 145 = .ok (.invokestatic 431, 3) := by decide +kernel
theorem dX13_apply_148 : decode cX13_apply 148 = .ok (.goto 54, 3) := by decide +kernel
theorem dX13_apply_151 : decode cX13_apply 151 = .ok (.iload_n 1, 1) := by decide +kernel
theorem dX13_apply_152 : decode cX13_apply 152 = .ok (.bipush 43, 2) := by decide +kernel
theorem dX13_apply_154 : decode cX13_apply 154 = .ok (.if_icmp .ne 9, 3) := by decide +kernel
theorem dX13_apply_157 : decode cX13_apply 157 = .ok (.iload_n 2, 1) := by decide +kernel
theorem dX13_apply_158 : decode cX13_apply 158 = .ok (.iload_n 3, 1) := by decide +kernel
theorem dX13_apply_159 : decode cX13_apply 159 = .ok (.iadd, 1) := by decide +kernel
theorem dX13_apply_160 : decode cX13_apply 160 = .ok (.goto 42, 3) := by decide +kernel
theorem dX13_apply_163 : decode cX13_apply 163 = .ok (.iload_n 1, 1) := by decide +kernel
theorem dX13_apply_164 : decode cX13_apply 164 = .ok (.bipush 45, 2) := by decide +kernel
theorem dX13_apply_166 : decode cX13_apply 166 = .ok (.if_icmp .ne 9, 3) := by decide +kernel
theorem dX13_apply_169 : decode cX13_apply 169 = .ok (.iload_n 2, 1) := by decide +kernel
theorem dX13_apply_170 : decode cX13_apply 170 = .ok (.iload_n 3, 1) := by decide +kernel
theorem dX13_apply_171 : decode cX13_apply 171 = .ok (.isub, 1) := by decide +kernel
theorem dX13_apply_172 : decode cX13_apply 172 = .ok (.goto 30, 3) := by decide +kernel
theorem dX13_apply_175 : decode cX13_apply 175 = .ok (.iload_n 1, 1) := by decide +kernel
theorem dX13_apply_176 : decode cX13_apply 176 = .ok (.bipush 42, 2) := by decide +kernel
theorem dX13_apply_178 : decode cX13_apply 178 = .ok (.if_icmp .ne 9, 3) := by decide +kernel
theorem dX13_apply_181 : decode cX13_apply 181 = .ok (.iload_n 2, 1) := by decide +kernel
theorem dX13_apply_182 : decode cX13_apply 182 = .ok (.iload_n 3, 1) := by decide +kernel
theorem dX13_apply_183 : decode cX13_apply 183 = .ok (.imul, 1) := by decide +kernel
theorem dX13_apply_184 : decode cX13_apply 184 = .ok (.goto 18, 3) := by decide +kernel
theorem dX13_apply_187 : decode cX13_apply 187 = .ok (.iload_n 1, 1) := by decide +kernel
theorem dX13_apply_188 : decode cX13_apply 188 = .ok (.bipush 47, 2) := by decide +kernel
theorem dX13_apply_190 : decode cX13_apply 190 = .ok (.if_icmp .ne 9, 3) := by decide +kernel
theorem dX13_apply_193 : decode cX13_apply 193 = .ok (.iload_n 2, 1) := by decide +kernel
theorem dX13_apply_194 : decode cX13_apply 194 = .ok (.iload_n 3, 1) := by decide +kernel
theorem dX13_apply_195 : decode cX13_apply 195 = .ok (.idiv, 1) := by decide +kernel
theorem dX13_apply_196 : decode cX13_apply 196 = .ok (.goto 6, 3) := by decide +kernel
theorem dX13_apply_199 : decode cX13_apply 199 = .ok (.iload_n 2, 1) := by decide +kernel
theorem dX13_apply_200 : decode cX13_apply 200 = .ok (.iload_n 3, 1) := by decide +kernel
theorem dX13_apply_201 : decode cX13_apply 201 = .ok (.irem, 1) := by decide +kernel
theorem dX13_apply_202 : decode cX13_apply 202 = .ok (.istore 4, 2) := by decide +kernel
theorem dX13_apply_204 : decode cX13_apply 204 = .ok (.aload_n 0, 1) := by decide +kernel
theorem dX13_apply_205 : decode cX13_apply 205 = .ok (.getfield 113, 3) := by decide +kernel
theorem dX13_apply_208 : decode cX13_apply 208 = .ok (.aload_n 0, 1) := by decide +kernel
theorem dX13_apply_209 : decode cX13_apply 209 = .ok (.getfield 435, 3) := by decide +kernel
theorem dX13_apply_212 : decode cX13_apply 212 = .ok (.iconst 1, 1) := by decide +kernel
theorem dX13_apply_213 : decode cX13_apply 213 = .ok (.isub, 1) := by decide +kernel
theorem dX13_apply_214 : decode cX13_apply 214 = .ok (.iload 4, 2) := by decide +kernel
theorem dX13_apply_216 : decode cX13_apply 216 = .ok (.iastore, 1) := by decide +kernel
theorem dX13_apply_217 : decode cX13_apply 217 = .ok (.return_, 1) := by decide +kernel
def w_apply_202 (C : rCx) (Q : rS → Prop)  (s0 : Int32) (σ : rS) : Prop :=
  inb ((σ.1 49) - (1 : Int32)) 66000 ∧
  ∀ σ1, σ1 = riU σ 52 (((σ.1 49) - (1 : Int32))).toNatClampNeg s0 →
  Q σ1
theorem t_apply_202 {C : rCx} (hC : cOK C) {Q : rS → Prop}   {s0 : Int32} {σ : rS} (F : w_apply_202 C Q  s0 σ) : wG C 2 m_apply 202 [some (.ref (co C)), none, none, none, none] [.int s0] σ (qV Q) := by
  unfold w_apply_202 at F
  refine s_is dX13_apply_202 (Nat.le_of_ble_eq_true rfl) rfl ?_
  refine s_aln dX13_apply_204 rfl ?_
  refine gf_113 dX13_apply_205 rfl ?_
  refine s_aln dX13_apply_208 rfl ?_
  refine gf_435 dX13_apply_209 rfl ?_
  refine s_ic dX13_apply_212 ki_1 ?_
  refine s_isub dX13_apply_213 ?_
  refine s_il dX13_apply_214 rfl ?_
  refine s_astb hC dX13_apply_216 rt_52 F.1 (fun σ1 eσ1 => ?_)
  replace F := F.2 σ1 eσ1
  exact s_rv dX13_apply_217 rfl F

def w_apply_84 (C : rCx) (Q : rS → Prop)  (a1 : Int32) (a2 : Int32) (a3 : Int32) (σ : rS) : Prop :=
  cI C 0 m_rank [.int a1] σ (fun r2 σ1 =>
    (¬ (r2 = (3 : Int32)) →
      (¬ (a1 = (124 : Int32)) →
        (¬ (a1 = (38 : Int32)) →
          (¬ (a1 = (43 : Int32)) →
            (¬ (a1 = (45 : Int32)) →
              (¬ (a1 = (42 : Int32)) →
                (¬ (a1 = (47 : Int32)) →
                  ¬ a3 = 0 ∧
                  w_apply_202 C Q  (a2 - a2 / a3 * a3) σ1) ∧
                (a1 = (47 : Int32) →
                  ¬ a3 = 0 ∧
                  w_apply_202 C Q  (a2 / a3) σ1)) ∧
              (a1 = (42 : Int32) →
                w_apply_202 C Q  (a2 * a3) σ1)) ∧
            (a1 = (45 : Int32) →
              w_apply_202 C Q  (a2 - a3) σ1)) ∧
          (a1 = (43 : Int32) →
            w_apply_202 C Q  (a2 + a3) σ1)) ∧
        (a1 = (38 : Int32) →
          (a2 = 0 →
            cI C 0 m_truth [.int (0 : Int32)] σ1 (fun r4 σ3 =>
              w_apply_202 C Q  r4 σ3)) ∧
          (¬ (a2 = 0) →
            (a3 = 0 →
              cI C 0 m_truth [.int (0 : Int32)] σ1 (fun r6 σ5 =>
                w_apply_202 C Q  r6 σ5)) ∧
            (¬ (a3 = 0) →
              cI C 0 m_truth [.int (1 : Int32)] σ1 (fun r8 σ7 =>
                w_apply_202 C Q  r8 σ7))))) ∧
      (a1 = (124 : Int32) →
        (¬ (a2 = 0) →
          cI C 0 m_truth [.int (1 : Int32)] σ1 (fun r10 σ9 =>
            w_apply_202 C Q  r10 σ9)) ∧
        (a2 = 0 →
          (a3 = 0 →
            cI C 0 m_truth [.int (0 : Int32)] σ1 (fun r12 σ11 =>
              w_apply_202 C Q  r12 σ11)) ∧
          (¬ (a3 = 0) →
            cI C 0 m_truth [.int (1 : Int32)] σ1 (fun r14 σ13 =>
              w_apply_202 C Q  r14 σ13))))) ∧
    (r2 = (3 : Int32) →
      cI C 1 m_compared [.int a1, .int a2, .int a3] σ1 (fun r16 σ15 =>
        w_apply_202 C Q  r16 σ15)))
theorem t_apply_84 {C : rCx} (hC : cOK C) {Q : rS → Prop}   {a1 : Int32} {a2 : Int32} {a3 : Int32} {σ : rS} (F : w_apply_84 C Q  a1 a2 a3 σ) : wG C 2 m_apply 84 [some (.ref (co C)), some (.int a1), some (.int a2), some (.int a3), none] [] σ (qV Q) := by
  unfold w_apply_84 at F
  refine s_iln dX13_apply_84 rfl ?_
  refine k_441 dX13_apply_85 rfl (Nat.le_of_ble_eq_true rfl) (Nat.le_of_ble_eq_true rfl) F (fun r2 σ1 F => ?_)
  refine s_ic dX13_apply_88 ki_3 ?_
  refine s_iin (t := 101) (r2 = (3 : Int32)) dX13_apply_89 rfl rfl (fun hc => ?_) (fun hc => ?_)
  · replace F := F.1 hc
    refine s_iln dX13_apply_101 rfl ?_
    refine s_bi dX13_apply_102 kb_124 ?_
    refine s_iin (t := 126) (a1 = (124 : Int32)) dX13_apply_104 rfl rfl (fun hc => ?_) (fun hc => ?_)
    · replace F := F.1 hc
      refine s_iln dX13_apply_126 rfl ?_
      refine s_bi dX13_apply_127 kb_38 ?_
      refine s_iin (t := 151) (a1 = (38 : Int32)) dX13_apply_129 rfl rfl (fun hc => ?_) (fun hc => ?_)
      · replace F := F.1 hc
        refine s_iln dX13_apply_151 rfl ?_
        refine s_bi dX13_apply_152 kb_43 ?_
        refine s_iin (t := 163) (a1 = (43 : Int32)) dX13_apply_154 rfl rfl (fun hc => ?_) (fun hc => ?_)
        · replace F := F.1 hc
          refine s_iln dX13_apply_163 rfl ?_
          refine s_bi dX13_apply_164 kb_45 ?_
          refine s_iin (t := 175) (a1 = (45 : Int32)) dX13_apply_166 rfl rfl (fun hc => ?_) (fun hc => ?_)
          · replace F := F.1 hc
            refine s_iln dX13_apply_175 rfl ?_
            refine s_bi dX13_apply_176 kb_42 ?_
            refine s_iin (t := 187) (a1 = (42 : Int32)) dX13_apply_178 rfl rfl (fun hc => ?_) (fun hc => ?_)
            · replace F := F.1 hc
              refine s_iln dX13_apply_187 rfl ?_
              refine s_bi dX13_apply_188 kb_47 ?_
              refine s_iin (t := 199) (a1 = (47 : Int32)) dX13_apply_190 rfl rfl (fun hc => ?_) (fun hc => ?_)
              · replace F := F.1 hc
                refine s_iln dX13_apply_199 rfl ?_
                refine s_iln dX13_apply_200 rfl ?_
                refine s_rem dX13_apply_201 F.1 ?_
                replace F := F.2
                exact s_k (t_apply_202 hC  F) ⟨rfl, trivial⟩
              · replace F := F.2 hc
                refine s_iln dX13_apply_193 rfl ?_
                refine s_iln dX13_apply_194 rfl ?_
                refine s_div dX13_apply_195 F.1 ?_
                replace F := F.2
                refine s_goto (t := 202) dX13_apply_196 rfl ?_
                exact s_k (t_apply_202 hC  F) ⟨rfl, trivial⟩
            · replace F := F.2 hc
              refine s_iln dX13_apply_181 rfl ?_
              refine s_iln dX13_apply_182 rfl ?_
              refine s_imul dX13_apply_183 ?_
              refine s_goto (t := 202) dX13_apply_184 rfl ?_
              exact s_k (t_apply_202 hC  F) ⟨rfl, trivial⟩
          · replace F := F.2 hc
            refine s_iln dX13_apply_169 rfl ?_
            refine s_iln dX13_apply_170 rfl ?_
            refine s_isub dX13_apply_171 ?_
            refine s_goto (t := 202) dX13_apply_172 rfl ?_
            exact s_k (t_apply_202 hC  F) ⟨rfl, trivial⟩
        · replace F := F.2 hc
          refine s_iln dX13_apply_157 rfl ?_
          refine s_iln dX13_apply_158 rfl ?_
          refine s_iadd dX13_apply_159 ?_
          refine s_goto (t := 202) dX13_apply_160 rfl ?_
          exact s_k (t_apply_202 hC  F) ⟨rfl, trivial⟩
      · replace F := F.2 hc
        refine s_iln dX13_apply_132 rfl ?_
        refine s_i (t := 144) (a2 = 0) dX13_apply_133 rfl rfl (fun hc => ?_) (fun hc => ?_)
        · replace F := F.1 hc
          refine s_ic dX13_apply_144 ki_0 ?_
          refine k_431 dX13_apply_145 rfl (Nat.le_of_ble_eq_true rfl) (Nat.le_of_ble_eq_true rfl) F (fun r4 σ3 F => ?_)
          refine s_goto (t := 202) dX13_apply_148 rfl ?_
          exact s_k (t_apply_202 hC  F) ⟨rfl, trivial⟩
        · replace F := F.2 hc
          refine s_iln dX13_apply_136 rfl ?_
          refine s_i (t := 144) (a3 = 0) dX13_apply_137 rfl rfl (fun hc => ?_) (fun hc => ?_)
          · replace F := F.1 hc
            refine s_ic dX13_apply_144 ki_0 ?_
            refine k_431 dX13_apply_145 rfl (Nat.le_of_ble_eq_true rfl) (Nat.le_of_ble_eq_true rfl) F (fun r6 σ5 F => ?_)
            refine s_goto (t := 202) dX13_apply_148 rfl ?_
            exact s_k (t_apply_202 hC  F) ⟨rfl, trivial⟩
          · replace F := F.2 hc
            refine s_ic dX13_apply_140 ki_1 ?_
            refine s_goto (t := 145) dX13_apply_141 rfl ?_
            refine k_431 dX13_apply_145 rfl (Nat.le_of_ble_eq_true rfl) (Nat.le_of_ble_eq_true rfl) F (fun r8 σ7 F => ?_)
            refine s_goto (t := 202) dX13_apply_148 rfl ?_
            exact s_k (t_apply_202 hC  F) ⟨rfl, trivial⟩
    · replace F := F.2 hc
      refine s_iln dX13_apply_107 rfl ?_
      refine s_in (t := 115) (a2 = 0) dX13_apply_108 rfl rfl (fun hc => ?_) (fun hc => ?_)
      · replace F := F.1 hc
        refine s_ic dX13_apply_115 ki_1 ?_
        refine s_goto (t := 120) dX13_apply_116 rfl ?_
        refine k_431 dX13_apply_120 rfl (Nat.le_of_ble_eq_true rfl) (Nat.le_of_ble_eq_true rfl) F (fun r10 σ9 F => ?_)
        refine s_goto (t := 202) dX13_apply_123 rfl ?_
        exact s_k (t_apply_202 hC  F) ⟨rfl, trivial⟩
      · replace F := F.2 hc
        refine s_iln dX13_apply_111 rfl ?_
        refine s_i (t := 119) (a3 = 0) dX13_apply_112 rfl rfl (fun hc => ?_) (fun hc => ?_)
        · replace F := F.1 hc
          refine s_ic dX13_apply_119 ki_0 ?_
          refine k_431 dX13_apply_120 rfl (Nat.le_of_ble_eq_true rfl) (Nat.le_of_ble_eq_true rfl) F (fun r12 σ11 F => ?_)
          refine s_goto (t := 202) dX13_apply_123 rfl ?_
          exact s_k (t_apply_202 hC  F) ⟨rfl, trivial⟩
        · replace F := F.2 hc
          refine s_ic dX13_apply_115 ki_1 ?_
          refine s_goto (t := 120) dX13_apply_116 rfl ?_
          refine k_431 dX13_apply_120 rfl (Nat.le_of_ble_eq_true rfl) (Nat.le_of_ble_eq_true rfl) F (fun r14 σ13 F => ?_)
          refine s_goto (t := 202) dX13_apply_123 rfl ?_
          exact s_k (t_apply_202 hC  F) ⟨rfl, trivial⟩
  · replace F := F.2 hc
    refine s_iln dX13_apply_92 rfl ?_
    refine s_iln dX13_apply_93 rfl ?_
    refine s_iln dX13_apply_94 rfl ?_
    refine k_444 dX13_apply_95 rfl (Nat.le_of_ble_eq_true rfl) (Nat.le_of_ble_eq_true rfl) F (fun r16 σ15 F => ?_)
    refine s_goto (t := 202) dX13_apply_98 rfl ?_
    exact s_k (t_apply_202 hC  F) ⟨rfl, trivial⟩

def w_apply_74 (C : rCx) (Q : rS → Prop)  (a1 : Int32) (a2 : Int32) (a3 : Int32) (σ : rS) : Prop :=
  (¬ (a3 = 0) →
    w_apply_84 C Q  a1 a2 a3 σ) ∧
  (a3 = 0 →
    ∀ σ1, σ1 = siU σ 47 (2 : Int32) →
    Q σ1)
theorem t_apply_74 {C : rCx} (hC : cOK C) {Q : rS → Prop}   {a1 : Int32} {a2 : Int32} {a3 : Int32} {σ : rS} (F : w_apply_74 C Q  a1 a2 a3 σ) : wG C 2 m_apply 74 [some (.ref (co C)), some (.int a1), some (.int a2), some (.int a3), none] [] σ (qV Q) := by
  unfold w_apply_74 at F
  refine s_iln dX13_apply_74 rfl ?_
  refine s_in (t := 84) (a3 = 0) dX13_apply_75 rfl rfl (fun hc => ?_) (fun hc => ?_)
  · replace F := F.1 hc
    exact s_k (t_apply_84 hC  F) ⟨rfl, rfl, rfl, rfl, trivial⟩
  · replace F := F.2 hc
    refine s_aln dX13_apply_78 rfl ?_
    refine s_ic dX13_apply_79 ki_2 ?_
    refine pf_428 hC dX13_apply_80 rfl (fun σ1 eσ1 => ?_)
    replace F := F σ1 eσ1
    exact s_rv dX13_apply_83 rfl F

def w_apply_0 (C : rCx) (Q : rS → Prop)   (σ : rS) : Prop :=
  inb ((σ.1 48) - (1 : Int32)) 66000 ∧
  ∀ v1_1 : Int32, v1_1 = (σ.2.2.1 50 (((σ.1 48) - (1 : Int32))).toNatClampNeg) →
  ∀ σ2, σ2 = siU σ 48 ((σ.1 48) - (1 : Int32)) →
  ∀ σ3, σ3 = siU σ2 49 ((σ2.1 49) - (1 : Int32)) →
  inb ((σ3.1 49) - (1 : Int32)) 66000 ∧
  ∀ v2_4 : Int32, v2_4 = (σ3.2.2.1 52 (((σ3.1 49) - (1 : Int32))).toNatClampNeg) →
  inb (σ3.1 49) 66000 ∧
  ∀ v3_5 : Int32, v3_5 = (σ3.2.2.1 52 ((σ3.1 49)).toNatClampNeg) →
  (¬ ((σ3.1 46) = 0) →
    (v1_1 = (47 : Int32) →
      w_apply_74 C Q  v1_1 v2_4 v3_5 σ3) ∧
    (¬ (v1_1 = (47 : Int32)) →
      (¬ (v1_1 = (37 : Int32)) →
        w_apply_84 C Q  v1_1 v2_4 v3_5 σ3) ∧
      (v1_1 = (37 : Int32) →
        w_apply_74 C Q  v1_1 v2_4 v3_5 σ3))) ∧
  ((σ3.1 46) = 0 →
    Q σ3)
theorem t_apply_0 {C : rCx} (hC : cOK C) {Q : rS → Prop}    {σ : rS} (F : w_apply_0 C Q   σ) : wG C 2 m_apply 0 [some (.ref (co C)), none, none, none, none] [] σ (qV Q) := by
  unfold w_apply_0 at F
  refine s_aln dX13_apply_0 rfl ?_
  refine gf_107 dX13_apply_1 rfl ?_
  refine s_aln dX13_apply_4 rfl ?_
  refine gf_425 dX13_apply_5 rfl ?_
  refine s_ic dX13_apply_8 ki_1 ?_
  refine s_isub dX13_apply_9 ?_
  refine s_ald hC dX13_apply_10 rt_50 F.1 ?_
  replace F := F.2
  refine s_isnb dX13_apply_11 (Nat.le_of_ble_eq_true rfl) (fun v1_1 ev1_1 => ?_)
  replace F := F v1_1 ev1_1
  refine s_aln dX13_apply_12 rfl ?_
  refine s_dup dX13_apply_13 rfl ?_
  refine gf_425 dX13_apply_14 rfl ?_
  refine s_ic dX13_apply_17 ki_1 ?_
  refine s_isub dX13_apply_18 ?_
  refine pf_425 hC dX13_apply_19 rfl (fun σ2 eσ2 => ?_)
  replace F := F σ2 eσ2
  refine s_aln dX13_apply_22 rfl ?_
  refine s_dup dX13_apply_23 rfl ?_
  refine gf_435 dX13_apply_24 rfl ?_
  refine s_ic dX13_apply_27 ki_1 ?_
  refine s_isub dX13_apply_28 ?_
  refine pf_435 hC dX13_apply_29 rfl (fun σ3 eσ3 => ?_)
  replace F := F σ3 eσ3
  refine s_aln dX13_apply_32 rfl ?_
  refine gf_113 dX13_apply_33 rfl ?_
  refine s_aln dX13_apply_36 rfl ?_
  refine gf_435 dX13_apply_37 rfl ?_
  refine s_ic dX13_apply_40 ki_1 ?_
  refine s_isub dX13_apply_41 ?_
  refine s_ald hC dX13_apply_42 rt_52 F.1 ?_
  replace F := F.2
  refine s_isnb dX13_apply_43 (Nat.le_of_ble_eq_true rfl) (fun v2_4 ev2_4 => ?_)
  replace F := F v2_4 ev2_4
  refine s_aln dX13_apply_44 rfl ?_
  refine gf_113 dX13_apply_45 rfl ?_
  refine s_aln dX13_apply_48 rfl ?_
  refine gf_435 dX13_apply_49 rfl ?_
  refine s_ald hC dX13_apply_52 rt_52 F.1 ?_
  replace F := F.2
  refine s_isnb dX13_apply_53 (Nat.le_of_ble_eq_true rfl) (fun v3_5 ev3_5 => ?_)
  replace F := F v3_5 ev3_5
  refine s_aln dX13_apply_54 rfl ?_
  refine gf_438 dX13_apply_55 rfl ?_
  refine s_in (t := 62) ((σ3.1 46) = 0) dX13_apply_58 rfl rfl (fun hc => ?_) (fun hc => ?_)
  · replace F := F.1 hc
    refine s_iln dX13_apply_62 rfl ?_
    refine s_bi dX13_apply_63 kb_47 ?_
    refine s_ii (t := 74) (v1_1 = (47 : Int32)) dX13_apply_65 rfl rfl (fun hc => ?_) (fun hc => ?_)
    · replace F := F.1 hc
      exact s_k (t_apply_74 hC  F) ⟨rfl, rfl, rfl, rfl, trivial⟩
    · replace F := F.2 hc
      refine s_iln dX13_apply_68 rfl ?_
      refine s_bi dX13_apply_69 kb_37 ?_
      refine s_iin (t := 84) (v1_1 = (37 : Int32)) dX13_apply_71 rfl rfl (fun hc => ?_) (fun hc => ?_)
      · replace F := F.1 hc
        exact s_k (t_apply_84 hC  F) ⟨rfl, rfl, rfl, rfl, trivial⟩
      · replace F := F.2 hc
        exact s_k (t_apply_74 hC  F) ⟨rfl, rfl, rfl, rfl, trivial⟩
  · replace F := F.2 hc
    exact s_rv dX13_apply_61 rfl F

theorem m_apply_run {C : rCx} (hC : cOK C) {Q : rS → Prop}  {σ : rS} (F : w_apply_0 C Q  σ) : cV C 2 m_apply [.ref (co C)] σ Q := m_V (m_ent _ 4) (t_apply_0 hC F)

theorem dX13_settle_0 : decode cX13_settle 0 = .ok (.aload_n 0, 1) := by decide +kernel
theorem dX13_settle_1 : decode cX13_settle 1 = .ok (.invokevirtual 448, 3) := by decide +kernel
theorem dX13_settle_4 : decode cX13_settle 4 = .ok (.ifCond .eq 31, 3) := by decide +kernel
theorem dX13_settle_7 : decode cX13_settle 7 = .ok (.aload_n 0, 1) := by decide +kernel
theorem dX13_settle_8 : decode cX13_settle 8 = .ok (.invokevirtual 451, 3) := by decide +kernel
theorem dX13_settle_11 : decode cX13_settle 11 = .ok (.invokestatic 441, 3) := by decide +kernel
theorem dX13_settle_14 : decode cX13_settle 14 = .ok (.iload_n 1, 1) := by decide +kernel
theorem dX13_settle_15 : decode cX13_settle 15 = .ok (.if_icmp .lt 20, 3) := by decide +kernel
theorem dX13_settle_18 : decode cX13_settle 18 = .ok (.aload_n 0, 1) := by decide +kernel
theorem dX13_settle_19 : decode cX13_settle 19 = .ok (.invokevirtual 451, 3) := by decide +kernel
theorem dX13_settle_22 : decode cX13_settle 22 = .ok (.invokestatic 441, 3) := by decide +kernel
theorem dX13_settle_25 : decode cX13_settle 25 = .ok (.ifCond .le 10, 3) := by decide +kernel
theorem dX13_settle_28 : decode cX13_settle 28 = .ok (.aload_n 0, 1) := by decide +kernel
theorem dX13_settle_29 : decode cX13_settle 29 = .ok (.invokevirtual 454, 3) := by decide +kernel
theorem dX13_settle_32 : decode cX13_settle 32 = .ok (.goto (-32), 3) := by decide +kernel
theorem dX13_settle_35 : decode cX13_settle 35 = .ok (.return_, 1) := by decide +kernel
def w_settle_0 (C : rCx) (Q : rS → Prop)  (a1 : Int32) (σ : rS) : Prop :=
  ∃ I : Nat → Int32 → rS → Prop, (∃ n, I n a1 σ) ∧ ∀ n a1 σ, I n a1 σ →
    cI C 1 m_goesOn [.ref (co C)] σ (fun r2 σ1 =>
      (r2 = 0 →
        Q σ1) ∧
      (¬ (r2 = 0) →
        cI C 0 m_top [.ref (co C)] σ1 (fun r4 σ3 =>
          cI C 0 m_rank [.int r4] σ3 (fun r6 σ5 =>
            (r6 < a1 →
              Q σ5) ∧
            (¬ (r6 < a1) →
              cI C 0 m_top [.ref (co C)] σ5 (fun r8 σ7 =>
                cI C 0 m_rank [.int r8] σ7 (fun r10 σ9 =>
                  (r10 ≤ 0 →
                    Q σ9) ∧
                  (¬ (r10 ≤ 0) →
                    cV C 2 m_apply [.ref (co C)] σ9 (fun σ11 =>
                      ∃ k < n, I k a1 σ11)))))))))
theorem t_settle_0 {C : rCx} (hC : cOK C) {Q : rS → Prop}   {a1 : Int32} {σ : rS} (F : w_settle_0 C Q  a1 σ) : wG C 3 m_settle 0 [some (.ref (co C)), some (.int a1)] [] σ (qV Q) := by
  obtain ⟨I, ⟨n0, hI0⟩, F0⟩ := F
  have key : ∀ n a1 σ, I n a1 σ → wG C 3 m_settle 0 [some (.ref (co C)), some (.int a1)] [] σ (qV Q) := by
    intro n
    induction n using Nat.strongRecOn with
    | _ n ih =>
      intro a1 σ hI
      have F := F0 n a1 σ hI
      clear hI hI0
      refine s_aln dX13_settle_0 rfl ?_
      refine k_448 dX13_settle_1 rfl (Nat.le_of_ble_eq_true rfl) (Nat.le_of_ble_eq_true rfl) F (fun r2 σ1 F => ?_)
      refine s_i (t := 35) (r2 = 0) dX13_settle_4 rfl rfl (fun hc => ?_) (fun hc => ?_)
      · replace F := F.1 hc
        exact s_rv dX13_settle_35 rfl F
      · replace F := F.2 hc
        refine s_aln dX13_settle_7 rfl ?_
        refine k_451 dX13_settle_8 rfl (Nat.le_of_ble_eq_true rfl) (Nat.le_of_ble_eq_true rfl) F (fun r4 σ3 F => ?_)
        refine k_441 dX13_settle_11 rfl (Nat.le_of_ble_eq_true rfl) (Nat.le_of_ble_eq_true rfl) F (fun r6 σ5 F => ?_)
        refine s_iln dX13_settle_14 rfl ?_
        refine s_ii (t := 35) (r6 < a1) dX13_settle_15 rfl rfl (fun hc => ?_) (fun hc => ?_)
        · replace F := F.1 hc
          exact s_rv dX13_settle_35 rfl F
        · replace F := F.2 hc
          refine s_aln dX13_settle_18 rfl ?_
          refine k_451 dX13_settle_19 rfl (Nat.le_of_ble_eq_true rfl) (Nat.le_of_ble_eq_true rfl) F (fun r8 σ7 F => ?_)
          refine k_441 dX13_settle_22 rfl (Nat.le_of_ble_eq_true rfl) (Nat.le_of_ble_eq_true rfl) F (fun r10 σ9 F => ?_)
          refine s_i (t := 35) (r10 ≤ 0) dX13_settle_25 rfl rfl (fun hc => ?_) (fun hc => ?_)
          · replace F := F.1 hc
            exact s_rv dX13_settle_35 rfl F
          · replace F := F.2 hc
            refine s_aln dX13_settle_28 rfl ?_
            refine k_454 dX13_settle_29 rfl (Nat.le_of_ble_eq_true rfl) (Nat.le_of_ble_eq_true rfl) F (fun σ11 F => ?_)
            refine s_goto (t := 0) dX13_settle_32 rfl ?_
            obtain ⟨k, hk, hI⟩ := F
            exact s_k (ih k hk _ _ hI) ⟨rfl, rfl, trivial⟩
  exact key n0 a1 σ hI0

theorem m_settle_run {C : rCx} (hC : cOK C) {Q : rS → Prop} {a1 : Int32} {σ : rS} (F : w_settle_0 C Q a1 σ) : cV C 3 m_settle [.ref (co C), .int a1] σ Q := m_V (m_ent _ 0) (t_settle_0 hC F)

theorem dX13_cellOf_0 : decode cX13_cellOf 0 = .ok (.iload_n 1, 1) := by decide +kernel
theorem dX13_cellOf_1 : decode cX13_cellOf 1 = .ok (.sipush 200, 3) := by decide +kernel
theorem dX13_cellOf_4 : decode cX13_cellOf 4 = .ok (.isub, 1) := by decide +kernel
theorem dX13_cellOf_5 : decode cX13_cellOf 5 = .ok (.istore_n 3, 1) := by decide +kernel
theorem dX13_cellOf_6 : decode cX13_cellOf 6 = .ok (.iload_n 2, 1) := by decide +kernel
theorem dX13_cellOf_7 : decode cX13_cellOf 7 = .ok (.ifCond .lt 13, 3) := by decide +kernel
theorem dX13_cellOf_10 : decode cX13_cellOf 10 = .ok (.iload_n 2, 1) := by decide +kernel
theorem dX13_cellOf_11 : decode cX13_cellOf 11 = .ok (.aload_n 0, 1) := by decide +kernel
theorem dX13_cellOf_12 : decode cX13_cellOf 12 = .ok (.getfield 45, 3) := by decide +kernel
theorem dX13_cellOf_15 : decode cX13_cellOf 15 = .ok (.iload_n 3, 1) := by decide +kernel
theorem dX13_cellOf_16 : decode cX13_cellOf 16 = .ok (.iaload, 1) := by decide +kernel
theorem dX13_cellOf_17 : decode cX13_cellOf 17 = .ok (.if_icmp .lt 7, 3) := by decide +kernel
theorem dX13_cellOf_20 : decode cX13_cellOf 20 = .ok (.iconst (-1), 1) := by decide +kernel
theorem dX13_cellOf_21 : decode cX13_cellOf 21 = .ok (.goto 16, 3) := by decide +kernel
theorem dX13_cellOf_24 : decode cX13_cellOf 24 = .ok (.aload_n 0, 1) := by decide +kernel
theorem dX13_cellOf_25 : decode cX13_cellOf 25 = .ok (.getfield 333, 3) := by decide +kernel
theorem dX13_cellOf_28 : decode cX13_cellOf 28 = .ok (.aload_n 0, 1) := by decide +kernel
theorem dX13_cellOf_29 : decode cX13_cellOf 29 = .ok (.getfield 48, 3) := by decide +kernel
theorem dX13_cellOf_32 : decode cX13_cellOf 32 = .ok (.iload_n 3, 1) := by decide +kernel
theorem dX13_cellOf_33 : decode cX13_cellOf 33 = .ok (.iaload, 1) := by decide +kernel
theorem dX13_cellOf_34 : decode cX13_cellOf 34 = .ok (.iadd, 1) := by decide +kernel
theorem dX13_cellOf_35 : decode cX13_cellOf 35 = .ok (.iload_n 2, 1) := by decide +kernel
theorem dX13_cellOf_36 : decode cX13_cellOf 36 = .ok (.iadd, 1) := by decide +kernel
theorem dX13_cellOf_37 : decode cX13_cellOf 37 = .ok (.ireturn, 1) := by decide +kernel
def w_cellOf_0 (C : rCx) (Q : Int32 → rS → Prop)  (a1 : Int32) (a2 : Int32) (σ : rS) : Prop :=
  ∀ v3_1 : Int32, v3_1 = (a1 - (200 : Int32)) →
  (a2 < 0 →
    Q (-1 : Int32) σ) ∧
  (¬ (a2 < 0) →
    inb v3_1 3 ∧
    (a2 < (σ.2.2.1 23 (v3_1).toNatClampNeg) →
      inb v3_1 3 ∧
      Q (((σ.1 15) + (σ.2.2.1 24 (v3_1).toNatClampNeg)) + a2) σ) ∧
    (¬ (a2 < (σ.2.2.1 23 (v3_1).toNatClampNeg)) →
      Q (-1 : Int32) σ))
theorem t_cellOf_0 {C : rCx} (hC : cOK C) {Q : Int32 → rS → Prop}   {a1 : Int32} {a2 : Int32} {σ : rS} (F : w_cellOf_0 C Q  a1 a2 σ) : wG C 0 m_cellOf 0 [some (.ref (co C)), some (.int a1), some (.int a2), none] [] σ (qI Q) := by
  unfold w_cellOf_0 at F
  refine s_iln dX13_cellOf_0 rfl ?_
  refine s_si dX13_cellOf_1 ks_200 ?_
  refine s_isub dX13_cellOf_4 ?_
  refine s_isnb dX13_cellOf_5 (Nat.le_of_ble_eq_true rfl) (fun v3_1 ev3_1 => ?_)
  replace F := F v3_1 ev3_1
  refine s_iln dX13_cellOf_6 rfl ?_
  refine s_i (t := 20) (a2 < 0) dX13_cellOf_7 rfl rfl (fun hc => ?_) (fun hc => ?_)
  · replace F := F.1 hc
    refine s_ic dX13_cellOf_20 ki_m1 ?_
    refine s_goto (t := 37) dX13_cellOf_21 rfl ?_
    exact s_ri dX13_cellOf_37 rfl in_nar F
  · replace F := F.2 hc
    refine s_iln dX13_cellOf_10 rfl ?_
    refine s_aln dX13_cellOf_11 rfl ?_
    refine gf_45 dX13_cellOf_12 rfl ?_
    refine s_iln dX13_cellOf_15 rfl ?_
    refine s_ald hC dX13_cellOf_16 rt_23 F.1 ?_
    replace F := F.2
    refine s_ii (t := 24) (a2 < (σ.2.2.1 23 (v3_1).toNatClampNeg)) dX13_cellOf_17 rfl rfl (fun hc => ?_) (fun hc => ?_)
    · replace F := F.1 hc
      refine s_aln dX13_cellOf_24 rfl ?_
      refine gf_333 dX13_cellOf_25 rfl ?_
      refine s_aln dX13_cellOf_28 rfl ?_
      refine gf_48 dX13_cellOf_29 rfl ?_
      refine s_iln dX13_cellOf_32 rfl ?_
      refine s_ald hC dX13_cellOf_33 rt_24 F.1 ?_
      replace F := F.2
      refine s_iadd dX13_cellOf_34 ?_
      refine s_iln dX13_cellOf_35 rfl ?_
      refine s_iadd dX13_cellOf_36 ?_
      exact s_ri dX13_cellOf_37 rfl in_nar F
    · replace F := F.2 hc
      refine s_ic dX13_cellOf_20 ki_m1 ?_
      refine s_goto (t := 37) dX13_cellOf_21 rfl ?_
      exact s_ri dX13_cellOf_37 rfl in_nar F

theorem m_cellOf_run {C : rCx} (hC : cOK C) {Q : Int32 → rS → Prop} {a1 : Int32} {a2 : Int32} {σ : rS} (F : w_cellOf_0 C Q a1 a2 σ) : cI C 0 m_cellOf [.ref (co C), .int a1, .int a2] σ Q := m_I (m_ent _ 1) (t_cellOf_0 hC F)

theorem dX13_behind_0 : decode cX13_behind 0 = .ok (.aload_n 0, 1) := by decide +kernel
theorem dX13_behind_1 : decode cX13_behind 1 = .ok (.getfield 19, 3) := by decide +kernel
theorem dX13_behind_4 : decode cX13_behind 4 = .ok (.aload_n 0, 1) := by decide +kernel
theorem dX13_behind_5 : decode cX13_behind 5 = .ok (.getfield 306, 3) := by decide +kernel
theorem dX13_behind_8 : decode cX13_behind 8 = .ok (.baload, 1) := by decide +kernel
theorem dX13_behind_9 : decode cX13_behind 9 = .ok (.iconst 3, 1) := by decide +kernel
theorem dX13_behind_10 : decode cX13_behind 10 = .ok (.if_icmp .ne 18, 3) := by decide +kernel
theorem dX13_behind_13 : decode cX13_behind 13 = .ok (.aload_n 0, 1) := by decide +kernel
theorem dX13_behind_14 : decode cX13_behind 14 = .ok (.getfield 26, 3) := by decide +kernel
theorem dX13_behind_17 : decode cX13_behind 17 = .ok (.aload_n 0, 1) := by decide +kernel
theorem dX13_behind_18 : decode cX13_behind 18 = .ok (.getfield 306, 3) := by decide +kernel
theorem dX13_behind_21 : decode cX13_behind 21 = .ok (.iaload, 1) := by decide +kernel
theorem dX13_behind_22 : decode cX13_behind 22 = .ok (.invokestatic 441, 3) := by decide +kernel
theorem dX13_behind_25 : decode cX13_behind 25 = .ok (.goto 4, 3) := by decide +kernel
theorem dX13_behind_28 : decode cX13_behind 28 = .ok (.iconst 0, 1) := by decide +kernel
theorem dX13_behind_29 : decode cX13_behind 29 = .ok (.istore_n 1, 1) := by decide +kernel
theorem dX13_behind_30 : decode cX13_behind 30 = .ok (.aload_n 0, 1) := by decide +kernel
theorem dX13_behind_31 : decode cX13_behind 31 = .ok (.iload_n 1, 1) := by decide +kernel
theorem dX13_behind_32 : decode cX13_behind 32 = .ok (.iconst 3, 1) := by decide +kernel
theorem dX13_behind_33 : decode cX13_behind 33 = .ok (.if_icmp .ne 7, 3) := by decide +kernel
theorem dX13_behind_36 : decode cX13_behind 36 = .ok (.iconst 4, 1) := by decide +kernel
theorem dX13_behind_37 : decode cX13_behind 37 = .ok (.goto 13, 3) := by decide +kernel
theorem dX13_behind_40 : decode cX13_behind 40 = .ok (.iload_n 1, 1) := by decide +kernel
theorem dX13_behind_41 : decode cX13_behind 41 = .ok (.ifCond .le 7, 3) := by decide +kernel
theorem dX13_behind_44 : decode cX13_behind 44 = .ok (.iload_n 1, 1) := by decide +kernel
theorem dX13_behind_45 : decode cX13_behind 45 = .ok (.goto 5, 3) := by decide +kernel
theorem dX13_behind_48 : decode cX13_behind 48 = .ok (.bipush 6, 2) := by decide +kernel
theorem dX13_behind_50 : decode cX13_behind 50 = .ok (.invokevirtual 472, 3) := by decide +kernel
theorem dX13_behind_53 : decode cX13_behind 53 = .ok (.iload_n 1, 1) := by decide +kernel
theorem dX13_behind_54 : decode cX13_behind 54 = .ok (.ifCond .le 39, 3) := by decide +kernel
theorem dX13_behind_57 : decode cX13_behind 57 = .ok (.iload_n 1, 1) := by decide +kernel
theorem dX13_behind_58 : decode cX13_behind 58 = .ok (.iconst 3, 1) := by decide +kernel
theorem dX13_behind_59 : decode cX13_behind 59 = .ok (.if_icmp .ne 14, 3) := by decide +kernel
theorem dX13_behind_62 : decode cX13_behind 62 = .ok (.aload_n 0, 1) := by decide +kernel
theorem dX13_behind_63 : decode cX13_behind 63 = .ok (.invokevirtual 451, 3) := by decide +kernel
theorem dX13_behind_66 : decode cX13_behind 66 = .ok (.invokestatic 441, 3) := by decide +kernel
theorem dX13_behind_69 : decode cX13_behind 69 = .ok (.iconst 3, 1) := by decide +kernel
theorem dX13_behind_70 : decode cX13_behind 70 = .ok (.if_icmp .eq 23, 3) := by decide +kernel
theorem dX13_behind_73 : decode cX13_behind 73 = .ok (.aload_n 0, 1) := by decide +kernel
theorem dX13_behind_74 : decode cX13_behind 74 = .ok (.aload_n 0, 1) := by decide +kernel
theorem dX13_behind_75 : decode cX13_behind 75 = .ok (.getfield 26, 3) := by decide +kernel
theorem dX13_behind_78 : decode cX13_behind 78 = .ok (.aload_n 0, 1) := by decide +kernel
theorem dX13_behind_79 : decode cX13_behind 79 = .ok (.getfield 306, 3) := by decide +kernel
theorem dX13_behind_82 : decode cX13_behind 82 = .ok (.iaload, 1) := by decide +kernel
theorem dX13_behind_83 : decode cX13_behind 83 = .ok (.iconst 0, 1) := by decide +kernel
theorem dX13_behind_84 : decode cX13_behind 84 = .ok (.invokevirtual 460, 3) := by decide +kernel
theorem dX13_behind_87 : decode cX13_behind 87 = .ok (.aload_n 0, 1) := by decide +kernel
theorem dX13_behind_88 : decode cX13_behind 88 = .ok (.invokevirtual 319, 3) := by decide +kernel
theorem dX13_behind_91 : decode cX13_behind 91 = .ok (.iconst 0, 1) := by decide +kernel
theorem dX13_behind_92 : decode cX13_behind 92 = .ok (.ireturn, 1) := by decide +kernel
theorem dX13_behind_93 : decode cX13_behind 93 = .ok (.aload_n 0, 1) := by decide +kernel
theorem dX13_behind_94 : decode cX13_behind 94 = .ok (.iconst 1, 1) := by decide +kernel
theorem dX13_behind_95 : decode cX13_behind 95 = .ok (.invokevirtual 472, 3) := by decide +kernel
theorem dX13_behind_98 : decode cX13_behind 98 = .ok (.aload_n 0, 1) := by decide +kernel
theorem dX13_behind_99 : decode cX13_behind 99 = .ok (.invokevirtual 448, 3) := by decide +kernel
theorem dX13_behind_102 : decode cX13_behind 102 = .ok (.ifCond .eq 10, 3) := by decide +kernel
theorem dX13_behind_105 : decode cX13_behind 105 = .ok (.aload_n 0, 1) := by decide +kernel
theorem dX13_behind_106 : decode cX13_behind 106 = .ok (.getfield 425, 3) := by decide +kernel
theorem dX13_behind_109 : decode cX13_behind 109 = .ok (.ifCond .ne 5, 3) := by decide +kernel
theorem dX13_behind_112 : decode cX13_behind 112 = .ok (.iconst 2, 1) := by decide +kernel
theorem dX13_behind_113 : decode cX13_behind 113 = .ok (.ireturn, 1) := by decide +kernel
theorem dX13_behind_114 : decode cX13_behind 114 = .ok (.aload_n 0, 1) := by decide +kernel
theorem dX13_behind_115 : decode cX13_behind 115 = .ok (.invokevirtual 451, 3) := by decide +kernel
theorem dX13_behind_118 : decode cX13_behind 118 = .ok (.bipush 40, 2) := by decide +kernel
theorem dX13_behind_120 : decode cX13_behind 120 = .ok (.if_icmp .ne 25, 3) := by decide +kernel
theorem dX13_behind_123 : decode cX13_behind 123 = .ok (.aload_n 0, 1) := by decide +kernel
theorem dX13_behind_124 : decode cX13_behind 124 = .ok (.bipush 41, 2) := by decide +kernel
theorem dX13_behind_126 : decode cX13_behind 126 = .ok (.invokevirtual 366, 3) := by decide +kernel
theorem dX13_behind_129 : decode cX13_behind 129 = .ok (.aload_n 0, 1) := by decide +kernel
theorem dX13_behind_130 : decode cX13_behind 130 = .ok (.dup, 1) := by decide +kernel
theorem dX13_behind_131 : decode cX13_behind 131 = .ok (.getfield 425, 3) := by decide +kernel
theorem dX13_behind_134 : decode cX13_behind 134 = .ok (.iconst 1, 1) := by decide +kernel
theorem dX13_behind_135 : decode cX13_behind 135 = .ok (.isub, 1) := by decide +kernel
theorem dX13_behind_136 : decode cX13_behind 136 = .ok (.putfield 425, 3) := by decide +kernel
theorem dX13_behind_139 : decode cX13_behind 139 = .ok (.aload_n 0, 1) := by decide +kernel
theorem dX13_behind_140 : decode cX13_behind 140 = .ok (.invokevirtual 457, 3) := by decide +kernel
theorem dX13_behind_143 : decode cX13_behind 143 = .ok (.iconst 1, 1) := by decide +kernel
theorem dX13_behind_144 : decode cX13_behind 144 = .ok (.ireturn, 1) := by decide +kernel
theorem dX13_behind_145 : decode cX13_behind 145 = .ok (.aload_n 0, 1) := by decide +kernel
theorem dX13_behind_146 : decode cX13_behind 146 = .ok (.bipush 93, 2) := by decide +kernel
theorem dX13_behind_148 : decode cX13_behind 148 = .ok (.invokevirtual 366, 3) := by decide +kernel
theorem dX13_behind_151 : decode cX13_behind 151 = .ok (.aload_n 0, 1) := by decide +kernel
theorem dX13_behind_152 : decode cX13_behind 152 = .ok (.getfield 110, 3) := by decide +kernel
theorem dX13_behind_155 : decode cX13_behind 155 = .ok (.aload_n 0, 1) := by decide +kernel
theorem dX13_behind_156 : decode cX13_behind 156 = .ok (.getfield 425, 3) := by decide +kernel
theorem dX13_behind_159 : decode cX13_behind 159 = .ok (.iconst 1, 1) := by decide +kernel
theorem dX13_behind_160 : decode cX13_behind 160 = .ok (.isub, 1) := by decide +kernel
theorem dX13_behind_161 : decode cX13_behind 161 = .ok (.iaload, 1) := by decide +kernel
theorem dX13_behind_162 : decode cX13_behind 162 = .ok (.istore_n 2, 1) := by decide +kernel
theorem dX13_behind_163 : decode cX13_behind 163 = .ok (.aload_n 0, 1) := by decide +kernel
theorem dX13_behind_164 : decode cX13_behind 164 = .ok (.dup, 1) := by decide +kernel
theorem dX13_behind_165 : decode cX13_behind 165 = .ok (.getfield 425, 3) := by decide +kernel
theorem dX13_behind_168 : decode cX13_behind 168 = .ok (.iconst 1, 1) := by decide +kernel
theorem dX13_behind_169 : decode cX13_behind 169 = .ok (.isub, 1) := by decide +kernel
theorem dX13_behind_170 : decode cX13_behind 170 = .ok (.putfield 425, 3) := by decide +kernel
theorem dX13_behind_173 : decode cX13_behind 173 = .ok (.aload_n 0, 1) := by decide +kernel
theorem dX13_behind_174 : decode cX13_behind 174 = .ok (.invokevirtual 448, 3) := by decide +kernel
theorem dX13_behind_177 : decode cX13_behind 177 = .ok (.ifCond .eq 68, 3) := by decide +kernel
theorem dX13_behind_180 : decode cX13_behind 180 = .ok (.aload_n 0, 1) := by decide +kernel
theorem dX13_behind_181 : decode cX13_behind 181 = .ok (.getfield 438, 3) := by decide +kernel
theorem dX13_behind_184 : decode cX13_behind 184 = .ok (.iconst 1, 1) := by decide +kernel
theorem dX13_behind_185 : decode cX13_behind 185 = .ok (.if_icmp .ne 60, 3) := by decide +kernel
theorem dX13_behind_188 : decode cX13_behind 188 = .ok (.aload_n 0, 1) := by decide +kernel
theorem dX13_behind_189 : decode cX13_behind 189 = .ok (.iload_n 2, 1) := by decide +kernel
theorem dX13_behind_190 : decode cX13_behind 190 = .ok (.aload_n 0, 1) := by decide +kernel
theorem dX13_behind_191 : decode cX13_behind 191 = .ok (.getfield 113, 3) := by decide +kernel
theorem dX13_behind_194 : decode cX13_behind 194 = .ok (.aload_n 0, 1) := by decide +kernel
theorem dX13_behind_195 : decode cX13_behind 195 = .ok (.getfield 435, 3) := by decide +kernel
theorem dX13_behind_198 : decode cX13_behind 198 = .ok (.iconst 1, 1) := by decide +kernel
theorem dX13_behind_199 : decode cX13_behind 199 = .ok (.isub, 1) := by decide +kernel
theorem dX13_behind_200 : decode cX13_behind 200 = .ok (.iaload, 1) := by decide +kernel
theorem dX13_behind_201 : decode cX13_behind 201 = .ok (.invokevirtual 475, 3) := by decide +kernel
theorem dX13_behind_204 : decode cX13_behind 204 = .ok (.istore_n 3, 1) := by decide +kernel
theorem dX13_behind_205 : decode cX13_behind 205 = .ok (.aload_n 0, 1) := by decide +kernel
theorem dX13_behind_206 : decode cX13_behind 206 = .ok (.iload_n 3, 1) := by decide +kernel
theorem dX13_behind_207 : decode cX13_behind 207 = .ok (.iconst (-1), 1) := by decide +kernel
theorem dX13_behind_208 : decode cX13_behind 208 = .ok (.if_icmp .ne 7, 3) := by decide +kernel
theorem dX13_behind_211 : decode cX13_behind 211 = .ok (.iconst 1, 1) := by decide +kernel
theorem dX13_behind_212 : decode cX13_behind 212 = .ok (.goto 4, 3) := by decide +kernel
theorem dX13_behind_215 : decode cX13_behind 215 = .ok (.iconst 0, 1) := by decide +kernel
theorem dX13_behind_216 : decode cX13_behind 216 = .ok (.putfield 428, 3) := by decide +kernel
theorem dX13_behind_219 : decode cX13_behind 219 = .ok (.aload_n 0, 1) := by decide +kernel
theorem dX13_behind_220 : decode cX13_behind 220 = .ok (.getfield 113, 3) := by decide +kernel
theorem dX13_behind_223 : decode cX13_behind 223 = .ok (.aload_n 0, 1) := by decide +kernel
theorem dX13_behind_224 : decode cX13_behind 224 = .ok (.getfield 435, 3) := by decide +kernel
theorem dX13_behind_227 : decode cX13_behind 227 = .ok (.iconst 1, 1) := by decide +kernel
theorem dX13_behind_228 : decode cX13_behind 228 = .ok (.isub, 1) := by decide +kernel
theorem dX13_behind_229 : decode cX13_behind 229 = .ok (.iload_n 3, 1) := by decide +kernel
theorem dX13_behind_230 : decode cX13_behind 230 = .ok (.iconst (-1), 1) := by decide +kernel
theorem dX13_behind_231 : decode cX13_behind 231 = .ok (.if_icmp .ne 7, 3) := by decide +kernel
theorem dX13_behind_234 : decode cX13_behind 234 = .ok (.iconst 0, 1) := by decide +kernel
theorem dX13_behind_235 : decode cX13_behind 235 = .ok (.goto 9, 3) := by decide +kernel
theorem dX13_behind_238 : decode cX13_behind 238 = .ok (.aload_n 0, 1) := by decide +kernel
theorem dX13_behind_239 : decode cX13_behind 239 = .ok (.getfield 122, 3) := by decide +kernel
theorem dX13_behind_242 : decode cX13_behind 242 = .ok (.iload_n 3, 1) := by decide +kernel
theorem dX13_behind_243 : decode cX13_behind 243 = .ok (.iaload, 1) := by decide +kernel
theorem dX13_behind_244 : decode cX13_behind 244 = .ok (.iastore, 1) := by decide +kernel
theorem dX13_behind_245 : decode cX13_behind 245 = .ok (.aload_n 0, 1) := by decide +kernel
theorem dX13_behind_246 : decode cX13_behind 246 = .ok (.invokevirtual 448, 3) := by decide +kernel
theorem dX13_behind_249 : decode cX13_behind 249 = .ok (.ifCond .eq 7, 3) := by decide +kernel
theorem dX13_behind_252 : decode cX13_behind 252 = .ok (.aload_n 0, 1) := by decide +kernel
theorem dX13_behind_253 : decode cX13_behind 253 = .ok (.invokevirtual 457, 3) := by decide +kernel
theorem dX13_behind_256 : decode cX13_behind 256 = .ok (.iconst 1, 1) := by decide +kernel
theorem dX13_behind_257 : decode cX13_behind 257 = .ok (.ireturn, 1) := by decide +kernel
def w_behind_73 (C : rCx) (Q : Int32 → rS → Prop)   (σ : rS) : Prop :=
  inb (σ.1 10) 131074 ∧
  cV C 0 m_hold [.ref (co C), .int (σ.2.2.1 7 ((σ.1 10)).toNatClampNeg), .int (0 : Int32)] σ (fun σ1 =>
    cV C 2 m_go [.ref (co C)] σ1 (fun σ3 =>
      Q (0 : Int32) σ3))
theorem t_behind_73 {C : rCx} (hC : cOK C) {Q : Int32 → rS → Prop}    {σ : rS} (F : w_behind_73 C Q   σ) : wG C 5 m_behind 73 [some (.ref (co C)), none, none, none] [] σ (qI Q) := by
  unfold w_behind_73 at F
  refine s_aln dX13_behind_73 rfl ?_
  refine s_aln dX13_behind_74 rfl ?_
  refine gf_26 dX13_behind_75 rfl ?_
  refine s_aln dX13_behind_78 rfl ?_
  refine gf_306 dX13_behind_79 rfl ?_
  refine s_ald hC dX13_behind_82 rt_7 F.1 ?_
  replace F := F.2
  refine s_ic dX13_behind_83 ki_0 ?_
  refine k_460 dX13_behind_84 rfl (Nat.le_of_ble_eq_true rfl) (Nat.le_of_ble_eq_true rfl) F (fun σ1 F => ?_)
  refine s_aln dX13_behind_87 rfl ?_
  refine k_319 dX13_behind_88 rfl (Nat.le_of_ble_eq_true rfl) (Nat.le_of_ble_eq_true rfl) F (fun σ3 F => ?_)
  refine s_ic dX13_behind_91 ki_0 ?_
  exact s_ri dX13_behind_92 rfl in_nar F

def w_behind_245 (C : rCx) (Q : Int32 → rS → Prop)   (σ : rS) : Prop :=
  cI C 1 m_goesOn [.ref (co C)] σ (fun r2 σ1 =>
    (r2 = 0 →
      Q (1 : Int32) σ1) ∧
    (¬ (r2 = 0) →
      cV C 1 m_turn [.ref (co C)] σ1 (fun σ3 =>
        Q (1 : Int32) σ3)))
theorem t_behind_245 {C : rCx} (hC : cOK C) {Q : Int32 → rS → Prop}    {σ : rS} (F : w_behind_245 C Q   σ) : wG C 5 m_behind 245 [some (.ref (co C)), none, none, none] [] σ (qI Q) := by
  unfold w_behind_245 at F
  refine s_aln dX13_behind_245 rfl ?_
  refine k_448 dX13_behind_246 rfl (Nat.le_of_ble_eq_true rfl) (Nat.le_of_ble_eq_true rfl) F (fun r2 σ1 F => ?_)
  refine s_i (t := 256) (r2 = 0) dX13_behind_249 rfl rfl (fun hc => ?_) (fun hc => ?_)
  · replace F := F.1 hc
    refine s_ic dX13_behind_256 ki_1 ?_
    exact s_ri dX13_behind_257 rfl in_nar F
  · replace F := F.2 hc
    refine s_aln dX13_behind_252 rfl ?_
    refine k_457 dX13_behind_253 rfl (Nat.le_of_ble_eq_true rfl) (Nat.le_of_ble_eq_true rfl) F (fun σ3 F => ?_)
    refine s_ic dX13_behind_256 ki_1 ?_
    exact s_ri dX13_behind_257 rfl in_nar F

def w_behind_216 (C : rCx) (Q : Int32 → rS → Prop)  (a3 : Int32) (s1 : Int32) (σ : rS) : Prop :=
  ∀ σ1, σ1 = siU σ 47 s1 →
  (¬ (a3 = (-1 : Int32)) →
    inb a3 34 ∧
    inb ((σ1.1 49) - (1 : Int32)) 66000 ∧
    ∀ σ2, σ2 = riU σ1 52 (((σ1.1 49) - (1 : Int32))).toNatClampNeg (σ1.2.2.1 57 (a3).toNatClampNeg) →
    w_behind_245 C Q   σ2) ∧
  (a3 = (-1 : Int32) →
    inb ((σ1.1 49) - (1 : Int32)) 66000 ∧
    ∀ σ3, σ3 = riU σ1 52 (((σ1.1 49) - (1 : Int32))).toNatClampNeg (0 : Int32) →
    w_behind_245 C Q   σ3)
theorem t_behind_216 {C : rCx} (hC : cOK C) {Q : Int32 → rS → Prop}   {a3 : Int32} {s1 : Int32} {σ : rS} (F : w_behind_216 C Q  a3 s1 σ) : wG C 5 m_behind 216 [some (.ref (co C)), none, none, some (.int a3)] [.int s1, .ref (co C)] σ (qI Q) := by
  unfold w_behind_216 at F
  refine pf_428 hC dX13_behind_216 rfl (fun σ1 eσ1 => ?_)
  replace F := F σ1 eσ1
  refine s_aln dX13_behind_219 rfl ?_
  refine gf_113 dX13_behind_220 rfl ?_
  refine s_aln dX13_behind_223 rfl ?_
  refine gf_435 dX13_behind_224 rfl ?_
  refine s_ic dX13_behind_227 ki_1 ?_
  refine s_isub dX13_behind_228 ?_
  refine s_iln dX13_behind_229 rfl ?_
  refine s_ic dX13_behind_230 ki_m1 ?_
  refine s_iin (t := 238) (a3 = (-1 : Int32)) dX13_behind_231 rfl rfl (fun hc => ?_) (fun hc => ?_)
  · replace F := F.1 hc
    refine s_aln dX13_behind_238 rfl ?_
    refine gf_122 dX13_behind_239 rfl ?_
    refine s_iln dX13_behind_242 rfl ?_
    refine s_ald hC dX13_behind_243 rt_57 F.1 ?_
    replace F := F.2
    refine s_astb hC dX13_behind_244 rt_52 F.1 (fun σ2 eσ2 => ?_)
    replace F := F.2 σ2 eσ2
    exact s_k (t_behind_245 hC  F) ⟨rfl, trivial⟩
  · replace F := F.2 hc
    refine s_ic dX13_behind_234 ki_0 ?_
    refine s_goto (t := 244) dX13_behind_235 rfl ?_
    refine s_astb hC dX13_behind_244 rt_52 F.1 (fun σ3 eσ3 => ?_)
    replace F := F.2 σ3 eσ3
    exact s_k (t_behind_245 hC  F) ⟨rfl, trivial⟩

def w_behind_93 (C : rCx) (Q : Int32 → rS → Prop)   (σ : rS) : Prop :=
  cV C 3 m_settle [.ref (co C), .int (1 : Int32)] σ (fun σ1 =>
    cI C 1 m_goesOn [.ref (co C)] σ1 (fun r4 σ3 =>
      (r4 = 0 →
        Q (2 : Int32) σ3) ∧
      (¬ (r4 = 0) →
        (¬ ((σ3.1 48) = 0) →
          cI C 0 m_top [.ref (co C)] σ3 (fun r6 σ5 =>
            (¬ (r6 = (40 : Int32)) →
              cV C 4 m_close [.ref (co C), .int (93 : Int32)] σ5 (fun σ7 =>
                inb ((σ7.1 48) - (1 : Int32)) 66000 ∧
                ∀ v2_9 : Int32, v2_9 = (σ7.2.2.1 51 (((σ7.1 48) - (1 : Int32))).toNatClampNeg) →
                ∀ σ10, σ10 = siU σ7 48 ((σ7.1 48) - (1 : Int32)) →
                cI C 1 m_goesOn [.ref (co C)] σ10 (fun r12 σ11 =>
                  (r12 = 0 →
                    w_behind_245 C Q   σ11) ∧
                  (¬ (r12 = 0) →
                    (¬ ((σ11.1 46) = (1 : Int32)) →
                      w_behind_245 C Q   σ11) ∧
                    ((σ11.1 46) = (1 : Int32) →
                      inb ((σ11.1 49) - (1 : Int32)) 66000 ∧
                      cI C 0 m_cellOf [.ref (co C), .int v2_9, .int (σ11.2.2.1 52 (((σ11.1 49) - (1 : Int32))).toNatClampNeg)] σ11 (fun r14 σ13 =>
                        (¬ (r14 = (-1 : Int32)) →
                          w_behind_216 C Q  r14 (0 : Int32) σ13) ∧
                        (r14 = (-1 : Int32) →
                          w_behind_216 C Q  r14 (1 : Int32) σ13))))))) ∧
            (r6 = (40 : Int32) →
              cV C 4 m_close [.ref (co C), .int (41 : Int32)] σ5 (fun σ15 =>
                ∀ σ17, σ17 = siU σ15 48 ((σ15.1 48) - (1 : Int32)) →
                cV C 1 m_turn [.ref (co C)] σ17 (fun σ18 =>
                  Q (1 : Int32) σ18))))) ∧
        ((σ3.1 48) = 0 →
          Q (2 : Int32) σ3))))
theorem t_behind_93 {C : rCx} (hC : cOK C) {Q : Int32 → rS → Prop}    {σ : rS} (F : w_behind_93 C Q   σ) : wG C 5 m_behind 93 [some (.ref (co C)), none, none, none] [] σ (qI Q) := by
  unfold w_behind_93 at F
  refine s_aln dX13_behind_93 rfl ?_
  refine s_ic dX13_behind_94 ki_1 ?_
  refine k_472 dX13_behind_95 rfl (Nat.le_of_ble_eq_true rfl) (Nat.le_of_ble_eq_true rfl) F (fun σ1 F => ?_)
  refine s_aln dX13_behind_98 rfl ?_
  refine k_448 dX13_behind_99 rfl (Nat.le_of_ble_eq_true rfl) (Nat.le_of_ble_eq_true rfl) F (fun r4 σ3 F => ?_)
  refine s_i (t := 112) (r4 = 0) dX13_behind_102 rfl rfl (fun hc => ?_) (fun hc => ?_)
  · replace F := F.1 hc
    refine s_ic dX13_behind_112 ki_2 ?_
    exact s_ri dX13_behind_113 rfl in_nar F
  · replace F := F.2 hc
    refine s_aln dX13_behind_105 rfl ?_
    refine gf_425 dX13_behind_106 rfl ?_
    refine s_in (t := 114) ((σ3.1 48) = 0) dX13_behind_109 rfl rfl (fun hc => ?_) (fun hc => ?_)
    · replace F := F.1 hc
      refine s_aln dX13_behind_114 rfl ?_
      refine k_451 dX13_behind_115 rfl (Nat.le_of_ble_eq_true rfl) (Nat.le_of_ble_eq_true rfl) F (fun r6 σ5 F => ?_)
      refine s_bi dX13_behind_118 kb_40 ?_
      refine s_iin (t := 145) (r6 = (40 : Int32)) dX13_behind_120 rfl rfl (fun hc => ?_) (fun hc => ?_)
      · replace F := F.1 hc
        refine s_aln dX13_behind_145 rfl ?_
        refine s_bi dX13_behind_146 kb_93 ?_
        refine k_366 dX13_behind_148 rfl (Nat.le_of_ble_eq_true rfl) (Nat.le_of_ble_eq_true rfl) F (fun σ7 F => ?_)
        refine s_aln dX13_behind_151 rfl ?_
        refine gf_110 dX13_behind_152 rfl ?_
        refine s_aln dX13_behind_155 rfl ?_
        refine gf_425 dX13_behind_156 rfl ?_
        refine s_ic dX13_behind_159 ki_1 ?_
        refine s_isub dX13_behind_160 ?_
        refine s_ald hC dX13_behind_161 rt_51 F.1 ?_
        replace F := F.2
        refine s_isnb dX13_behind_162 (Nat.le_of_ble_eq_true rfl) (fun v2_9 ev2_9 => ?_)
        replace F := F v2_9 ev2_9
        refine s_aln dX13_behind_163 rfl ?_
        refine s_dup dX13_behind_164 rfl ?_
        refine gf_425 dX13_behind_165 rfl ?_
        refine s_ic dX13_behind_168 ki_1 ?_
        refine s_isub dX13_behind_169 ?_
        refine pf_425 hC dX13_behind_170 rfl (fun σ10 eσ10 => ?_)
        replace F := F σ10 eσ10
        refine s_aln dX13_behind_173 rfl ?_
        refine k_448 dX13_behind_174 rfl (Nat.le_of_ble_eq_true rfl) (Nat.le_of_ble_eq_true rfl) F (fun r12 σ11 F => ?_)
        refine s_i (t := 245) (r12 = 0) dX13_behind_177 rfl rfl (fun hc => ?_) (fun hc => ?_)
        · replace F := F.1 hc
          exact s_k (t_behind_245 hC  F) ⟨rfl, trivial⟩
        · replace F := F.2 hc
          refine s_aln dX13_behind_180 rfl ?_
          refine gf_438 dX13_behind_181 rfl ?_
          refine s_ic dX13_behind_184 ki_1 ?_
          refine s_iin (t := 245) ((σ11.1 46) = (1 : Int32)) dX13_behind_185 rfl rfl (fun hc => ?_) (fun hc => ?_)
          · replace F := F.1 hc
            exact s_k (t_behind_245 hC  F) ⟨rfl, trivial⟩
          · replace F := F.2 hc
            refine s_aln dX13_behind_188 rfl ?_
            refine s_iln dX13_behind_189 rfl ?_
            refine s_aln dX13_behind_190 rfl ?_
            refine gf_113 dX13_behind_191 rfl ?_
            refine s_aln dX13_behind_194 rfl ?_
            refine gf_435 dX13_behind_195 rfl ?_
            refine s_ic dX13_behind_198 ki_1 ?_
            refine s_isub dX13_behind_199 ?_
            refine s_ald hC dX13_behind_200 rt_52 F.1 ?_
            replace F := F.2
            refine k_475 dX13_behind_201 rfl (Nat.le_of_ble_eq_true rfl) (Nat.le_of_ble_eq_true rfl) F (fun r14 σ13 F => ?_)
            refine s_isn dX13_behind_204 (Nat.le_of_ble_eq_true rfl) rfl ?_
            refine s_aln dX13_behind_205 rfl ?_
            refine s_iln dX13_behind_206 rfl ?_
            refine s_ic dX13_behind_207 ki_m1 ?_
            refine s_iin (t := 215) (r14 = (-1 : Int32)) dX13_behind_208 rfl rfl (fun hc => ?_) (fun hc => ?_)
            · replace F := F.1 hc
              refine s_ic dX13_behind_215 ki_0 ?_
              exact s_k (t_behind_216 hC  F) ⟨rfl, rfl, trivial⟩
            · replace F := F.2 hc
              refine s_ic dX13_behind_211 ki_1 ?_
              refine s_goto (t := 216) dX13_behind_212 rfl ?_
              exact s_k (t_behind_216 hC  F) ⟨rfl, rfl, trivial⟩
      · replace F := F.2 hc
        refine s_aln dX13_behind_123 rfl ?_
        refine s_bi dX13_behind_124 kb_41 ?_
        refine k_366 dX13_behind_126 rfl (Nat.le_of_ble_eq_true rfl) (Nat.le_of_ble_eq_true rfl) F (fun σ15 F => ?_)
        refine s_aln dX13_behind_129 rfl ?_
        refine s_dup dX13_behind_130 rfl ?_
        refine gf_425 dX13_behind_131 rfl ?_
        refine s_ic dX13_behind_134 ki_1 ?_
        refine s_isub dX13_behind_135 ?_
        refine pf_425 hC dX13_behind_136 rfl (fun σ17 eσ17 => ?_)
        replace F := F σ17 eσ17
        refine s_aln dX13_behind_139 rfl ?_
        refine k_457 dX13_behind_140 rfl (Nat.le_of_ble_eq_true rfl) (Nat.le_of_ble_eq_true rfl) F (fun σ18 F => ?_)
        refine s_ic dX13_behind_143 ki_1 ?_
        exact s_ri dX13_behind_144 rfl in_nar F
    · replace F := F.2 hc
      refine s_ic dX13_behind_112 ki_2 ?_
      exact s_ri dX13_behind_113 rfl in_nar F

def w_behind_50 (C : rCx) (Q : Int32 → rS → Prop)  (a1 : Int32) (s1 : Int32) (σ : rS) : Prop :=
  cV C 3 m_settle [.ref (co C), .int s1] σ (fun σ1 =>
    (a1 ≤ 0 →
      w_behind_93 C Q   σ1) ∧
    (¬ (a1 ≤ 0) →
      (¬ (a1 = (3 : Int32)) →
        w_behind_73 C Q   σ1) ∧
      (a1 = (3 : Int32) →
        cI C 0 m_top [.ref (co C)] σ1 (fun r4 σ3 =>
          cI C 0 m_rank [.int r4] σ3 (fun r6 σ5 =>
            (r6 = (3 : Int32) →
              w_behind_93 C Q   σ5) ∧
            (¬ (r6 = (3 : Int32)) →
              w_behind_73 C Q   σ5))))))
theorem t_behind_50 {C : rCx} (hC : cOK C) {Q : Int32 → rS → Prop}   {a1 : Int32} {s1 : Int32} {σ : rS} (F : w_behind_50 C Q  a1 s1 σ) : wG C 5 m_behind 50 [some (.ref (co C)), some (.int a1), none, none] [.int s1, .ref (co C)] σ (qI Q) := by
  unfold w_behind_50 at F
  refine k_472 dX13_behind_50 rfl (Nat.le_of_ble_eq_true rfl) (Nat.le_of_ble_eq_true rfl) F (fun σ1 F => ?_)
  refine s_iln dX13_behind_53 rfl ?_
  refine s_i (t := 93) (a1 ≤ 0) dX13_behind_54 rfl rfl (fun hc => ?_) (fun hc => ?_)
  · replace F := F.1 hc
    exact s_k (t_behind_93 hC  F) ⟨rfl, trivial⟩
  · replace F := F.2 hc
    refine s_iln dX13_behind_57 rfl ?_
    refine s_ic dX13_behind_58 ki_3 ?_
    refine s_iin (t := 73) (a1 = (3 : Int32)) dX13_behind_59 rfl rfl (fun hc => ?_) (fun hc => ?_)
    · replace F := F.1 hc
      exact s_k (t_behind_73 hC  F) ⟨rfl, trivial⟩
    · replace F := F.2 hc
      refine s_aln dX13_behind_62 rfl ?_
      refine k_451 dX13_behind_63 rfl (Nat.le_of_ble_eq_true rfl) (Nat.le_of_ble_eq_true rfl) F (fun r4 σ3 F => ?_)
      refine k_441 dX13_behind_66 rfl (Nat.le_of_ble_eq_true rfl) (Nat.le_of_ble_eq_true rfl) F (fun r6 σ5 F => ?_)
      refine s_ic dX13_behind_69 ki_3 ?_
      refine s_ii (t := 93) (r6 = (3 : Int32)) dX13_behind_70 rfl rfl (fun hc => ?_) (fun hc => ?_)
      · replace F := F.1 hc
        exact s_k (t_behind_93 hC  F) ⟨rfl, trivial⟩
      · replace F := F.2 hc
        exact s_k (t_behind_73 hC  F) ⟨rfl, trivial⟩

def w_behind_29 (C : rCx) (Q : Int32 → rS → Prop)  (s0 : Int32) (σ : rS) : Prop :=
  (¬ (s0 = (3 : Int32)) →
    (s0 ≤ 0 →
      w_behind_50 C Q  s0 (6 : Int32) σ) ∧
    (¬ (s0 ≤ 0) →
      w_behind_50 C Q  s0 s0 σ)) ∧
  (s0 = (3 : Int32) →
    w_behind_50 C Q  s0 (4 : Int32) σ)
theorem t_behind_29 {C : rCx} (hC : cOK C) {Q : Int32 → rS → Prop}   {s0 : Int32} {σ : rS} (F : w_behind_29 C Q  s0 σ) : wG C 5 m_behind 29 [some (.ref (co C)), none, none, none] [.int s0] σ (qI Q) := by
  unfold w_behind_29 at F
  refine s_isn dX13_behind_29 (Nat.le_of_ble_eq_true rfl) rfl ?_
  refine s_aln dX13_behind_30 rfl ?_
  refine s_iln dX13_behind_31 rfl ?_
  refine s_ic dX13_behind_32 ki_3 ?_
  refine s_iin (t := 40) (s0 = (3 : Int32)) dX13_behind_33 rfl rfl (fun hc => ?_) (fun hc => ?_)
  · replace F := F.1 hc
    refine s_iln dX13_behind_40 rfl ?_
    refine s_i (t := 48) (s0 ≤ 0) dX13_behind_41 rfl rfl (fun hc => ?_) (fun hc => ?_)
    · replace F := F.1 hc
      refine s_bi dX13_behind_48 kb_6 ?_
      exact s_k (t_behind_50 hC  F) ⟨rfl, rfl, trivial⟩
    · replace F := F.2 hc
      refine s_iln dX13_behind_44 rfl ?_
      refine s_goto (t := 50) dX13_behind_45 rfl ?_
      exact s_k (t_behind_50 hC  F) ⟨rfl, rfl, trivial⟩
  · replace F := F.2 hc
    refine s_ic dX13_behind_36 ki_4 ?_
    refine s_goto (t := 50) dX13_behind_37 rfl ?_
    exact s_k (t_behind_50 hC  F) ⟨rfl, rfl, trivial⟩

def w_behind_0 (C : rCx) (Q : Int32 → rS → Prop)   (σ : rS) : Prop :=
  inb (σ.1 10) 131074 ∧
  (¬ ((σ.2.2.1 5 ((σ.1 10)).toNatClampNeg) = (3 : Int32)) →
    w_behind_29 C Q  (0 : Int32) σ) ∧
  ((σ.2.2.1 5 ((σ.1 10)).toNatClampNeg) = (3 : Int32) →
    inb (σ.1 10) 131074 ∧
    cI C 0 m_rank [.int (σ.2.2.1 7 ((σ.1 10)).toNatClampNeg)] σ (fun r2 σ1 =>
      w_behind_29 C Q  r2 σ1))
theorem t_behind_0 {C : rCx} (hC : cOK C) {Q : Int32 → rS → Prop}    {σ : rS} (F : w_behind_0 C Q   σ) : wG C 5 m_behind 0 [some (.ref (co C)), none, none, none] [] σ (qI Q) := by
  unfold w_behind_0 at F
  refine s_aln dX13_behind_0 rfl ?_
  refine gf_19 dX13_behind_1 rfl ?_
  refine s_aln dX13_behind_4 rfl ?_
  refine gf_306 dX13_behind_5 rfl ?_
  refine s_bld hC dX13_behind_8 rt_5 F.1 ?_
  replace F := F.2
  refine s_ic dX13_behind_9 ki_3 ?_
  refine s_iin (t := 28) ((σ.2.2.1 5 ((σ.1 10)).toNatClampNeg) = (3 : Int32)) dX13_behind_10 rfl rfl (fun hc => ?_) (fun hc => ?_)
  · replace F := F.1 hc
    refine s_ic dX13_behind_28 ki_0 ?_
    exact s_k (t_behind_29 hC  F) ⟨rfl, trivial⟩
  · replace F := F.2 hc
    refine s_aln dX13_behind_13 rfl ?_
    refine gf_26 dX13_behind_14 rfl ?_
    refine s_aln dX13_behind_17 rfl ?_
    refine gf_306 dX13_behind_18 rfl ?_
    refine s_ald hC dX13_behind_21 rt_7 F.1 ?_
    replace F := F.2
    refine k_441 dX13_behind_22 rfl (Nat.le_of_ble_eq_true rfl) (Nat.le_of_ble_eq_true rfl) F (fun r2 σ1 F => ?_)
    refine s_goto (t := 29) dX13_behind_25 rfl ?_
    exact s_k (t_behind_29 hC  F) ⟨rfl, trivial⟩

theorem m_behind_run {C : rCx} (hC : cOK C) {Q : Int32 → rS → Prop}  {σ : rS} (F : w_behind_0 C Q  σ) : cI C 5 m_behind [.ref (co C)] σ Q := m_I (m_ent _ 3) (t_behind_0 hC F)

theorem dX13_expression_0 : decode cX13_expression 0 = .ok (.aload_n 0, 1) := by decide +kernel
theorem dX13_expression_1 : decode cX13_expression 1 = .ok (.iconst 0, 1) := by decide +kernel
theorem dX13_expression_2 : decode cX13_expression 2 = .ok (.putfield 425, 3) := by decide +kernel
theorem dX13_expression_5 : decode cX13_expression 5 = .ok (.aload_n 0, 1) := by decide +kernel
theorem dX13_expression_6 : decode cX13_expression 6 = .ok (.iconst 0, 1) := by decide +kernel
theorem dX13_expression_7 : decode cX13_expression 7 = .ok (.putfield 435, 3) := by decide +kernel
theorem dX13_expression_10 : decode cX13_expression 10 = .ok (.iconst 0, 1) := by decide +kernel
theorem dX13_expression_11 : decode cX13_expression 11 = .ok (.istore_n 1, 1) := by decide +kernel
theorem dX13_expression_12 : decode cX13_expression 12 = .ok (.aload_n 0, 1) := by decide +kernel
theorem dX13_expression_13 : decode cX13_expression 13 = .ok (.invokevirtual 448, 3) := by decide +kernel
theorem dX13_expression_16 : decode cX13_expression 16 = .ok (.ifCond .eq 35, 3) := by decide +kernel
theorem dX13_expression_19 : decode cX13_expression 19 = .ok (.iload_n 1, 1) := by decide +kernel
theorem dX13_expression_20 : decode cX13_expression 20 = .ok (.iconst 2, 1) := by decide +kernel
theorem dX13_expression_21 : decode cX13_expression 21 = .ok (.if_icmp .ge 30, 3) := by decide +kernel
theorem dX13_expression_24 : decode cX13_expression 24 = .ok (.iload_n 1, 1) := by decide +kernel
theorem dX13_expression_25 : decode cX13_expression 25 = .ok (.ifCond .ne 18, 3) := by decide +kernel
theorem dX13_expression_28 : decode cX13_expression 28 = .ok (.aload_n 0, 1) := by decide +kernel
theorem dX13_expression_29 : decode cX13_expression 29 = .ok (.invokevirtual 478, 3) := by decide +kernel
theorem dX13_expression_32 : decode cX13_expression 32 = .ok (.ifCond .eq 7, 3) := by decide +kernel
theorem dX13_expression_35 : decode cX13_expression 35 = .ok (.iconst 1, 1) := by decide +kernel
theorem dX13_expression_36 : decode cX13_expression 36 = .ok (.goto 11, 3) := by decide +kernel
theorem dX13_expression_39 : decode cX13_expression 39 = .ok (.iconst 0, 1) := by decide +kernel
theorem dX13_expression_40 : decode cX13_expression 40 = .ok (.goto 7, 3) := by decide +kernel
theorem dX13_expression_43 : decode cX13_expression 43 = .ok (.aload_n 0, 1) := by decide +kernel
theorem dX13_expression_44 : decode cX13_expression 44 = .ok (.invokevirtual 481, 3) := by decide +kernel
theorem dX13_expression_47 : decode cX13_expression 47 = .ok (.istore_n 1, 1) := by decide +kernel
theorem dX13_expression_48 : decode cX13_expression 48 = .ok (.goto (-36), 3) := by decide +kernel
theorem dX13_expression_51 : decode cX13_expression 51 = .ok (.aload_n 0, 1) := by decide +kernel
theorem dX13_expression_52 : decode cX13_expression 52 = .ok (.getfield 113, 3) := by decide +kernel
theorem dX13_expression_55 : decode cX13_expression 55 = .ok (.iconst 0, 1) := by decide +kernel
theorem dX13_expression_56 : decode cX13_expression 56 = .ok (.iaload, 1) := by decide +kernel
theorem dX13_expression_57 : decode cX13_expression 57 = .ok (.ireturn, 1) := by decide +kernel
def w_expression_51 (C : rCx) (Q : Int32 → rS → Prop)   (σ : rS) : Prop :=
  inb (0 : Int32) 66000 ∧
  Q (σ.2.2.1 52 ((0 : Int32)).toNatClampNeg) σ
theorem t_expression_51 {C : rCx} (hC : cOK C) {Q : Int32 → rS → Prop}    {σ : rS} (F : w_expression_51 C Q   σ) : wG C 6 m_expression 51 [some (.ref (co C)), none] [] σ (qI Q) := by
  unfold w_expression_51 at F
  refine s_aln dX13_expression_51 rfl ?_
  refine gf_113 dX13_expression_52 rfl ?_
  refine s_ic dX13_expression_55 ki_0 ?_
  refine s_ald hC dX13_expression_56 rt_52 F.1 ?_
  replace F := F.2
  exact s_ri dX13_expression_57 rfl in_nar F

def w_expression_12 (C : rCx) (Q : Int32 → rS → Prop)  (a1 : Int32) (σ : rS) : Prop :=
  ∃ I : Nat → Int32 → rS → Prop, (∃ n, I n a1 σ) ∧ ∀ n a1 σ, I n a1 σ →
    cI C 1 m_goesOn [.ref (co C)] σ (fun r2 σ1 =>
      (r2 = 0 →
        w_expression_51 C Q   σ1) ∧
      (¬ (r2 = 0) →
        ((2 : Int32) ≤ a1 →
          w_expression_51 C Q   σ1) ∧
        (¬ ((2 : Int32) ≤ a1) →
          (¬ (a1 = 0) →
            cI C 5 m_behind [.ref (co C)] σ1 (fun r4 σ3 =>
              ∃ k < n, I k r4 σ3)) ∧
          (a1 = 0 →
            cI C 5 m_operand [.ref (co C)] σ1 (fun r6 σ5 =>
              (r6 = 0 →
                ∃ k < n, I k (0 : Int32) σ5) ∧
              (¬ (r6 = 0) →
                ∃ k < n, I k (1 : Int32) σ5))))))
theorem t_expression_12 {C : rCx} (hC : cOK C) {Q : Int32 → rS → Prop}   {a1 : Int32} {σ : rS} (F : w_expression_12 C Q  a1 σ) : wG C 6 m_expression 12 [some (.ref (co C)), some (.int a1)] [] σ (qI Q) := by
  obtain ⟨I, ⟨n0, hI0⟩, F0⟩ := F
  have key : ∀ n a1 σ, I n a1 σ → wG C 6 m_expression 12 [some (.ref (co C)), some (.int a1)] [] σ (qI Q) := by
    intro n
    induction n using Nat.strongRecOn with
    | _ n ih =>
      intro a1 σ hI
      have F := F0 n a1 σ hI
      clear hI hI0
      refine s_aln dX13_expression_12 rfl ?_
      refine k_448 dX13_expression_13 rfl (Nat.le_of_ble_eq_true rfl) (Nat.le_of_ble_eq_true rfl) F (fun r2 σ1 F => ?_)
      refine s_i (t := 51) (r2 = 0) dX13_expression_16 rfl rfl (fun hc => ?_) (fun hc => ?_)
      · replace F := F.1 hc
        exact s_k (t_expression_51 hC  F) ⟨rfl, trivial⟩
      · replace F := F.2 hc
        refine s_iln dX13_expression_19 rfl ?_
        refine s_ic dX13_expression_20 ki_2 ?_
        refine s_ii (t := 51) ((2 : Int32) ≤ a1) dX13_expression_21 rfl rfl (fun hc => ?_) (fun hc => ?_)
        · replace F := F.1 hc
          exact s_k (t_expression_51 hC  F) ⟨rfl, trivial⟩
        · replace F := F.2 hc
          refine s_iln dX13_expression_24 rfl ?_
          refine s_in (t := 43) (a1 = 0) dX13_expression_25 rfl rfl (fun hc => ?_) (fun hc => ?_)
          · replace F := F.1 hc
            refine s_aln dX13_expression_43 rfl ?_
            refine k_481 dX13_expression_44 rfl (Nat.le_of_ble_eq_true rfl) (Nat.le_of_ble_eq_true rfl) F (fun r4 σ3 F => ?_)
            refine s_isn dX13_expression_47 (Nat.le_of_ble_eq_true rfl) rfl ?_
            refine s_goto (t := 12) dX13_expression_48 rfl ?_
            obtain ⟨k, hk, hI⟩ := F
            exact s_k (ih k hk _ _ hI) ⟨rfl, rfl, trivial⟩
          · replace F := F.2 hc
            refine s_aln dX13_expression_28 rfl ?_
            refine k_478 dX13_expression_29 rfl (Nat.le_of_ble_eq_true rfl) (Nat.le_of_ble_eq_true rfl) F (fun r6 σ5 F => ?_)
            refine s_i (t := 39) (r6 = 0) dX13_expression_32 rfl rfl (fun hc => ?_) (fun hc => ?_)
            · replace F := F.1 hc
              refine s_ic dX13_expression_39 ki_0 ?_
              refine s_goto (t := 47) dX13_expression_40 rfl ?_
              refine s_isn dX13_expression_47 (Nat.le_of_ble_eq_true rfl) rfl ?_
              refine s_goto (t := 12) dX13_expression_48 rfl ?_
              obtain ⟨k, hk, hI⟩ := F
              exact s_k (ih k hk _ _ hI) ⟨rfl, rfl, trivial⟩
            · replace F := F.2 hc
              refine s_ic dX13_expression_35 ki_1 ?_
              refine s_goto (t := 47) dX13_expression_36 rfl ?_
              refine s_isn dX13_expression_47 (Nat.le_of_ble_eq_true rfl) rfl ?_
              refine s_goto (t := 12) dX13_expression_48 rfl ?_
              obtain ⟨k, hk, hI⟩ := F
              exact s_k (ih k hk _ _ hI) ⟨rfl, rfl, trivial⟩
  exact key n0 a1 σ hI0

def w_expression_0 (C : rCx) (Q : Int32 → rS → Prop)   (σ : rS) : Prop :=
  ∀ σ1, σ1 = siU σ 48 (0 : Int32) →
  ∀ σ2, σ2 = siU σ1 49 (0 : Int32) →
  w_expression_12 C Q  (0 : Int32) σ2
theorem t_expression_0 {C : rCx} (hC : cOK C) {Q : Int32 → rS → Prop}    {σ : rS} (F : w_expression_0 C Q   σ) : wG C 6 m_expression 0 [some (.ref (co C)), none] [] σ (qI Q) := by
  unfold w_expression_0 at F
  refine s_aln dX13_expression_0 rfl ?_
  refine s_ic dX13_expression_1 ki_0 ?_
  refine pf_425 hC dX13_expression_2 rfl (fun σ1 eσ1 => ?_)
  replace F := F σ1 eσ1
  refine s_aln dX13_expression_5 rfl ?_
  refine s_ic dX13_expression_6 ki_0 ?_
  refine pf_435 hC dX13_expression_7 rfl (fun σ2 eσ2 => ?_)
  replace F := F σ2 eσ2
  refine s_ic dX13_expression_10 ki_0 ?_
  refine s_isn dX13_expression_11 (Nat.le_of_ble_eq_true rfl) rfl ?_
  exact s_k (t_expression_12 hC  F) ⟨rfl, rfl, trivial⟩

theorem m_expression_run {C : rCx} (hC : cOK C) {Q : Int32 → rS → Prop}  {σ : rS} (F : w_expression_0 C Q  σ) : cI C 6 m_expression [.ref (co C)] σ Q := m_I (m_ent _ 1) (t_expression_0 hC F)

theorem dX13_arguments_0 : decode cX13_arguments 0 = .ok (.aload_n 0, 1) := by decide +kernel
theorem dX13_arguments_1 : decode cX13_arguments 1 = .ok (.bipush 40, 2) := by decide +kernel
theorem dX13_arguments_3 : decode cX13_arguments 3 = .ok (.invokevirtual 359, 3) := by decide +kernel
theorem dX13_arguments_6 : decode cX13_arguments 6 = .ok (.aload_n 0, 1) := by decide +kernel
theorem dX13_arguments_7 : decode cX13_arguments 7 = .ok (.invokevirtual 325, 3) := by decide +kernel
theorem dX13_arguments_10 : decode cX13_arguments 10 = .ok (.ifCond .eq 16, 3) := by decide +kernel
theorem dX13_arguments_13 : decode cX13_arguments 13 = .ok (.aload_n 0, 1) := by decide +kernel
theorem dX13_arguments_14 : decode cX13_arguments 14 = .ok (.bipush 41, 2) := by decide +kernel
theorem dX13_arguments_16 : decode cX13_arguments 16 = .ok (.invokevirtual 316, 3) := by decide +kernel
theorem dX13_arguments_19 : decode cX13_arguments 19 = .ok (.ifCond .ne 7, 3) := by decide +kernel
theorem dX13_arguments_22 : decode cX13_arguments 22 = .ok (.iconst 1, 1) := by decide +kernel
theorem dX13_arguments_23 : decode cX13_arguments 23 = .ok (.goto 4, 3) := by decide +kernel
theorem dX13_arguments_26 : decode cX13_arguments 26 = .ok (.iconst 0, 1) := by decide +kernel
theorem dX13_arguments_27 : decode cX13_arguments 27 = .ok (.istore_n 1, 1) := by decide +kernel
theorem dX13_arguments_28 : decode cX13_arguments 28 = .ok (.aload_n 0, 1) := by decide +kernel
theorem dX13_arguments_29 : decode cX13_arguments 29 = .ok (.invokevirtual 325, 3) := by decide +kernel
theorem dX13_arguments_32 : decode cX13_arguments 32 = .ok (.ifCond .eq 45, 3) := by decide +kernel
theorem dX13_arguments_35 : decode cX13_arguments 35 = .ok (.iload_n 1, 1) := by decide +kernel
theorem dX13_arguments_36 : decode cX13_arguments 36 = .ok (.ifCond .eq 41, 3) := by decide +kernel
theorem dX13_arguments_39 : decode cX13_arguments 39 = .ok (.aload_n 0, 1) := by decide +kernel
theorem dX13_arguments_40 : decode cX13_arguments 40 = .ok (.invokevirtual 403, 3) := by decide +kernel
theorem dX13_arguments_43 : decode cX13_arguments 43 = .ok (.pop, 1) := by decide +kernel
theorem dX13_arguments_44 : decode cX13_arguments 44 = .ok (.aload_n 0, 1) := by decide +kernel
theorem dX13_arguments_45 : decode cX13_arguments 45 = .ok (.invokevirtual 325, 3) := by decide +kernel
theorem dX13_arguments_48 : decode cX13_arguments 48 = .ok (.ifCond .eq 16, 3) := by decide +kernel
theorem dX13_arguments_51 : decode cX13_arguments 51 = .ok (.aload_n 0, 1) := by decide +kernel
theorem dX13_arguments_52 : decode cX13_arguments 52 = .ok (.bipush 44, 2) := by decide +kernel
theorem dX13_arguments_54 : decode cX13_arguments 54 = .ok (.invokevirtual 316, 3) := by decide +kernel
theorem dX13_arguments_57 : decode cX13_arguments 57 = .ok (.ifCond .eq 7, 3) := by decide +kernel
theorem dX13_arguments_60 : decode cX13_arguments 60 = .ok (.iconst 1, 1) := by decide +kernel
theorem dX13_arguments_61 : decode cX13_arguments 61 = .ok (.goto 4, 3) := by decide +kernel
theorem dX13_arguments_64 : decode cX13_arguments 64 = .ok (.iconst 0, 1) := by decide +kernel
theorem dX13_arguments_65 : decode cX13_arguments 65 = .ok (.istore_n 1, 1) := by decide +kernel
theorem dX13_arguments_66 : decode cX13_arguments 66 = .ok (.iload_n 1, 1) := by decide +kernel
theorem dX13_arguments_67 : decode cX13_arguments 67 = .ok (.ifCond .eq (-39), 3) := by decide +kernel
theorem dX13_arguments_70 : decode cX13_arguments 70 = .ok (.aload_n 0, 1) := by decide +kernel
theorem dX13_arguments_71 : decode cX13_arguments 71 = .ok (.invokevirtual 319, 3) := by decide +kernel
theorem dX13_arguments_74 : decode cX13_arguments 74 = .ok (.goto (-46), 3) := by decide +kernel
theorem dX13_arguments_77 : decode cX13_arguments 77 = .ok (.aload_n 0, 1) := by decide +kernel
theorem dX13_arguments_78 : decode cX13_arguments 78 = .ok (.bipush 41, 2) := by decide +kernel
theorem dX13_arguments_80 : decode cX13_arguments 80 = .ok (.invokevirtual 366, 3) := by decide +kernel
theorem dX13_arguments_83 : decode cX13_arguments 83 = .ok (.aload_n 0, 1) := by decide +kernel
theorem dX13_arguments_84 : decode cX13_arguments 84 = .ok (.bipush 59, 2) := by decide +kernel
theorem dX13_arguments_86 : decode cX13_arguments 86 = .ok (.invokevirtual 329, 3) := by decide +kernel
theorem dX13_arguments_89 : decode cX13_arguments 89 = .ok (.return_, 1) := by decide +kernel
def w_arguments_65 (C : rCx) (Q : rS → Prop) (B28 : Int32 → rS → Prop) (s0 : Int32) (σ : rS) : Prop :=
  (s0 = 0 →
    B28 s0 σ) ∧
  (¬ (s0 = 0) →
    cV C 2 m_go [.ref (co C)] σ (fun σ1 =>
      B28 s0 σ1))
theorem t_arguments_65 {C : rCx} (hC : cOK C) {Q : rS → Prop} {B28 : Int32 → rS → Prop} (hB28 : ∀ a1' τ, B28 a1' τ → wG C 7 m_arguments 28 [some (.ref (co C)), some (.int a1')] [] τ (qV Q)) {s0 : Int32} {σ : rS} (F : w_arguments_65 C Q B28 s0 σ) : wG C 7 m_arguments 65 [some (.ref (co C)), none] [.int s0] σ (qV Q) := by
  unfold w_arguments_65 at F
  refine s_isn dX13_arguments_65 (Nat.le_of_ble_eq_true rfl) rfl ?_
  refine s_iln dX13_arguments_66 rfl ?_
  refine s_i (t := 28) (s0 = 0) dX13_arguments_67 rfl rfl (fun hc => ?_) (fun hc => ?_)
  · replace F := F.1 hc
    exact s_k (hB28 _ _ F) ⟨rfl, rfl, trivial⟩
  · replace F := F.2 hc
    refine s_aln dX13_arguments_70 rfl ?_
    refine k_319 dX13_arguments_71 rfl (Nat.le_of_ble_eq_true rfl) (Nat.le_of_ble_eq_true rfl) F (fun σ1 F => ?_)
    refine s_goto (t := 28) dX13_arguments_74 rfl ?_
    exact s_k (hB28 _ _ F) ⟨rfl, rfl, trivial⟩

def w_arguments_77 (C : rCx) (Q : rS → Prop)   (σ : rS) : Prop :=
  cV C 4 m_close [.ref (co C), .int (41 : Int32)] σ (fun σ1 =>
    cV C 3 m_sign [.ref (co C), .int (59 : Int32)] σ1 (fun σ3 =>
      Q σ3))
theorem t_arguments_77 {C : rCx} (hC : cOK C) {Q : rS → Prop}    {σ : rS} (F : w_arguments_77 C Q   σ) : wG C 7 m_arguments 77 [some (.ref (co C)), none] [] σ (qV Q) := by
  unfold w_arguments_77 at F
  refine s_aln dX13_arguments_77 rfl ?_
  refine s_bi dX13_arguments_78 kb_41 ?_
  refine k_366 dX13_arguments_80 rfl (Nat.le_of_ble_eq_true rfl) (Nat.le_of_ble_eq_true rfl) F (fun σ1 F => ?_)
  refine s_aln dX13_arguments_83 rfl ?_
  refine s_bi dX13_arguments_84 kb_59 ?_
  refine k_329 dX13_arguments_86 rfl (Nat.le_of_ble_eq_true rfl) (Nat.le_of_ble_eq_true rfl) F (fun σ3 F => ?_)
  exact s_rv dX13_arguments_89 rfl F

def w_arguments_28 (C : rCx) (Q : rS → Prop)  (a1 : Int32) (σ : rS) : Prop :=
  ∃ I : Nat → Int32 → rS → Prop, (∃ n, I n a1 σ) ∧ ∀ n a1 σ, I n a1 σ →
    cI C 0 m_isRight [.ref (co C)] σ (fun r2 σ1 =>
      (r2 = 0 →
        w_arguments_77 C Q   σ1) ∧
      (¬ (r2 = 0) →
        (a1 = 0 →
          w_arguments_77 C Q   σ1) ∧
        (¬ (a1 = 0) →
          cI C 6 m_expression [.ref (co C)] σ1 (fun r4 σ3 =>
            cI C 0 m_isRight [.ref (co C)] σ3 (fun r6 σ5 =>
              (r6 = 0 →
                w_arguments_65 C Q (fun a1' τ => ∃ k < n, I k a1' τ) (0 : Int32) σ5) ∧
              (¬ (r6 = 0) →
                cI C 0 m_isAt [.ref (co C), .int (44 : Int32)] σ5 (fun r8 σ7 =>
                  (r8 = 0 →
                    w_arguments_65 C Q (fun a1' τ => ∃ k < n, I k a1' τ) (0 : Int32) σ7) ∧
                  (¬ (r8 = 0) →
                    w_arguments_65 C Q (fun a1' τ => ∃ k < n, I k a1' τ) (1 : Int32) σ7))))))))
theorem t_arguments_28 {C : rCx} (hC : cOK C) {Q : rS → Prop}   {a1 : Int32} {σ : rS} (F : w_arguments_28 C Q  a1 σ) : wG C 7 m_arguments 28 [some (.ref (co C)), some (.int a1)] [] σ (qV Q) := by
  obtain ⟨I, ⟨n0, hI0⟩, F0⟩ := F
  have key : ∀ n a1 σ, I n a1 σ → wG C 7 m_arguments 28 [some (.ref (co C)), some (.int a1)] [] σ (qV Q) := by
    intro n
    induction n using Nat.strongRecOn with
    | _ n ih =>
      intro a1 σ hI
      have F := F0 n a1 σ hI
      clear hI hI0
      refine s_aln dX13_arguments_28 rfl ?_
      refine k_325 dX13_arguments_29 rfl (Nat.le_of_ble_eq_true rfl) (Nat.le_of_ble_eq_true rfl) F (fun r2 σ1 F => ?_)
      refine s_i (t := 77) (r2 = 0) dX13_arguments_32 rfl rfl (fun hc => ?_) (fun hc => ?_)
      · replace F := F.1 hc
        exact s_k (t_arguments_77 hC  F) ⟨rfl, trivial⟩
      · replace F := F.2 hc
        refine s_iln dX13_arguments_35 rfl ?_
        refine s_i (t := 77) (a1 = 0) dX13_arguments_36 rfl rfl (fun hc => ?_) (fun hc => ?_)
        · replace F := F.1 hc
          exact s_k (t_arguments_77 hC  F) ⟨rfl, trivial⟩
        · replace F := F.2 hc
          refine s_aln dX13_arguments_39 rfl ?_
          refine k_403 dX13_arguments_40 rfl (Nat.le_of_ble_eq_true rfl) (Nat.le_of_ble_eq_true rfl) F (fun r4 σ3 F => ?_)
          refine s_pop dX13_arguments_43 rfl ?_
          refine s_aln dX13_arguments_44 rfl ?_
          refine k_325 dX13_arguments_45 rfl (Nat.le_of_ble_eq_true rfl) (Nat.le_of_ble_eq_true rfl) F (fun r6 σ5 F => ?_)
          refine s_i (t := 64) (r6 = 0) dX13_arguments_48 rfl rfl (fun hc => ?_) (fun hc => ?_)
          · replace F := F.1 hc
            refine s_ic dX13_arguments_64 ki_0 ?_
            exact s_k (t_arguments_65 hC (fun a1' τ hb => by obtain ⟨k, hk, hI⟩ := hb; exact ih k hk a1' τ hI) F) ⟨rfl, trivial⟩
          · replace F := F.2 hc
            refine s_aln dX13_arguments_51 rfl ?_
            refine s_bi dX13_arguments_52 kb_44 ?_
            refine k_316 dX13_arguments_54 rfl (Nat.le_of_ble_eq_true rfl) (Nat.le_of_ble_eq_true rfl) F (fun r8 σ7 F => ?_)
            refine s_i (t := 64) (r8 = 0) dX13_arguments_57 rfl rfl (fun hc => ?_) (fun hc => ?_)
            · replace F := F.1 hc
              refine s_ic dX13_arguments_64 ki_0 ?_
              exact s_k (t_arguments_65 hC (fun a1' τ hb => by obtain ⟨k, hk, hI⟩ := hb; exact ih k hk a1' τ hI) F) ⟨rfl, trivial⟩
            · replace F := F.2 hc
              refine s_ic dX13_arguments_60 ki_1 ?_
              refine s_goto (t := 65) dX13_arguments_61 rfl ?_
              exact s_k (t_arguments_65 hC (fun a1' τ hb => by obtain ⟨k, hk, hI⟩ := hb; exact ih k hk a1' τ hI) F) ⟨rfl, trivial⟩
  exact key n0 a1 σ hI0

def w_arguments_0 (C : rCx) (Q : rS → Prop)   (σ : rS) : Prop :=
  cV C 3 m_open [.ref (co C), .int (40 : Int32)] σ (fun σ1 =>
    cI C 0 m_isRight [.ref (co C)] σ1 (fun r4 σ3 =>
      (r4 = 0 →
        w_arguments_28 C Q  (0 : Int32) σ3) ∧
      (¬ (r4 = 0) →
        cI C 0 m_isAt [.ref (co C), .int (41 : Int32)] σ3 (fun r6 σ5 =>
          (¬ (r6 = 0) →
            w_arguments_28 C Q  (0 : Int32) σ5) ∧
          (r6 = 0 →
            w_arguments_28 C Q  (1 : Int32) σ5)))))
theorem t_arguments_0 {C : rCx} (hC : cOK C) {Q : rS → Prop}    {σ : rS} (F : w_arguments_0 C Q   σ) : wG C 7 m_arguments 0 [some (.ref (co C)), none] [] σ (qV Q) := by
  unfold w_arguments_0 at F
  refine s_aln dX13_arguments_0 rfl ?_
  refine s_bi dX13_arguments_1 kb_40 ?_
  refine k_359 dX13_arguments_3 rfl (Nat.le_of_ble_eq_true rfl) (Nat.le_of_ble_eq_true rfl) F (fun σ1 F => ?_)
  refine s_aln dX13_arguments_6 rfl ?_
  refine k_325 dX13_arguments_7 rfl (Nat.le_of_ble_eq_true rfl) (Nat.le_of_ble_eq_true rfl) F (fun r4 σ3 F => ?_)
  refine s_i (t := 26) (r4 = 0) dX13_arguments_10 rfl rfl (fun hc => ?_) (fun hc => ?_)
  · replace F := F.1 hc
    refine s_ic dX13_arguments_26 ki_0 ?_
    refine s_isn dX13_arguments_27 (Nat.le_of_ble_eq_true rfl) rfl ?_
    exact s_k (t_arguments_28 hC  F) ⟨rfl, rfl, trivial⟩
  · replace F := F.2 hc
    refine s_aln dX13_arguments_13 rfl ?_
    refine s_bi dX13_arguments_14 kb_41 ?_
    refine k_316 dX13_arguments_16 rfl (Nat.le_of_ble_eq_true rfl) (Nat.le_of_ble_eq_true rfl) F (fun r6 σ5 F => ?_)
    refine s_in (t := 26) (r6 = 0) dX13_arguments_19 rfl rfl (fun hc => ?_) (fun hc => ?_)
    · replace F := F.1 hc
      refine s_ic dX13_arguments_26 ki_0 ?_
      refine s_isn dX13_arguments_27 (Nat.le_of_ble_eq_true rfl) rfl ?_
      exact s_k (t_arguments_28 hC  F) ⟨rfl, rfl, trivial⟩
    · replace F := F.2 hc
      refine s_ic dX13_arguments_22 ki_1 ?_
      refine s_goto (t := 27) dX13_arguments_23 rfl ?_
      refine s_isn dX13_arguments_27 (Nat.le_of_ble_eq_true rfl) rfl ?_
      exact s_k (t_arguments_28 hC  F) ⟨rfl, rfl, trivial⟩

theorem m_arguments_run {C : rCx} (hC : cOK C) {Q : rS → Prop}  {σ : rS} (F : w_arguments_0 C Q  σ) : cV C 7 m_arguments [.ref (co C)] σ Q := m_V (m_ent _ 1) (t_arguments_0 hC F)

theorem dX13_tellDraw_0 : decode cX13_tellDraw 0 = .ok (.aload_n 0, 1) := by decide +kernel
theorem dX13_tellDraw_1 : decode cX13_tellDraw 1 = .ok (.bipush 11, 2) := by decide +kernel
theorem dX13_tellDraw_3 : decode cX13_tellDraw 3 = .ok (.invokevirtual 391, 3) := by decide +kernel
theorem dX13_tellDraw_6 : decode cX13_tellDraw 6 = .ok (.ifCond .ne 12, 3) := by decide +kernel
theorem dX13_tellDraw_9 : decode cX13_tellDraw 9 = .ok (.aload_n 0, 1) := by decide +kernel
theorem dX13_tellDraw_10 : decode cX13_tellDraw 10 = .ok (.bipush 12, 2) := by decide +kernel
theorem dX13_tellDraw_12 : decode cX13_tellDraw 12 = .ok (.invokevirtual 391, 3) := by decide +kernel
theorem dX13_tellDraw_15 : decode cX13_tellDraw 15 = .ok (.ifCond .eq 49, 3) := by decide +kernel
theorem dX13_tellDraw_18 : decode cX13_tellDraw 18 = .ok (.aload_n 0, 1) := by decide +kernel
theorem dX13_tellDraw_19 : decode cX13_tellDraw 19 = .ok (.bipush 12, 2) := by decide +kernel
theorem dX13_tellDraw_21 : decode cX13_tellDraw 21 = .ok (.invokevirtual 391, 3) := by decide +kernel
theorem dX13_tellDraw_24 : decode cX13_tellDraw 24 = .ok (.istore_n 1, 1) := by decide +kernel
theorem dX13_tellDraw_25 : decode cX13_tellDraw 25 = .ok (.aload_n 0, 1) := by decide +kernel
theorem dX13_tellDraw_26 : decode cX13_tellDraw 26 = .ok (.invokevirtual 319, 3) := by decide +kernel
theorem dX13_tellDraw_29 : decode cX13_tellDraw 29 = .ok (.aload_n 0, 1) := by decide +kernel
theorem dX13_tellDraw_30 : decode cX13_tellDraw 30 = .ok (.bipush 40, 2) := by decide +kernel
theorem dX13_tellDraw_32 : decode cX13_tellDraw 32 = .ok (.invokevirtual 359, 3) := by decide +kernel
theorem dX13_tellDraw_35 : decode cX13_tellDraw 35 = .ok (.aload_n 0, 1) := by decide +kernel
theorem dX13_tellDraw_36 : decode cX13_tellDraw 36 = .ok (.invokevirtual 403, 3) := by decide +kernel
theorem dX13_tellDraw_39 : decode cX13_tellDraw 39 = .ok (.pop, 1) := by decide +kernel
theorem dX13_tellDraw_40 : decode cX13_tellDraw 40 = .ok (.iload_n 1, 1) := by decide +kernel
theorem dX13_tellDraw_41 : decode cX13_tellDraw 41 = .ok (.ifCond .eq 14, 3) := by decide +kernel
theorem dX13_tellDraw_44 : decode cX13_tellDraw 44 = .ok (.aload_n 0, 1) := by decide +kernel
theorem dX13_tellDraw_45 : decode cX13_tellDraw 45 = .ok (.bipush 44, 2) := by decide +kernel
theorem dX13_tellDraw_47 : decode cX13_tellDraw 47 = .ok (.invokevirtual 329, 3) := by decide +kernel
theorem dX13_tellDraw_50 : decode cX13_tellDraw 50 = .ok (.aload_n 0, 1) := by decide +kernel
theorem dX13_tellDraw_51 : decode cX13_tellDraw 51 = .ok (.invokevirtual 403, 3) := by decide +kernel
theorem dX13_tellDraw_54 : decode cX13_tellDraw 54 = .ok (.pop, 1) := by decide +kernel
theorem dX13_tellDraw_55 : decode cX13_tellDraw 55 = .ok (.aload_n 0, 1) := by decide +kernel
theorem dX13_tellDraw_56 : decode cX13_tellDraw 56 = .ok (.bipush 41, 2) := by decide +kernel
theorem dX13_tellDraw_58 : decode cX13_tellDraw 58 = .ok (.invokevirtual 366, 3) := by decide +kernel
theorem dX13_tellDraw_61 : decode cX13_tellDraw 61 = .ok (.goto 117, 3) := by decide +kernel
theorem dX13_tellDraw_64 : decode cX13_tellDraw 64 = .ok (.aload_n 0, 1) := by decide +kernel
theorem dX13_tellDraw_65 : decode cX13_tellDraw 65 = .ok (.bipush 123, 2) := by decide +kernel
theorem dX13_tellDraw_67 : decode cX13_tellDraw 67 = .ok (.invokevirtual 359, 3) := by decide +kernel
theorem dX13_tellDraw_70 : decode cX13_tellDraw 70 = .ok (.iconst 0, 1) := by decide +kernel
theorem dX13_tellDraw_71 : decode cX13_tellDraw 71 = .ok (.istore_n 1, 1) := by decide +kernel
theorem dX13_tellDraw_72 : decode cX13_tellDraw 72 = .ok (.aload_n 0, 1) := by decide +kernel
theorem dX13_tellDraw_73 : decode cX13_tellDraw 73 = .ok (.invokevirtual 325, 3) := by decide +kernel
theorem dX13_tellDraw_76 : decode cX13_tellDraw 76 = .ok (.istore_n 2, 1) := by decide +kernel
theorem dX13_tellDraw_77 : decode cX13_tellDraw 77 = .ok (.aload_n 0, 1) := by decide +kernel
theorem dX13_tellDraw_78 : decode cX13_tellDraw 78 = .ok (.invokevirtual 325, 3) := by decide +kernel
theorem dX13_tellDraw_81 : decode cX13_tellDraw 81 = .ok (.ifCond .eq 91, 3) := by decide +kernel
theorem dX13_tellDraw_84 : decode cX13_tellDraw 84 = .ok (.iload_n 2, 1) := by decide +kernel
theorem dX13_tellDraw_85 : decode cX13_tellDraw 85 = .ok (.ifCond .eq 87, 3) := by decide +kernel
theorem dX13_tellDraw_88 : decode cX13_tellDraw 88 = .ok (.aload_n 0, 1) := by decide +kernel
theorem dX13_tellDraw_89 : decode cX13_tellDraw 89 = .ok (.invokevirtual 403, 3) := by decide +kernel
theorem dX13_tellDraw_92 : decode cX13_tellDraw 92 = .ok (.pop, 1) := by decide +kernel
theorem dX13_tellDraw_93 : decode cX13_tellDraw 93 = .ok (.aload_n 0, 1) := by decide +kernel
theorem dX13_tellDraw_94 : decode cX13_tellDraw 94 = .ok (.invokevirtual 325, 3) := by decide +kernel
theorem dX13_tellDraw_97 : decode cX13_tellDraw 97 = .ok (.ifCond .eq 28, 3) := by decide +kernel
theorem dX13_tellDraw_100 : decode cX13_tellDraw 100 = .ok (.aload_n 0, 1) := by decide +kernel
theorem dX13_tellDraw_101 : decode cX13_tellDraw 101 = .ok (.bipush 58, 2) := by decide +kernel
theorem dX13_tellDraw_103 : decode cX13_tellDraw 103 = .ok (.invokevirtual 316, 3) := by decide +kernel
theorem dX13_tellDraw_106 : decode cX13_tellDraw 106 = .ok (.ifCond .eq 19, 3) := by decide +kernel
theorem dX13_tellDraw_109 : decode cX13_tellDraw 109 = .ok (.iload_n 1, 1) := by decide +kernel
theorem dX13_tellDraw_110 : decode cX13_tellDraw 110 = .ok (.bipush 8, 2) := by decide +kernel
theorem dX13_tellDraw_112 : decode cX13_tellDraw 112 = .ok (.if_icmp .ne 13, 3) := by decide +kernel
theorem dX13_tellDraw_115 : decode cX13_tellDraw 115 = .ok (.aload_n 0, 1) := by decide +kernel
theorem dX13_tellDraw_116 : decode cX13_tellDraw 116 = .ok (.bipush 15, 2) := by decide +kernel
theorem dX13_tellDraw_118 : decode cX13_tellDraw 118 = .ok (.aload_n 0, 1) := by decide +kernel
theorem dX13_tellDraw_119 : decode cX13_tellDraw 119 = .ok (.getfield 306, 3) := by decide +kernel
theorem dX13_tellDraw_122 : decode cX13_tellDraw 122 = .ok (.invokevirtual 312, 3) := by decide +kernel
theorem dX13_tellDraw_125 : decode cX13_tellDraw 125 = .ok (.aload_n 0, 1) := by decide +kernel
theorem dX13_tellDraw_126 : decode cX13_tellDraw 126 = .ok (.bipush 58, 2) := by decide +kernel
theorem dX13_tellDraw_128 : decode cX13_tellDraw 128 = .ok (.invokevirtual 329, 3) := by decide +kernel
theorem dX13_tellDraw_131 : decode cX13_tellDraw 131 = .ok (.aload_n 0, 1) := by decide +kernel
theorem dX13_tellDraw_132 : decode cX13_tellDraw 132 = .ok (.invokevirtual 403, 3) := by decide +kernel
theorem dX13_tellDraw_135 : decode cX13_tellDraw 135 = .ok (.pop, 1) := by decide +kernel
theorem dX13_tellDraw_136 : decode cX13_tellDraw 136 = .ok (.iinc 1 1, 3) := by decide +kernel
theorem dX13_tellDraw_139 : decode cX13_tellDraw 139 = .ok (.aload_n 0, 1) := by decide +kernel
theorem dX13_tellDraw_140 : decode cX13_tellDraw 140 = .ok (.invokevirtual 325, 3) := by decide +kernel
theorem dX13_tellDraw_143 : decode cX13_tellDraw 143 = .ok (.ifCond .eq 16, 3) := by decide +kernel
theorem dX13_tellDraw_146 : decode cX13_tellDraw 146 = .ok (.aload_n 0, 1) := by decide +kernel
theorem dX13_tellDraw_147 : decode cX13_tellDraw 147 = .ok (.bipush 44, 2) := by decide +kernel
theorem dX13_tellDraw_149 : decode cX13_tellDraw 149 = .ok (.invokevirtual 316, 3) := by decide +kernel
theorem dX13_tellDraw_152 : decode cX13_tellDraw 152 = .ok (.ifCond .eq 7, 3) := by decide +kernel
theorem dX13_tellDraw_155 : decode cX13_tellDraw 155 = .ok (.iconst 1, 1) := by decide +kernel
theorem dX13_tellDraw_156 : decode cX13_tellDraw 156 = .ok (.goto 4, 3) := by decide +kernel
theorem dX13_tellDraw_159 : decode cX13_tellDraw 159 = .ok (.iconst 0, 1) := by decide +kernel
theorem dX13_tellDraw_160 : decode cX13_tellDraw 160 = .ok (.istore_n 2, 1) := by decide +kernel
theorem dX13_tellDraw_161 : decode cX13_tellDraw 161 = .ok (.iload_n 2, 1) := by decide +kernel
theorem dX13_tellDraw_162 : decode cX13_tellDraw 162 = .ok (.ifCond .eq (-85), 3) := by decide +kernel
theorem dX13_tellDraw_165 : decode cX13_tellDraw 165 = .ok (.aload_n 0, 1) := by decide +kernel
theorem dX13_tellDraw_166 : decode cX13_tellDraw 166 = .ok (.invokevirtual 319, 3) := by decide +kernel
theorem dX13_tellDraw_169 : decode cX13_tellDraw 169 = .ok (.goto (-92), 3) := by decide +kernel
theorem dX13_tellDraw_172 : decode cX13_tellDraw 172 = .ok (.aload_n 0, 1) := by decide +kernel
theorem dX13_tellDraw_173 : decode cX13_tellDraw 173 = .ok (.bipush 125, 2) := by decide +kernel
theorem dX13_tellDraw_175 : decode cX13_tellDraw 175 = .ok (.invokevirtual 366, 3) := by decide +kernel
theorem dX13_tellDraw_178 : decode cX13_tellDraw 178 = .ok (.aload_n 0, 1) := by decide +kernel
theorem dX13_tellDraw_179 : decode cX13_tellDraw 179 = .ok (.bipush 59, 2) := by decide +kernel
theorem dX13_tellDraw_181 : decode cX13_tellDraw 181 = .ok (.invokevirtual 329, 3) := by decide +kernel
theorem dX13_tellDraw_184 : decode cX13_tellDraw 184 = .ok (.return_, 1) := by decide +kernel
def w_tellDraw_55 (C : rCx) (Q : rS → Prop)   (σ : rS) : Prop :=
  cV C 4 m_close [.ref (co C), .int (41 : Int32)] σ (fun σ1 =>
    cV C 3 m_sign [.ref (co C), .int (59 : Int32)] σ1 (fun σ3 =>
      Q σ3))
theorem t_tellDraw_55 {C : rCx} (hC : cOK C) {Q : rS → Prop}    {σ : rS} (F : w_tellDraw_55 C Q   σ) : wG C 7 m_tellDraw 55 [some (.ref (co C)), none, none] [] σ (qV Q) := by
  unfold w_tellDraw_55 at F
  refine s_aln dX13_tellDraw_55 rfl ?_
  refine s_bi dX13_tellDraw_56 kb_41 ?_
  refine k_366 dX13_tellDraw_58 rfl (Nat.le_of_ble_eq_true rfl) (Nat.le_of_ble_eq_true rfl) F (fun σ1 F => ?_)
  refine s_goto (t := 178) dX13_tellDraw_61 rfl ?_
  refine s_aln dX13_tellDraw_178 rfl ?_
  refine s_bi dX13_tellDraw_179 kb_59 ?_
  refine k_329 dX13_tellDraw_181 rfl (Nat.le_of_ble_eq_true rfl) (Nat.le_of_ble_eq_true rfl) F (fun σ3 F => ?_)
  exact s_rv dX13_tellDraw_184 rfl F

def w_tellDraw_18 (C : rCx) (Q : rS → Prop)   (σ : rS) : Prop :=
  cI C 0 m_isWord [.ref (co C), .int (12 : Int32)] σ (fun r2 σ1 =>
    cV C 2 m_go [.ref (co C)] σ1 (fun σ3 =>
      cV C 3 m_open [.ref (co C), .int (40 : Int32)] σ3 (fun σ5 =>
        cI C 6 m_expression [.ref (co C)] σ5 (fun r8 σ7 =>
          (r2 = 0 →
            w_tellDraw_55 C Q   σ7) ∧
          (¬ (r2 = 0) →
            cV C 3 m_sign [.ref (co C), .int (44 : Int32)] σ7 (fun σ9 =>
              cI C 6 m_expression [.ref (co C)] σ9 (fun r12 σ11 =>
                w_tellDraw_55 C Q   σ11)))))))
theorem t_tellDraw_18 {C : rCx} (hC : cOK C) {Q : rS → Prop}    {σ : rS} (F : w_tellDraw_18 C Q   σ) : wG C 7 m_tellDraw 18 [some (.ref (co C)), none, none] [] σ (qV Q) := by
  unfold w_tellDraw_18 at F
  refine s_aln dX13_tellDraw_18 rfl ?_
  refine s_bi dX13_tellDraw_19 kb_12 ?_
  refine k_391 dX13_tellDraw_21 rfl (Nat.le_of_ble_eq_true rfl) (Nat.le_of_ble_eq_true rfl) F (fun r2 σ1 F => ?_)
  refine s_isn dX13_tellDraw_24 (Nat.le_of_ble_eq_true rfl) rfl ?_
  refine s_aln dX13_tellDraw_25 rfl ?_
  refine k_319 dX13_tellDraw_26 rfl (Nat.le_of_ble_eq_true rfl) (Nat.le_of_ble_eq_true rfl) F (fun σ3 F => ?_)
  refine s_aln dX13_tellDraw_29 rfl ?_
  refine s_bi dX13_tellDraw_30 kb_40 ?_
  refine k_359 dX13_tellDraw_32 rfl (Nat.le_of_ble_eq_true rfl) (Nat.le_of_ble_eq_true rfl) F (fun σ5 F => ?_)
  refine s_aln dX13_tellDraw_35 rfl ?_
  refine k_403 dX13_tellDraw_36 rfl (Nat.le_of_ble_eq_true rfl) (Nat.le_of_ble_eq_true rfl) F (fun r8 σ7 F => ?_)
  refine s_pop dX13_tellDraw_39 rfl ?_
  refine s_iln dX13_tellDraw_40 rfl ?_
  refine s_i (t := 55) (r2 = 0) dX13_tellDraw_41 rfl rfl (fun hc => ?_) (fun hc => ?_)
  · replace F := F.1 hc
    exact s_k (t_tellDraw_55 hC  F) ⟨rfl, trivial⟩
  · replace F := F.2 hc
    refine s_aln dX13_tellDraw_44 rfl ?_
    refine s_bi dX13_tellDraw_45 kb_44 ?_
    refine k_329 dX13_tellDraw_47 rfl (Nat.le_of_ble_eq_true rfl) (Nat.le_of_ble_eq_true rfl) F (fun σ9 F => ?_)
    refine s_aln dX13_tellDraw_50 rfl ?_
    refine k_403 dX13_tellDraw_51 rfl (Nat.le_of_ble_eq_true rfl) (Nat.le_of_ble_eq_true rfl) F (fun r12 σ11 F => ?_)
    refine s_pop dX13_tellDraw_54 rfl ?_
    exact s_k (t_tellDraw_55 hC  F) ⟨rfl, trivial⟩

def w_tellDraw_160 (C : rCx) (Q : rS → Prop) (B77 : Int32 → Int32 → rS → Prop) (a1 : Int32) (s0 : Int32) (σ : rS) : Prop :=
  (s0 = 0 →
    B77 a1 s0 σ) ∧
  (¬ (s0 = 0) →
    cV C 2 m_go [.ref (co C)] σ (fun σ1 =>
      B77 a1 s0 σ1))
theorem t_tellDraw_160 {C : rCx} (hC : cOK C) {Q : rS → Prop} {B77 : Int32 → Int32 → rS → Prop} (hB77 : ∀ a1' a2' τ, B77 a1' a2' τ → wG C 7 m_tellDraw 77 [some (.ref (co C)), some (.int a1'), some (.int a2')] [] τ (qV Q)) {a1 : Int32} {s0 : Int32} {σ : rS} (F : w_tellDraw_160 C Q B77 a1 s0 σ) : wG C 7 m_tellDraw 160 [some (.ref (co C)), some (.int a1), none] [.int s0] σ (qV Q) := by
  unfold w_tellDraw_160 at F
  refine s_isn dX13_tellDraw_160 (Nat.le_of_ble_eq_true rfl) rfl ?_
  refine s_iln dX13_tellDraw_161 rfl ?_
  refine s_i (t := 77) (s0 = 0) dX13_tellDraw_162 rfl rfl (fun hc => ?_) (fun hc => ?_)
  · replace F := F.1 hc
    exact s_k (hB77 _ _ _ F) ⟨rfl, rfl, rfl, trivial⟩
  · replace F := F.2 hc
    refine s_aln dX13_tellDraw_165 rfl ?_
    refine k_319 dX13_tellDraw_166 rfl (Nat.le_of_ble_eq_true rfl) (Nat.le_of_ble_eq_true rfl) F (fun σ1 F => ?_)
    refine s_goto (t := 77) dX13_tellDraw_169 rfl ?_
    exact s_k (hB77 _ _ _ F) ⟨rfl, rfl, rfl, trivial⟩

def w_tellDraw_125 (C : rCx) (Q : rS → Prop) (B77 : Int32 → Int32 → rS → Prop) (a1 : Int32) (σ : rS) : Prop :=
  cV C 3 m_sign [.ref (co C), .int (58 : Int32)] σ (fun σ1 =>
    cI C 6 m_expression [.ref (co C)] σ1 (fun r4 σ3 =>
      ∀ v1_5 : Int32, v1_5 = a1 + (1 : Int32) →
      cI C 0 m_isRight [.ref (co C)] σ3 (fun r7 σ6 =>
        (r7 = 0 →
          w_tellDraw_160 C Q B77 v1_5 (0 : Int32) σ6) ∧
        (¬ (r7 = 0) →
          cI C 0 m_isAt [.ref (co C), .int (44 : Int32)] σ6 (fun r9 σ8 =>
            (r9 = 0 →
              w_tellDraw_160 C Q B77 v1_5 (0 : Int32) σ8) ∧
            (¬ (r9 = 0) →
              w_tellDraw_160 C Q B77 v1_5 (1 : Int32) σ8))))))
theorem t_tellDraw_125 {C : rCx} (hC : cOK C) {Q : rS → Prop} {B77 : Int32 → Int32 → rS → Prop} (hB77 : ∀ a1' a2' τ, B77 a1' a2' τ → wG C 7 m_tellDraw 77 [some (.ref (co C)), some (.int a1'), some (.int a2')] [] τ (qV Q)) {a1 : Int32} {σ : rS} (F : w_tellDraw_125 C Q B77 a1 σ) : wG C 7 m_tellDraw 125 [some (.ref (co C)), some (.int a1), none] [] σ (qV Q) := by
  unfold w_tellDraw_125 at F
  refine s_aln dX13_tellDraw_125 rfl ?_
  refine s_bi dX13_tellDraw_126 kb_58 ?_
  refine k_329 dX13_tellDraw_128 rfl (Nat.le_of_ble_eq_true rfl) (Nat.le_of_ble_eq_true rfl) F (fun σ1 F => ?_)
  refine s_aln dX13_tellDraw_131 rfl ?_
  refine k_403 dX13_tellDraw_132 rfl (Nat.le_of_ble_eq_true rfl) (Nat.le_of_ble_eq_true rfl) F (fun r4 σ3 F => ?_)
  refine s_pop dX13_tellDraw_135 rfl ?_
  refine s_incb dX13_tellDraw_136 ki_1 rfl (Nat.le_of_ble_eq_true rfl) (fun v1_5 ev1_5 => ?_)
  replace F := F v1_5 ev1_5
  refine s_aln dX13_tellDraw_139 rfl ?_
  refine k_325 dX13_tellDraw_140 rfl (Nat.le_of_ble_eq_true rfl) (Nat.le_of_ble_eq_true rfl) F (fun r7 σ6 F => ?_)
  refine s_i (t := 159) (r7 = 0) dX13_tellDraw_143 rfl rfl (fun hc => ?_) (fun hc => ?_)
  · replace F := F.1 hc
    refine s_ic dX13_tellDraw_159 ki_0 ?_
    exact s_k (t_tellDraw_160 hC hB77 F) ⟨rfl, rfl, trivial⟩
  · replace F := F.2 hc
    refine s_aln dX13_tellDraw_146 rfl ?_
    refine s_bi dX13_tellDraw_147 kb_44 ?_
    refine k_316 dX13_tellDraw_149 rfl (Nat.le_of_ble_eq_true rfl) (Nat.le_of_ble_eq_true rfl) F (fun r9 σ8 F => ?_)
    refine s_i (t := 159) (r9 = 0) dX13_tellDraw_152 rfl rfl (fun hc => ?_) (fun hc => ?_)
    · replace F := F.1 hc
      refine s_ic dX13_tellDraw_159 ki_0 ?_
      exact s_k (t_tellDraw_160 hC hB77 F) ⟨rfl, rfl, trivial⟩
    · replace F := F.2 hc
      refine s_ic dX13_tellDraw_155 ki_1 ?_
      refine s_goto (t := 160) dX13_tellDraw_156 rfl ?_
      exact s_k (t_tellDraw_160 hC hB77 F) ⟨rfl, rfl, trivial⟩

def w_tellDraw_172 (C : rCx) (Q : rS → Prop)   (σ : rS) : Prop :=
  cV C 4 m_close [.ref (co C), .int (125 : Int32)] σ (fun σ1 =>
    cV C 3 m_sign [.ref (co C), .int (59 : Int32)] σ1 (fun σ3 =>
      Q σ3))
theorem t_tellDraw_172 {C : rCx} (hC : cOK C) {Q : rS → Prop}    {σ : rS} (F : w_tellDraw_172 C Q   σ) : wG C 7 m_tellDraw 172 [some (.ref (co C)), none, none] [] σ (qV Q) := by
  unfold w_tellDraw_172 at F
  refine s_aln dX13_tellDraw_172 rfl ?_
  refine s_bi dX13_tellDraw_173 kb_125 ?_
  refine k_366 dX13_tellDraw_175 rfl (Nat.le_of_ble_eq_true rfl) (Nat.le_of_ble_eq_true rfl) F (fun σ1 F => ?_)
  refine s_aln dX13_tellDraw_178 rfl ?_
  refine s_bi dX13_tellDraw_179 kb_59 ?_
  refine k_329 dX13_tellDraw_181 rfl (Nat.le_of_ble_eq_true rfl) (Nat.le_of_ble_eq_true rfl) F (fun σ3 F => ?_)
  exact s_rv dX13_tellDraw_184 rfl F

def w_tellDraw_77 (C : rCx) (Q : rS → Prop)  (a1 : Int32) (a2 : Int32) (σ : rS) : Prop :=
  ∃ I : Nat → Int32 → Int32 → rS → Prop, (∃ n, I n a1 a2 σ) ∧ ∀ n a1 a2 σ, I n a1 a2 σ →
    cI C 0 m_isRight [.ref (co C)] σ (fun r2 σ1 =>
      (r2 = 0 →
        w_tellDraw_172 C Q   σ1) ∧
      (¬ (r2 = 0) →
        (a2 = 0 →
          w_tellDraw_172 C Q   σ1) ∧
        (¬ (a2 = 0) →
          cI C 6 m_expression [.ref (co C)] σ1 (fun r4 σ3 =>
            cI C 0 m_isRight [.ref (co C)] σ3 (fun r6 σ5 =>
              (r6 = 0 →
                w_tellDraw_125 C Q (fun a1' a2' τ => ∃ k < n, I k a1' a2' τ) a1 σ5) ∧
              (¬ (r6 = 0) →
                cI C 0 m_isAt [.ref (co C), .int (58 : Int32)] σ5 (fun r8 σ7 =>
                  (r8 = 0 →
                    w_tellDraw_125 C Q (fun a1' a2' τ => ∃ k < n, I k a1' a2' τ) a1 σ7) ∧
                  (¬ (r8 = 0) →
                    (¬ (a1 = (8 : Int32)) →
                      w_tellDraw_125 C Q (fun a1' a2' τ => ∃ k < n, I k a1' a2' τ) a1 σ7) ∧
                    (a1 = (8 : Int32) →
                      cV C 0 m_flaw [.ref (co C), .int (15 : Int32), .int (σ7.1 10)] σ7 (fun σ9 =>
                        w_tellDraw_125 C Q (fun a1' a2' τ => ∃ k < n, I k a1' a2' τ) a1 σ9))))))))))
theorem t_tellDraw_77 {C : rCx} (hC : cOK C) {Q : rS → Prop}   {a1 : Int32} {a2 : Int32} {σ : rS} (F : w_tellDraw_77 C Q  a1 a2 σ) : wG C 7 m_tellDraw 77 [some (.ref (co C)), some (.int a1), some (.int a2)] [] σ (qV Q) := by
  obtain ⟨I, ⟨n0, hI0⟩, F0⟩ := F
  have key : ∀ n a1 a2 σ, I n a1 a2 σ → wG C 7 m_tellDraw 77 [some (.ref (co C)), some (.int a1), some (.int a2)] [] σ (qV Q) := by
    intro n
    induction n using Nat.strongRecOn with
    | _ n ih =>
      intro a1 a2 σ hI
      have F := F0 n a1 a2 σ hI
      clear hI hI0
      refine s_aln dX13_tellDraw_77 rfl ?_
      refine k_325 dX13_tellDraw_78 rfl (Nat.le_of_ble_eq_true rfl) (Nat.le_of_ble_eq_true rfl) F (fun r2 σ1 F => ?_)
      refine s_i (t := 172) (r2 = 0) dX13_tellDraw_81 rfl rfl (fun hc => ?_) (fun hc => ?_)
      · replace F := F.1 hc
        exact s_k (t_tellDraw_172 hC  F) ⟨rfl, trivial⟩
      · replace F := F.2 hc
        refine s_iln dX13_tellDraw_84 rfl ?_
        refine s_i (t := 172) (a2 = 0) dX13_tellDraw_85 rfl rfl (fun hc => ?_) (fun hc => ?_)
        · replace F := F.1 hc
          exact s_k (t_tellDraw_172 hC  F) ⟨rfl, trivial⟩
        · replace F := F.2 hc
          refine s_aln dX13_tellDraw_88 rfl ?_
          refine k_403 dX13_tellDraw_89 rfl (Nat.le_of_ble_eq_true rfl) (Nat.le_of_ble_eq_true rfl) F (fun r4 σ3 F => ?_)
          refine s_pop dX13_tellDraw_92 rfl ?_
          refine s_aln dX13_tellDraw_93 rfl ?_
          refine k_325 dX13_tellDraw_94 rfl (Nat.le_of_ble_eq_true rfl) (Nat.le_of_ble_eq_true rfl) F (fun r6 σ5 F => ?_)
          refine s_i (t := 125) (r6 = 0) dX13_tellDraw_97 rfl rfl (fun hc => ?_) (fun hc => ?_)
          · replace F := F.1 hc
            exact s_k (t_tellDraw_125 hC (fun a1' a2' τ hb => by obtain ⟨k, hk, hI⟩ := hb; exact ih k hk a1' a2' τ hI) F) ⟨rfl, rfl, trivial⟩
          · replace F := F.2 hc
            refine s_aln dX13_tellDraw_100 rfl ?_
            refine s_bi dX13_tellDraw_101 kb_58 ?_
            refine k_316 dX13_tellDraw_103 rfl (Nat.le_of_ble_eq_true rfl) (Nat.le_of_ble_eq_true rfl) F (fun r8 σ7 F => ?_)
            refine s_i (t := 125) (r8 = 0) dX13_tellDraw_106 rfl rfl (fun hc => ?_) (fun hc => ?_)
            · replace F := F.1 hc
              exact s_k (t_tellDraw_125 hC (fun a1' a2' τ hb => by obtain ⟨k, hk, hI⟩ := hb; exact ih k hk a1' a2' τ hI) F) ⟨rfl, rfl, trivial⟩
            · replace F := F.2 hc
              refine s_iln dX13_tellDraw_109 rfl ?_
              refine s_bi dX13_tellDraw_110 kb_8 ?_
              refine s_iin (t := 125) (a1 = (8 : Int32)) dX13_tellDraw_112 rfl rfl (fun hc => ?_) (fun hc => ?_)
              · replace F := F.1 hc
                exact s_k (t_tellDraw_125 hC (fun a1' a2' τ hb => by obtain ⟨k, hk, hI⟩ := hb; exact ih k hk a1' a2' τ hI) F) ⟨rfl, rfl, trivial⟩
              · replace F := F.2 hc
                refine s_aln dX13_tellDraw_115 rfl ?_
                refine s_bi dX13_tellDraw_116 kb_15 ?_
                refine s_aln dX13_tellDraw_118 rfl ?_
                refine gf_306 dX13_tellDraw_119 rfl ?_
                refine k_312 dX13_tellDraw_122 rfl (Nat.le_of_ble_eq_true rfl) (Nat.le_of_ble_eq_true rfl) F (fun σ9 F => ?_)
                exact s_k (t_tellDraw_125 hC (fun a1' a2' τ hb => by obtain ⟨k, hk, hI⟩ := hb; exact ih k hk a1' a2' τ hI) F) ⟨rfl, rfl, trivial⟩
  exact key n0 a1 a2 σ hI0

def w_tellDraw_0 (C : rCx) (Q : rS → Prop)   (σ : rS) : Prop :=
  cI C 0 m_isWord [.ref (co C), .int (11 : Int32)] σ (fun r2 σ1 =>
    (¬ (r2 = 0) →
      w_tellDraw_18 C Q   σ1) ∧
    (r2 = 0 →
      cI C 0 m_isWord [.ref (co C), .int (12 : Int32)] σ1 (fun r4 σ3 =>
        (r4 = 0 →
          cV C 3 m_open [.ref (co C), .int (123 : Int32)] σ3 (fun σ5 =>
            cI C 0 m_isRight [.ref (co C)] σ5 (fun r8 σ7 =>
              w_tellDraw_77 C Q  (0 : Int32) r8 σ7))) ∧
        (¬ (r4 = 0) →
          w_tellDraw_18 C Q   σ3))))
theorem t_tellDraw_0 {C : rCx} (hC : cOK C) {Q : rS → Prop}    {σ : rS} (F : w_tellDraw_0 C Q   σ) : wG C 7 m_tellDraw 0 [some (.ref (co C)), none, none] [] σ (qV Q) := by
  unfold w_tellDraw_0 at F
  refine s_aln dX13_tellDraw_0 rfl ?_
  refine s_bi dX13_tellDraw_1 kb_11 ?_
  refine k_391 dX13_tellDraw_3 rfl (Nat.le_of_ble_eq_true rfl) (Nat.le_of_ble_eq_true rfl) F (fun r2 σ1 F => ?_)
  refine s_in (t := 18) (r2 = 0) dX13_tellDraw_6 rfl rfl (fun hc => ?_) (fun hc => ?_)
  · replace F := F.1 hc
    exact s_k (t_tellDraw_18 hC  F) ⟨rfl, trivial⟩
  · replace F := F.2 hc
    refine s_aln dX13_tellDraw_9 rfl ?_
    refine s_bi dX13_tellDraw_10 kb_12 ?_
    refine k_391 dX13_tellDraw_12 rfl (Nat.le_of_ble_eq_true rfl) (Nat.le_of_ble_eq_true rfl) F (fun r4 σ3 F => ?_)
    refine s_i (t := 64) (r4 = 0) dX13_tellDraw_15 rfl rfl (fun hc => ?_) (fun hc => ?_)
    · replace F := F.1 hc
      refine s_aln dX13_tellDraw_64 rfl ?_
      refine s_bi dX13_tellDraw_65 kb_123 ?_
      refine k_359 dX13_tellDraw_67 rfl (Nat.le_of_ble_eq_true rfl) (Nat.le_of_ble_eq_true rfl) F (fun σ5 F => ?_)
      refine s_ic dX13_tellDraw_70 ki_0 ?_
      refine s_isn dX13_tellDraw_71 (Nat.le_of_ble_eq_true rfl) rfl ?_
      refine s_aln dX13_tellDraw_72 rfl ?_
      refine k_325 dX13_tellDraw_73 rfl (Nat.le_of_ble_eq_true rfl) (Nat.le_of_ble_eq_true rfl) F (fun r8 σ7 F => ?_)
      refine s_isn dX13_tellDraw_76 (Nat.le_of_ble_eq_true rfl) rfl ?_
      exact s_k (t_tellDraw_77 hC  F) ⟨rfl, rfl, rfl, trivial⟩
    · replace F := F.2 hc
      exact s_k (t_tellDraw_18 hC  F) ⟨rfl, trivial⟩

theorem m_tellDraw_run {C : rCx} (hC : cOK C) {Q : rS → Prop}  {σ : rS} (F : w_tellDraw_0 C Q  σ) : cV C 7 m_tellDraw [.ref (co C)] σ Q := m_V (m_ent _ 2) (t_tellDraw_0 hC F)

