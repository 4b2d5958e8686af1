/-! methods of the reference: isFree, isGlobal, independent, given -/
theorem dX13_isFree_0 : decode cX13_isFree 0 = .ok (.aload_n 0, 1) := by decide +kernel
theorem dX13_isFree_1 : decode cX13_isFree 1 = .ok (.aload_n 0, 1) := by decide +kernel
theorem dX13_isFree_2 : decode cX13_isFree 2 = .ok (.aload_n 0, 1) := by decide +kernel
theorem dX13_isFree_3 : decode cX13_isFree 3 = .ok (.getfield 244, 3) := by decide +kernel
theorem dX13_isFree_6 : decode cX13_isFree 6 = .ok (.iload_n 1, 1) := by decide +kernel
theorem dX13_isFree_7 : decode cX13_isFree 7 = .ok (.iload_n 3, 1) := by decide +kernel
theorem dX13_isFree_8 : decode cX13_isFree 8 = .ok (.iload 4, 2) := by decide +kernel
theorem dX13_isFree_10 : decode cX13_isFree 10 = .ok (.invokevirtual 892, 3) := by decide +kernel
theorem dX13_isFree_13 : decode cX13_isFree 13 = .ok (.putfield 896, 3) := by decide +kernel
theorem dX13_isFree_16 : decode cX13_isFree 16 = .ok (.aload_n 0, 1) := by decide +kernel
theorem dX13_isFree_17 : decode cX13_isFree 17 = .ok (.aload_n 0, 1) := by decide +kernel
theorem dX13_isFree_18 : decode cX13_isFree 18 = .ok (.aload_n 0, 1) := by decide +kernel
theorem dX13_isFree_19 : decode cX13_isFree 19 = .ok (.getfield 247, 3) := by decide +kernel
theorem dX13_isFree_22 : decode cX13_isFree 22 = .ok (.iload_n 2, 1) := by decide +kernel
theorem dX13_isFree_23 : decode cX13_isFree 23 = .ok (.iload_n 3, 1) := by decide +kernel
theorem dX13_isFree_24 : decode cX13_isFree 24 = .ok (.iload 4, 2) := by decide +kernel
theorem dX13_isFree_26 : decode cX13_isFree 26 = .ok (.invokevirtual 892, 3) := by decide +kernel
theorem dX13_isFree_29 : decode cX13_isFree 29 = .ok (.putfield 899, 3) := by decide +kernel
theorem dX13_isFree_32 : decode cX13_isFree 32 = .ok (.iconst 0, 1) := by decide +kernel
theorem dX13_isFree_33 : decode cX13_isFree 33 = .ok (.istore 5, 2) := by decide +kernel
theorem dX13_isFree_35 : decode cX13_isFree 35 = .ok (.iload 5, 2) := by decide +kernel
theorem dX13_isFree_37 : decode cX13_isFree 37 = .ok (.aload_n 0, 1) := by decide +kernel
theorem dX13_isFree_38 : decode cX13_isFree 38 = .ok (.getfield 896, 3) := by decide +kernel
theorem dX13_isFree_41 : decode cX13_isFree 41 = .ok (.if_icmp .ge 128, 3) := by decide +kernel
theorem dX13_isFree_44 : decode cX13_isFree 44 = .ok (.iconst 0, 1) := by decide +kernel
theorem dX13_isFree_45 : decode cX13_isFree 45 = .ok (.istore 6, 2) := by decide +kernel
theorem dX13_isFree_47 : decode cX13_isFree 47 = .ok (.iload 6, 2) := by decide +kernel
theorem dX13_isFree_49 : decode cX13_isFree 49 = .ok (.aload_n 0, 1) := by decide +kernel
theorem dX13_isFree_50 : decode cX13_isFree 50 = .ok (.getfield 899, 3) := by decide +kernel
theorem dX13_isFree_53 : decode cX13_isFree 53 = .ok (.if_icmp .ge 110, 3) := by decide +kernel
theorem dX13_isFree_56 : decode cX13_isFree 56 = .ok (.iconst 0, 1) := by decide +kernel
theorem dX13_isFree_57 : decode cX13_isFree 57 = .ok (.istore 7, 2) := by decide +kernel
theorem dX13_isFree_59 : decode cX13_isFree 59 = .ok (.iconst 0, 1) := by decide +kernel
theorem dX13_isFree_60 : decode cX13_isFree 60 = .ok (.istore 8, 2) := by decide +kernel
theorem dX13_isFree_62 : decode cX13_isFree 62 = .ok (.iload 8, 2) := by decide +kernel
theorem dX13_isFree_64 : decode cX13_isFree 64 = .ok (.aload_n 0, 1) := by decide +kernel
theorem dX13_isFree_65 : decode cX13_isFree 65 = .ok (.getfield 545, 3) := by decide +kernel
theorem dX13_isFree_68 : decode cX13_isFree 68 = .ok (.if_icmp .ge 82, 3) := by decide +kernel
theorem dX13_isFree_71 : decode cX13_isFree 71 = .ok (.iload 7, 2) := by decide +kernel
theorem dX13_isFree_73 : decode cX13_isFree 73 = .ok (.ifCond .ne 77, 3) := by decide +kernel
theorem dX13_isFree_76 : decode cX13_isFree 76 = .ok (.aload_n 0, 1) := by decide +kernel
theorem dX13_isFree_77 : decode cX13_isFree 77 = .ok (.getfield 241, 3) := by decide +kernel
theorem dX13_isFree_80 : decode cX13_isFree 80 = .ok (.iload 8, 2) := by decide +kernel
theorem dX13_isFree_82 : decode cX13_isFree 82 = .ok (.baload, 1) := by decide +kernel
theorem dX13_isFree_83 : decode cX13_isFree 83 = .ok (.ifCond .eq 58, 3) := by decide +kernel
theorem dX13_isFree_86 : decode cX13_isFree 86 = .ok (.aload_n 0, 1) := by decide +kernel
theorem dX13_isFree_87 : decode cX13_isFree 87 = .ok (.iload 8, 2) := by decide +kernel
theorem dX13_isFree_89 : decode cX13_isFree 89 = .ok (.iload_n 1, 1) := by decide +kernel
theorem dX13_isFree_90 : decode cX13_isFree 90 = .ok (.invokevirtual 882, 3) := by decide +kernel
theorem dX13_isFree_93 : decode cX13_isFree 93 = .ok (.aload_n 0, 1) := by decide +kernel
theorem dX13_isFree_94 : decode cX13_isFree 94 = .ok (.getfield 244, 3) := by decide +kernel
theorem dX13_isFree_97 : decode cX13_isFree 97 = .ok (.iload 5, 2) := by decide +kernel
theorem dX13_isFree_99 : decode cX13_isFree 99 = .ok (.iaload, 1) := by decide +kernel
theorem dX13_isFree_100 : decode cX13_isFree 100 = .ok (.if_icmp .ne 41, 3) := by decide +kernel
theorem dX13_isFree_103 : decode cX13_isFree 103 = .ok (.aload_n 0, 1) := by decide +kernel
theorem dX13_isFree_104 : decode cX13_isFree 104 = .ok (.iload 8, 2) := by decide +kernel
theorem dX13_isFree_106 : decode cX13_isFree 106 = .ok (.iload_n 2, 1) := by decide +kernel
theorem dX13_isFree_107 : decode cX13_isFree 107 = .ok (.invokevirtual 882, 3) := by decide +kernel
theorem dX13_isFree_110 : decode cX13_isFree 110 = .ok (.aload_n 0, 1) := by decide +kernel
theorem dX13_isFree_111 : decode cX13_isFree 111 = .ok (.getfield 247, 3) := by decide +kernel
theorem dX13_isFree_114 : decode cX13_isFree 114 = .ok (.iload 6, 2) := by decide +kernel
theorem dX13_isFree_116 : decode cX13_isFree 116 = .ok (.iaload, 1) := by decide +kernel
theorem dX13_isFree_117 : decode cX13_isFree 117 = .ok (.if_icmp .ne 24, 3) := by decide +kernel
theorem dX13_isFree_120 : decode cX13_isFree 120 = .ok (.iload_n 3, 1) := by decide +kernel
theorem dX13_isFree_121 : decode cX13_isFree 121 = .ok (.iconst (-1), 1) := by decide +kernel
theorem dX13_isFree_122 : decode cX13_isFree 122 = .ok (.if_icmp .eq 15, 3) := by decide +kernel
theorem dX13_isFree_125 : decode cX13_isFree 125 = .ok (.aload_n 0, 1) := by decide +kernel
theorem dX13_isFree_126 : decode cX13_isFree 126 = .ok (.iload 8, 2) := by decide +kernel
theorem dX13_isFree_128 : decode cX13_isFree 128 = .ok (.iload_n 3, 1) := by decide +kernel
theorem dX13_isFree_129 : decode cX13_isFree 129 = .ok (.invokevirtual 882, 3) := by decide +kernel
theorem dX13_isFree_132 : decode cX13_isFree 132 = .ok (.iload 4, 2) := by decide +kernel
theorem dX13_isFree_134 : decode cX13_isFree 134 = .ok (.if_icmp .ne 7, 3) := by decide +kernel
theorem dX13_isFree_137 : decode cX13_isFree 137 = .ok (.iconst 1, 1) := by decide +kernel
theorem dX13_isFree_138 : decode cX13_isFree 138 = .ok (.goto 4, 3) := by decide +kernel
theorem dX13_isFree_141 : decode cX13_isFree 141 = .ok (.iconst 0, 1) := by decide +kernel
theorem dX13_isFree_142 : decode cX13_isFree 142 = .ok (.istore 7, 2) := by decide +kernel
theorem dX13_isFree_144 : decode cX13_isFree 144 = .ok (.iinc 8 1, 3) := by decide +kernel
theorem dX13_isFree_147 : decode cX13_isFree 147 = .ok (.goto (-85), 3) := by decide +kernel
theorem dX13_isFree_150 : decode cX13_isFree 150 = .ok (.iload 7, 2) := by decide +kernel
theorem dX13_isFree_152 : decode cX13_isFree 152 = .ok (.ifCond .ne 5, 3) := by decide +kernel
theorem dX13_isFree_155 : decode cX13_isFree 155 = .ok (.iconst 0, 1) := by decide +kernel
theorem dX13_isFree_156 : decode cX13_isFree 156 = .ok (.ireturn, 1) := by decide +kernel
theorem dX13_isFree_157 : decode cX13_isFree 157 = .ok (.iinc 6 1, 3) := by decide +kernel
theorem dX13_isFree_160 : decode cX13_isFree 160 = .ok (.goto (-113), 3) := by decide +kernel
theorem dX13_isFree_163 : decode cX13_isFree 163 = .ok (.iinc 5 1, 3) := by decide +kernel
theorem dX13_isFree_166 : decode cX13_isFree 166 = .ok (.goto (-131), 3) := by decide +kernel
theorem dX13_isFree_169 : decode cX13_isFree 169 = .ok (.iconst 0, 1) := by decide +kernel
theorem dX13_isFree_170 : decode cX13_isFree 170 = .ok (.istore 5, 2) := by decide +kernel
theorem dX13_isFree_172 : decode cX13_isFree 172 = .ok (.iload 5, 2) := by decide +kernel
theorem dX13_isFree_174 : decode cX13_isFree 174 = .ok (.aload_n 0, 1) := by decide +kernel
theorem dX13_isFree_175 : decode cX13_isFree 175 = .ok (.getfield 896, 3) := by decide +kernel
theorem dX13_isFree_178 : decode cX13_isFree 178 = .ok (.if_icmp .ge 62, 3) := by decide +kernel
theorem dX13_isFree_181 : decode cX13_isFree 181 = .ok (.aload_n 0, 1) := by decide +kernel
theorem dX13_isFree_182 : decode cX13_isFree 182 = .ok (.getfield 542, 3) := by decide +kernel
theorem dX13_isFree_185 : decode cX13_isFree 185 = .ok (.ifCond .le 55, 3) := by decide +kernel
theorem dX13_isFree_188 : decode cX13_isFree 188 = .ok (.iconst 0, 1) := by decide +kernel
theorem dX13_isFree_189 : decode cX13_isFree 189 = .ok (.istore 6, 2) := by decide +kernel
theorem dX13_isFree_191 : decode cX13_isFree 191 = .ok (.iload 6, 2) := by decide +kernel
theorem dX13_isFree_193 : decode cX13_isFree 193 = .ok (.aload_n 0, 1) := by decide +kernel
theorem dX13_isFree_194 : decode cX13_isFree 194 = .ok (.getfield 899, 3) := by decide +kernel
theorem dX13_isFree_197 : decode cX13_isFree 197 = .ok (.if_icmp .ge 37, 3) := by decide +kernel
theorem dX13_isFree_200 : decode cX13_isFree 200 = .ok (.aload_n 0, 1) := by decide +kernel
theorem dX13_isFree_201 : decode cX13_isFree 201 = .ok (.iload_n 1, 1) := by decide +kernel
theorem dX13_isFree_202 : decode cX13_isFree 202 = .ok (.aload_n 0, 1) := by decide +kernel
theorem dX13_isFree_203 : decode cX13_isFree 203 = .ok (.getfield 244, 3) := by decide +kernel
theorem dX13_isFree_206 : decode cX13_isFree 206 = .ok (.iload 5, 2) := by decide +kernel
theorem dX13_isFree_208 : decode cX13_isFree 208 = .ok (.iaload, 1) := by decide +kernel
theorem dX13_isFree_209 : decode cX13_isFree 209 = .ok (.iload_n 2, 1) := by decide +kernel
theorem dX13_isFree_210 : decode cX13_isFree 210 = .ok (.aload_n 0, 1) := by decide +kernel
theorem dX13_isFree_211 : decode cX13_isFree 211 = .ok (.getfield 247, 3) := by decide +kernel
theorem dX13_isFree_214 : decode cX13_isFree 214 = .ok (.iload 6, 2) := by decide +kernel
theorem dX13_isFree_216 : decode cX13_isFree 216 = .ok (.iaload, 1) := by decide +kernel
theorem dX13_isFree_217 : decode cX13_isFree 217 = .ok (.iload_n 3, 1) := by decide +kernel
theorem dX13_isFree_218 : decode cX13_isFree 218 = .ok (.iload 4, 2) := by decide +kernel
theorem dX13_isFree_220 : decode cX13_isFree 220 = .ok (.invokevirtual 902, 3) := by decide +kernel
theorem dX13_isFree_223 : decode cX13_isFree 223 = .ok (.ifCond .ne 5, 3) := by decide +kernel
theorem dX13_isFree_226 : decode cX13_isFree 226 = .ok (.iconst 0, 1) := by decide +kernel
theorem dX13_isFree_227 : decode cX13_isFree 227 = .ok (.ireturn, 1) := by decide +kernel
theorem dX13_isFree_228 : decode cX13_isFree 228 = .ok (.iinc 6 1, 3) := by decide +kernel
theorem dX13_isFree_231 : decode cX13_isFree 231 = .ok (.goto (-40), 3) := by decide +kernel
theorem dX13_isFree_234 : decode cX13_isFree 234 = .ok (.iinc 5 1, 3) := by decide +kernel
theorem dX13_isFree_237 : decode cX13_isFree 237 = .ok (.goto (-65), 3) := by decide +kernel
theorem dX13_isFree_240 : decode cX13_isFree 240 = .ok (.iconst 1, 1) := by decide +kernel
theorem dX13_isFree_241 : decode cX13_isFree 241 = .ok (.ireturn, 1) := by decide +kernel
def w_isFree_142 (C : rCx) (Q : Int32 → rS → Prop) (B35 : Int32 → Int32 → Int32 → Int32 → Int32 → rS → Prop) (B47 : Int32 → Int32 → Int32 → Int32 → Int32 → Int32 → rS → Prop) (B62 : Int32 → Int32 → Int32 → Int32 → Int32 → Int32 → Int32 → Int32 → rS → Prop) (a1 : Int32) (a2 : Int32) (a3 : Int32) (a4 : Int32) (a5 : Int32) (a6 : Int32) (a8 : Int32) (s0 : Int32) (σ : rS) : Prop :=
  ∀ v8_1 : Int32, v8_1 = a8 + (1 : Int32) →
  B62 a1 a2 a3 a4 a5 a6 s0 v8_1 σ
theorem t_isFree_142 {C : rCx} (hC : cOK C) {Q : Int32 → rS → Prop} {B35 : Int32 → Int32 → Int32 → Int32 → Int32 → rS → Prop} {B47 : Int32 → Int32 → Int32 → Int32 → Int32 → Int32 → rS → Prop} {B62 : Int32 → Int32 → Int32 → Int32 → Int32 → Int32 → Int32 → Int32 → rS → Prop} (hB35 : ∀ a1' a2' a3' a4' a5' τ, B35 a1' a2' a3' a4' a5' τ → wG C 8 m_isFree 35 [some (.ref (co C)), some (.int a1'), some (.int a2'), some (.int a3'), some (.int a4'), some (.int a5'), none, none, none] [] τ (qI Q)) (hB47 : ∀ a1' a2' a3' a4' a5' a6' τ, B47 a1' a2' a3' a4' a5' a6' τ → wG C 8 m_isFree 47 [some (.ref (co C)), some (.int a1'), some (.int a2'), some (.int a3'), some (.int a4'), some (.int a5'), some (.int a6'), none, none] [] τ (qI Q)) (hB62 : ∀ a1' a2' a3' a4' a5' a6' a7' a8' τ, B62 a1' a2' a3' a4' a5' a6' a7' a8' τ → wG C 8 m_isFree 62 [some (.ref (co C)), some (.int a1'), some (.int a2'), some (.int a3'), some (.int a4'), some (.int a5'), some (.int a6'), some (.int a7'), some (.int a8')] [] τ (qI Q)) {a1 : Int32} {a2 : Int32} {a3 : Int32} {a4 : Int32} {a5 : Int32} {a6 : Int32} {a8 : Int32} {s0 : Int32} {σ : rS} (F : w_isFree_142 C Q B35 B47 B62 a1 a2 a3 a4 a5 a6 a8 s0 σ) : wG C 8 m_isFree 142 [some (.ref (co C)), some (.int a1), some (.int a2), some (.int a3), some (.int a4), some (.int a5), some (.int a6), none, some (.int a8)] [.int s0] σ (qI Q) := by
  unfold w_isFree_142 at F
  refine s_is dX13_isFree_142 (Nat.le_of_ble_eq_true rfl) rfl ?_
  show wG _ _ _ _ [some (.ref (co C)), some (.int a1), some (.int a2), some (.int a3), some (.int a4), some (.int a5), some (.int a6), some (.int s0), some (.int a8)] _ _ _
  refine s_incb dX13_isFree_144 ki_1 rfl (Nat.le_of_ble_eq_true rfl) (fun v8_1 ev8_1 => ?_)
  replace F := F v8_1 ev8_1
  show wG _ _ _ _ [some (.ref (co C)), some (.int a1), some (.int a2), some (.int a3), some (.int a4), some (.int a5), some (.int a6), some (.int s0), some (.int v8_1)] _ _ _
  refine s_goto (t := 62) dX13_isFree_147 rfl ?_
  exact s_k (hB62 _ _ _ _ _ _ _ _ _ F) ⟨rfl, rfl, rfl, rfl, rfl, rfl, rfl, rfl, rfl, trivial⟩

def w_isFree_150 (C : rCx) (Q : Int32 → rS → Prop) (B35 : Int32 → Int32 → Int32 → Int32 → Int32 → rS → Prop) (B47 : Int32 → Int32 → Int32 → Int32 → Int32 → Int32 → rS → Prop) (a1 : Int32) (a2 : Int32) (a3 : Int32) (a4 : Int32) (a5 : Int32) (a6 : Int32) (a7 : Int32) (σ : rS) : Prop :=
  (¬ (a7 = 0) →
    ∀ v6_1 : Int32, v6_1 = a6 + (1 : Int32) →
    B47 a1 a2 a3 a4 a5 v6_1 σ) ∧
  (a7 = 0 →
    Q (0 : Int32) σ)
theorem t_isFree_150 {C : rCx} (hC : cOK C) {Q : Int32 → rS → Prop} {B35 : Int32 → Int32 → Int32 → Int32 → Int32 → rS → Prop} {B47 : Int32 → Int32 → Int32 → Int32 → Int32 → Int32 → rS → Prop} (hB35 : ∀ a1' a2' a3' a4' a5' τ, B35 a1' a2' a3' a4' a5' τ → wG C 8 m_isFree 35 [some (.ref (co C)), some (.int a1'), some (.int a2'), some (.int a3'), some (.int a4'), some (.int a5'), none, none, none] [] τ (qI Q)) (hB47 : ∀ a1' a2' a3' a4' a5' a6' τ, B47 a1' a2' a3' a4' a5' a6' τ → wG C 8 m_isFree 47 [some (.ref (co C)), some (.int a1'), some (.int a2'), some (.int a3'), some (.int a4'), some (.int a5'), some (.int a6'), none, none] [] τ (qI Q)) {a1 : Int32} {a2 : Int32} {a3 : Int32} {a4 : Int32} {a5 : Int32} {a6 : Int32} {a7 : Int32} {σ : rS} (F : w_isFree_150 C Q B35 B47 a1 a2 a3 a4 a5 a6 a7 σ) : wG C 8 m_isFree 150 [some (.ref (co C)), some (.int a1), some (.int a2), some (.int a3), some (.int a4), some (.int a5), some (.int a6), some (.int a7), none] [] σ (qI Q) := by
  unfold w_isFree_150 at F
  refine s_il dX13_isFree_150 rfl ?_
  refine s_in (t := 157) (a7 = 0) dX13_isFree_152 rfl rfl (fun hc => ?_) (fun hc => ?_)
  · replace F := F.1 hc
    refine s_incb dX13_isFree_157 ki_1 rfl (Nat.le_of_ble_eq_true rfl) (fun v6_1 ev6_1 => ?_)
    replace F := F v6_1 ev6_1
    show wG _ _ _ _ [some (.ref (co C)), some (.int a1), some (.int a2), some (.int a3), some (.int a4), some (.int a5), some (.int v6_1), some (.int a7), none] _ _ _
    refine s_goto (t := 47) dX13_isFree_160 rfl ?_
    exact s_k (hB47 _ _ _ _ _ _ _ F) ⟨rfl, rfl, rfl, rfl, rfl, rfl, rfl, trivial⟩
  · replace F := F.2 hc
    refine s_ic dX13_isFree_155 ki_0 ?_
    exact s_ri dX13_isFree_156 rfl (nb_nar nb_0) F

def w_isFree_62 (C : rCx) (Q : Int32 → rS → Prop) (B35 : Int32 → Int32 → Int32 → Int32 → Int32 → rS → Prop) (B47 : Int32 → Int32 → Int32 → Int32 → Int32 → Int32 → rS → Prop) (a1 : Int32) (a2 : Int32) (a3 : Int32) (a4 : Int32) (a5 : Int32) (a6 : Int32) (a7 : Int32) (a8 : Int32) (σ : rS) : Prop :=
  ∃ I : Nat → Int32 → Int32 → Int32 → Int32 → Int32 → Int32 → Int32 → Int32 → rS → Prop, (∃ n, I n a1 a2 a3 a4 a5 a6 a7 a8 σ) ∧ ∀ n a1 a2 a3 a4 a5 a6 a7 a8 σ, I n a1 a2 a3 a4 a5 a6 a7 a8 σ →
    ((σ.1 71) ≤ a8 →
      w_isFree_150 C Q B35 B47 a1 a2 a3 a4 a5 a6 a7 σ) ∧
    (¬ ((σ.1 71) ≤ a8) →
      (¬ (a7 = 0) →
        w_isFree_150 C Q B35 B47 a1 a2 a3 a4 a5 a6 a7 σ) ∧
      (a7 = 0 →
        inb a8 1000 ∧
        ((σ.2.2.1 120 (a8).toNatClampNeg) = 0 →
          w_isFree_142 C Q B35 B47 (fun a1' a2' a3' a4' a5' a6' a7' a8' τ => ∃ k < n, I k a1' a2' a3' a4' a5' a6' a7' a8' τ) a1 a2 a3 a4 a5 a6 a8 (0 : Int32) σ) ∧
        (¬ ((σ.2.2.1 120 (a8).toNatClampNeg) = 0) →
          cI C 0 m_told [.ref (co C), .int a8, .int a1] σ (fun r2 σ1 =>
            inb a5 1000 ∧
            (¬ (r2 = (σ1.2.2.1 121 (a5).toNatClampNeg)) →
              w_isFree_142 C Q B35 B47 (fun a1' a2' a3' a4' a5' a6' a7' a8' τ => ∃ k < n, I k a1' a2' a3' a4' a5' a6' a7' a8' τ) a1 a2 a3 a4 a5 a6 a8 (0 : Int32) σ1) ∧
            (r2 = (σ1.2.2.1 121 (a5).toNatClampNeg) →
              cI C 0 m_told [.ref (co C), .int a8, .int a2] σ1 (fun r4 σ3 =>
                inb a6 1000 ∧
                (¬ (r4 = (σ3.2.2.1 122 (a6).toNatClampNeg)) →
                  w_isFree_142 C Q B35 B47 (fun a1' a2' a3' a4' a5' a6' a7' a8' τ => ∃ k < n, I k a1' a2' a3' a4' a5' a6' a7' a8' τ) a1 a2 a3 a4 a5 a6 a8 (0 : Int32) σ3) ∧
                (r4 = (σ3.2.2.1 122 (a6).toNatClampNeg) →
                  (a3 = (-1 : Int32) →
                    w_isFree_142 C Q B35 B47 (fun a1' a2' a3' a4' a5' a6' a7' a8' τ => ∃ k < n, I k a1' a2' a3' a4' a5' a6' a7' a8' τ) a1 a2 a3 a4 a5 a6 a8 (1 : Int32) σ3) ∧
                  (¬ (a3 = (-1 : Int32)) →
                    cI C 0 m_told [.ref (co C), .int a8, .int a3] σ3 (fun r6 σ5 =>
                      (¬ (r6 = a4) →
                        w_isFree_142 C Q B35 B47 (fun a1' a2' a3' a4' a5' a6' a7' a8' τ => ∃ k < n, I k a1' a2' a3' a4' a5' a6' a7' a8' τ) a1 a2 a3 a4 a5 a6 a8 (0 : Int32) σ5) ∧
                      (r6 = a4 →
                        w_isFree_142 C Q B35 B47 (fun a1' a2' a3' a4' a5' a6' a7' a8' τ => ∃ k < n, I k a1' a2' a3' a4' a5' a6' a7' a8' τ) a1 a2 a3 a4 a5 a6 a8 (1 : Int32) σ5))))))))))
theorem t_isFree_62 {C : rCx} (hC : cOK C) {Q : Int32 → rS → Prop} {B35 : Int32 → Int32 → Int32 → Int32 → Int32 → rS → Prop} {B47 : Int32 → Int32 → Int32 → Int32 → Int32 → Int32 → rS → Prop} (hB35 : ∀ a1' a2' a3' a4' a5' τ, B35 a1' a2' a3' a4' a5' τ → wG C 8 m_isFree 35 [some (.ref (co C)), some (.int a1'), some (.int a2'), some (.int a3'), some (.int a4'), some (.int a5'), none, none, none] [] τ (qI Q)) (hB47 : ∀ a1' a2' a3' a4' a5' a6' τ, B47 a1' a2' a3' a4' a5' a6' τ → wG C 8 m_isFree 47 [some (.ref (co C)), some (.int a1'), some (.int a2'), some (.int a3'), some (.int a4'), some (.int a5'), some (.int a6'), none, none] [] τ (qI Q)) {a1 : Int32} {a2 : Int32} {a3 : Int32} {a4 : Int32} {a5 : Int32} {a6 : Int32} {a7 : Int32} {a8 : Int32} {σ : rS} (F : w_isFree_62 C Q B35 B47 a1 a2 a3 a4 a5 a6 a7 a8 σ) : wG C 8 m_isFree 62 [some (.ref (co C)), some (.int a1), some (.int a2), some (.int a3), some (.int a4), some (.int a5), some (.int a6), some (.int a7), some (.int a8)] [] σ (qI Q) := by
  obtain ⟨I, ⟨n0, hI0⟩, F0⟩ := F
  have key : ∀ n a1 a2 a3 a4 a5 a6 a7 a8 σ, I n a1 a2 a3 a4 a5 a6 a7 a8 σ → wG C 8 m_isFree 62 [some (.ref (co C)), some (.int a1), some (.int a2), some (.int a3), some (.int a4), some (.int a5), some (.int a6), some (.int a7), some (.int a8)] [] σ (qI Q) := by
    intro n
    induction n using Nat.strongRecOn with
    | _ n ih =>
      intro a1 a2 a3 a4 a5 a6 a7 a8 σ hI
      have F := F0 n a1 a2 a3 a4 a5 a6 a7 a8 σ hI
      clear hI hI0
      refine s_il dX13_isFree_62 rfl ?_
      refine s_aln dX13_isFree_64 rfl ?_
      refine gf_545 dX13_isFree_65 rfl ?_
      refine s_ii (t := 150) ((σ.1 71) ≤ a8) dX13_isFree_68 rfl rfl (fun hc => ?_) (fun hc => ?_)
      · replace F := F.1 hc
        exact s_k (t_isFree_150 hC hB35 hB47 F) ⟨rfl, rfl, rfl, rfl, rfl, rfl, rfl, rfl, trivial⟩
      · replace F := F.2 hc
        refine s_il dX13_isFree_71 rfl ?_
        refine s_in (t := 150) (a7 = 0) dX13_isFree_73 rfl rfl (fun hc => ?_) (fun hc => ?_)
        · replace F := F.1 hc
          exact s_k (t_isFree_150 hC hB35 hB47 F) ⟨rfl, rfl, rfl, rfl, rfl, rfl, rfl, rfl, trivial⟩
        · replace F := F.2 hc
          refine s_aln dX13_isFree_76 rfl ?_
          refine gf_241 dX13_isFree_77 rfl ?_
          refine s_il dX13_isFree_80 rfl ?_
          refine s_zld hC dX13_isFree_82 rt_120 F.1 ?_
          replace F := F.2
          refine s_i (t := 141) ((σ.2.2.1 120 (a8).toNatClampNeg) = 0) dX13_isFree_83 rfl rfl (fun hc => ?_) (fun hc => ?_)
          · replace F := F.1 hc
            refine s_ic dX13_isFree_141 ki_0 ?_
            exact s_k (t_isFree_142 hC hB35 hB47 (fun a1' a2' a3' a4' a5' a6' a7' a8' τ hb => by obtain ⟨k, hk, hI⟩ := hb; exact ih k hk a1' a2' a3' a4' a5' a6' a7' a8' τ hI) F) ⟨rfl, rfl, rfl, rfl, rfl, rfl, rfl, rfl, trivial⟩
          · replace F := F.2 hc
            refine s_aln dX13_isFree_86 rfl ?_
            refine s_il dX13_isFree_87 rfl ?_
            refine s_iln dX13_isFree_89 rfl ?_
            refine k_882 dX13_isFree_90 rfl (Nat.le_of_ble_eq_true rfl) (Nat.le_of_ble_eq_true rfl) F (fun r2 σ1 F => ?_)
            refine s_aln dX13_isFree_93 rfl ?_
            refine gf_244 dX13_isFree_94 rfl ?_
            refine s_il dX13_isFree_97 rfl ?_
            refine s_ald hC dX13_isFree_99 rt_121 F.1 ?_
            replace F := F.2
            refine s_iin (t := 141) (r2 = (σ1.2.2.1 121 (a5).toNatClampNeg)) dX13_isFree_100 rfl rfl (fun hc => ?_) (fun hc => ?_)
            · replace F := F.1 hc
              refine s_ic dX13_isFree_141 ki_0 ?_
              exact s_k (t_isFree_142 hC hB35 hB47 (fun a1' a2' a3' a4' a5' a6' a7' a8' τ hb => by obtain ⟨k, hk, hI⟩ := hb; exact ih k hk a1' a2' a3' a4' a5' a6' a7' a8' τ hI) F) ⟨rfl, rfl, rfl, rfl, rfl, rfl, rfl, rfl, trivial⟩
            · replace F := F.2 hc
              refine s_aln dX13_isFree_103 rfl ?_
              refine s_il dX13_isFree_104 rfl ?_
              refine s_iln dX13_isFree_106 rfl ?_
              refine k_882 dX13_isFree_107 rfl (Nat.le_of_ble_eq_true rfl) (Nat.le_of_ble_eq_true rfl) F (fun r4 σ3 F => ?_)
              refine s_aln dX13_isFree_110 rfl ?_
              refine gf_247 dX13_isFree_111 rfl ?_
              refine s_il dX13_isFree_114 rfl ?_
              refine s_ald hC dX13_isFree_116 rt_122 F.1 ?_
              replace F := F.2
              refine s_iin (t := 141) (r4 = (σ3.2.2.1 122 (a6).toNatClampNeg)) dX13_isFree_117 rfl rfl (fun hc => ?_) (fun hc => ?_)
              · replace F := F.1 hc
                refine s_ic dX13_isFree_141 ki_0 ?_
                exact s_k (t_isFree_142 hC hB35 hB47 (fun a1' a2' a3' a4' a5' a6' a7' a8' τ hb => by obtain ⟨k, hk, hI⟩ := hb; exact ih k hk a1' a2' a3' a4' a5' a6' a7' a8' τ hI) F) ⟨rfl, rfl, rfl, rfl, rfl, rfl, rfl, rfl, trivial⟩
              · replace F := F.2 hc
                refine s_iln dX13_isFree_120 rfl ?_
                refine s_ic dX13_isFree_121 ki_m1 ?_
                refine s_ii (t := 137) (a3 = (-1 : Int32)) dX13_isFree_122 rfl rfl (fun hc => ?_) (fun hc => ?_)
                · replace F := F.1 hc
                  refine s_ic dX13_isFree_137 ki_1 ?_
                  refine s_goto (t := 142) dX13_isFree_138 rfl ?_
                  exact s_k (t_isFree_142 hC hB35 hB47 (fun a1' a2' a3' a4' a5' a6' a7' a8' τ hb => by obtain ⟨k, hk, hI⟩ := hb; exact ih k hk a1' a2' a3' a4' a5' a6' a7' a8' τ hI) F) ⟨rfl, rfl, rfl, rfl, rfl, rfl, rfl, rfl, trivial⟩
                · replace F := F.2 hc
                  refine s_aln dX13_isFree_125 rfl ?_
                  refine s_il dX13_isFree_126 rfl ?_
                  refine s_iln dX13_isFree_128 rfl ?_
                  refine k_882 dX13_isFree_129 rfl (Nat.le_of_ble_eq_true rfl) (Nat.le_of_ble_eq_true rfl) F (fun r6 σ5 F => ?_)
                  refine s_il dX13_isFree_132 rfl ?_
                  refine s_iin (t := 141) (r6 = a4) dX13_isFree_134 rfl rfl (fun hc => ?_) (fun hc => ?_)
                  · replace F := F.1 hc
                    refine s_ic dX13_isFree_141 ki_0 ?_
                    exact s_k (t_isFree_142 hC hB35 hB47 (fun a1' a2' a3' a4' a5' a6' a7' a8' τ hb => by obtain ⟨k, hk, hI⟩ := hb; exact ih k hk a1' a2' a3' a4' a5' a6' a7' a8' τ hI) F) ⟨rfl, rfl, rfl, rfl, rfl, rfl, rfl, rfl, trivial⟩
                  · replace F := F.2 hc
                    refine s_ic dX13_isFree_137 ki_1 ?_
                    refine s_goto (t := 142) dX13_isFree_138 rfl ?_
                    exact s_k (t_isFree_142 hC hB35 hB47 (fun a1' a2' a3' a4' a5' a6' a7' a8' τ hb => by obtain ⟨k, hk, hI⟩ := hb; exact ih k hk a1' a2' a3' a4' a5' a6' a7' a8' τ hI) F) ⟨rfl, rfl, rfl, rfl, rfl, rfl, rfl, rfl, trivial⟩
  exact key n0 a1 a2 a3 a4 a5 a6 a7 a8 σ hI0

def w_isFree_47 (C : rCx) (Q : Int32 → rS → Prop) (B35 : Int32 → Int32 → Int32 → Int32 → Int32 → rS → Prop) (a1 : Int32) (a2 : Int32) (a3 : Int32) (a4 : Int32) (a5 : Int32) (a6 : Int32) (σ : rS) : Prop :=
  ∃ I : Nat → Int32 → Int32 → Int32 → Int32 → Int32 → Int32 → rS → Prop, (∃ n, I n a1 a2 a3 a4 a5 a6 σ) ∧ ∀ n a1 a2 a3 a4 a5 a6 σ, I n a1 a2 a3 a4 a5 a6 σ →
    ((σ.1 125) ≤ a6 →
      ∀ v5_1 : Int32, v5_1 = a5 + (1 : Int32) →
      B35 a1 a2 a3 a4 v5_1 σ) ∧
    (¬ ((σ.1 125) ≤ a6) →
      w_isFree_62 C Q B35 (fun a1' a2' a3' a4' a5' a6' τ => ∃ k < n, I k a1' a2' a3' a4' a5' a6' τ) a1 a2 a3 a4 a5 a6 (0 : Int32) (0 : Int32) σ)
theorem t_isFree_47 {C : rCx} (hC : cOK C) {Q : Int32 → rS → Prop} {B35 : Int32 → Int32 → Int32 → Int32 → Int32 → rS → Prop} (hB35 : ∀ a1' a2' a3' a4' a5' τ, B35 a1' a2' a3' a4' a5' τ → wG C 8 m_isFree 35 [some (.ref (co C)), some (.int a1'), some (.int a2'), some (.int a3'), some (.int a4'), some (.int a5'), none, none, none] [] τ (qI Q)) {a1 : Int32} {a2 : Int32} {a3 : Int32} {a4 : Int32} {a5 : Int32} {a6 : Int32} {σ : rS} (F : w_isFree_47 C Q B35 a1 a2 a3 a4 a5 a6 σ) : wG C 8 m_isFree 47 [some (.ref (co C)), some (.int a1), some (.int a2), some (.int a3), some (.int a4), some (.int a5), some (.int a6), none, none] [] σ (qI Q) := by
  obtain ⟨I, ⟨n0, hI0⟩, F0⟩ := F
  have key : ∀ n a1 a2 a3 a4 a5 a6 σ, I n a1 a2 a3 a4 a5 a6 σ → wG C 8 m_isFree 47 [some (.ref (co C)), some (.int a1), some (.int a2), some (.int a3), some (.int a4), some (.int a5), some (.int a6), none, none] [] σ (qI Q) := by
    intro n
    induction n using Nat.strongRecOn with
    | _ n ih =>
      intro a1 a2 a3 a4 a5 a6 σ hI
      have F := F0 n a1 a2 a3 a4 a5 a6 σ hI
      clear hI hI0
      refine s_il dX13_isFree_47 rfl ?_
      refine s_aln dX13_isFree_49 rfl ?_
      refine gf_899 dX13_isFree_50 rfl ?_
      refine s_ii (t := 163) ((σ.1 125) ≤ a6) dX13_isFree_53 rfl rfl (fun hc => ?_) (fun hc => ?_)
      · replace F := F.1 hc
        refine s_incb dX13_isFree_163 ki_1 rfl (Nat.le_of_ble_eq_true rfl) (fun v5_1 ev5_1 => ?_)
        replace F := F v5_1 ev5_1
        show wG _ _ _ _ [some (.ref (co C)), some (.int a1), some (.int a2), some (.int a3), some (.int a4), some (.int v5_1), some (.int a6), none, none] _ _ _
        refine s_goto (t := 35) dX13_isFree_166 rfl ?_
        exact s_k (hB35 _ _ _ _ _ _ F) ⟨rfl, rfl, rfl, rfl, rfl, rfl, trivial⟩
      · replace F := F.2 hc
        refine s_ic dX13_isFree_56 ki_0 ?_
        refine s_is dX13_isFree_57 (Nat.le_of_ble_eq_true rfl) rfl ?_
        show wG _ _ _ _ [some (.ref (co C)), some (.int a1), some (.int a2), some (.int a3), some (.int a4), some (.int a5), some (.int a6), some (.int (0 : Int32)), none] _ _ _
        refine s_ic dX13_isFree_59 ki_0 ?_
        refine s_is dX13_isFree_60 (Nat.le_of_ble_eq_true rfl) rfl ?_
        show wG _ _ _ _ [some (.ref (co C)), some (.int a1), some (.int a2), some (.int a3), some (.int a4), some (.int a5), some (.int a6), some (.int (0 : Int32)), some (.int (0 : Int32))] _ _ _
        exact s_k (t_isFree_62 hC hB35 (fun a1' a2' a3' a4' a5' a6' τ hb => by obtain ⟨k, hk, hI⟩ := hb; exact ih k hk a1' a2' a3' a4' a5' a6' τ hI) F) ⟨rfl, rfl, rfl, rfl, rfl, rfl, rfl, rfl, rfl, trivial⟩
  exact key n0 a1 a2 a3 a4 a5 a6 σ hI0

def w_isFree_191 (C : rCx) (Q : Int32 → rS → Prop) (B172 : Int32 → Int32 → Int32 → Int32 → Int32 → rS → Prop) (a1 : Int32) (a2 : Int32) (a3 : Int32) (a4 : Int32) (a5 : Int32) (a6 : Int32) (σ : rS) : Prop :=
  ∃ I : Nat → Int32 → Int32 → Int32 → Int32 → Int32 → Int32 → rS → Prop, (∃ n, I n a1 a2 a3 a4 a5 a6 σ) ∧ ∀ n a1 a2 a3 a4 a5 a6 σ, I n a1 a2 a3 a4 a5 a6 σ →
    ((σ.1 125) ≤ a6 →
      ∀ v5_1 : Int32, v5_1 = a5 + (1 : Int32) →
      B172 a1 a2 a3 a4 v5_1 σ) ∧
    (¬ ((σ.1 125) ≤ a6) →
      inb a5 1000 ∧
      inb a6 1000 ∧
      cI C 7 m_isPairFree [.ref (co C), .int a1, .int (σ.2.2.1 121 (a5).toNatClampNeg), .int a2, .int (σ.2.2.1 122 (a6).toNatClampNeg), .int a3, .int a4] σ (fun r3 σ2 =>
        (¬ (r3 = 0) →
          ∀ v6_4 : Int32, v6_4 = a6 + (1 : Int32) →
          ∃ k < n, I k a1 a2 a3 a4 a5 v6_4 σ2) ∧
        (r3 = 0 →
          Q (0 : Int32) σ2)))
theorem t_isFree_191 {C : rCx} (hC : cOK C) {Q : Int32 → rS → Prop} {B172 : Int32 → Int32 → Int32 → Int32 → Int32 → rS → Prop} (hB172 : ∀ a1' a2' a3' a4' a5' τ, B172 a1' a2' a3' a4' a5' τ → wG C 8 m_isFree 172 [some (.ref (co C)), some (.int a1'), some (.int a2'), some (.int a3'), some (.int a4'), some (.int a5'), none, none, none] [] τ (qI Q)) {a1 : Int32} {a2 : Int32} {a3 : Int32} {a4 : Int32} {a5 : Int32} {a6 : Int32} {σ : rS} (F : w_isFree_191 C Q B172 a1 a2 a3 a4 a5 a6 σ) : wG C 8 m_isFree 191 [some (.ref (co C)), some (.int a1), some (.int a2), some (.int a3), some (.int a4), some (.int a5), some (.int a6), none, none] [] σ (qI Q) := by
  obtain ⟨I, ⟨n0, hI0⟩, F0⟩ := F
  have key : ∀ n a1 a2 a3 a4 a5 a6 σ, I n a1 a2 a3 a4 a5 a6 σ → wG C 8 m_isFree 191 [some (.ref (co C)), some (.int a1), some (.int a2), some (.int a3), some (.int a4), some (.int a5), some (.int a6), none, none] [] σ (qI Q) := by
    intro n
    induction n using Nat.strongRecOn with
    | _ n ih =>
      intro a1 a2 a3 a4 a5 a6 σ hI
      have F := F0 n a1 a2 a3 a4 a5 a6 σ hI
      clear hI hI0
      refine s_il dX13_isFree_191 rfl ?_
      refine s_aln dX13_isFree_193 rfl ?_
      refine gf_899 dX13_isFree_194 rfl ?_
      refine s_ii (t := 234) ((σ.1 125) ≤ a6) dX13_isFree_197 rfl rfl (fun hc => ?_) (fun hc => ?_)
      · replace F := F.1 hc
        refine s_incb dX13_isFree_234 ki_1 rfl (Nat.le_of_ble_eq_true rfl) (fun v5_1 ev5_1 => ?_)
        replace F := F v5_1 ev5_1
        show wG _ _ _ _ [some (.ref (co C)), some (.int a1), some (.int a2), some (.int a3), some (.int a4), some (.int v5_1), some (.int a6), none, none] _ _ _
        refine s_goto (t := 172) dX13_isFree_237 rfl ?_
        exact s_k (hB172 _ _ _ _ _ _ F) ⟨rfl, rfl, rfl, rfl, rfl, rfl, trivial⟩
      · replace F := F.2 hc
        refine s_aln dX13_isFree_200 rfl ?_
        refine s_iln dX13_isFree_201 rfl ?_
        refine s_aln dX13_isFree_202 rfl ?_
        refine gf_244 dX13_isFree_203 rfl ?_
        refine s_il dX13_isFree_206 rfl ?_
        refine s_ald hC dX13_isFree_208 rt_121 F.1 ?_
        replace F := F.2
        refine s_iln dX13_isFree_209 rfl ?_
        refine s_aln dX13_isFree_210 rfl ?_
        refine gf_247 dX13_isFree_211 rfl ?_
        refine s_il dX13_isFree_214 rfl ?_
        refine s_ald hC dX13_isFree_216 rt_122 F.1 ?_
        replace F := F.2
        refine s_iln dX13_isFree_217 rfl ?_
        refine s_il dX13_isFree_218 rfl ?_
        refine k_902 dX13_isFree_220 rfl (Nat.le_of_ble_eq_true rfl) (Nat.le_of_ble_eq_true rfl) F (fun r3 σ2 F => ?_)
        refine s_in (t := 228) (r3 = 0) dX13_isFree_223 rfl rfl (fun hc => ?_) (fun hc => ?_)
        · replace F := F.1 hc
          refine s_incb dX13_isFree_228 ki_1 rfl (Nat.le_of_ble_eq_true rfl) (fun v6_4 ev6_4 => ?_)
          replace F := F v6_4 ev6_4
          show wG _ _ _ _ [some (.ref (co C)), some (.int a1), some (.int a2), some (.int a3), some (.int a4), some (.int a5), some (.int v6_4), none, none] _ _ _
          refine s_goto (t := 191) dX13_isFree_231 rfl ?_
          obtain ⟨k, hk, hI⟩ := F
          exact s_k (ih k hk _ _ _ _ _ _ _ hI) ⟨rfl, rfl, rfl, rfl, rfl, rfl, rfl, trivial⟩
        · replace F := F.2 hc
          refine s_ic dX13_isFree_226 ki_0 ?_
          exact s_ri dX13_isFree_227 rfl (nb_nar nb_0) F
  exact key n0 a1 a2 a3 a4 a5 a6 σ hI0

def w_isFree_172 (C : rCx) (Q : Int32 → rS → Prop)  (a1 : Int32) (a2 : Int32) (a3 : Int32) (a4 : Int32) (a5 : Int32) (σ : rS) : Prop :=
  ∃ I : Nat → Int32 → Int32 → Int32 → Int32 → Int32 → rS → Prop, (∃ n, I n a1 a2 a3 a4 a5 σ) ∧ ∀ n a1 a2 a3 a4 a5 σ, I n a1 a2 a3 a4 a5 σ →
    ((σ.1 124) ≤ a5 →
      Q (1 : Int32) σ) ∧
    (¬ ((σ.1 124) ≤ a5) →
      ((σ.1 70) ≤ 0 →
        Q (1 : Int32) σ) ∧
      (¬ ((σ.1 70) ≤ 0) →
        w_isFree_191 C Q (fun a1' a2' a3' a4' a5' τ => ∃ k < n, I k a1' a2' a3' a4' a5' τ) a1 a2 a3 a4 a5 (0 : Int32) σ))
theorem t_isFree_172 {C : rCx} (hC : cOK C) {Q : Int32 → rS → Prop}   {a1 : Int32} {a2 : Int32} {a3 : Int32} {a4 : Int32} {a5 : Int32} {σ : rS} (F : w_isFree_172 C Q  a1 a2 a3 a4 a5 σ) : wG C 8 m_isFree 172 [some (.ref (co C)), some (.int a1), some (.int a2), some (.int a3), some (.int a4), some (.int a5), none, none, none] [] σ (qI Q) := by
  obtain ⟨I, ⟨n0, hI0⟩, F0⟩ := F
  have key : ∀ n a1 a2 a3 a4 a5 σ, I n a1 a2 a3 a4 a5 σ → wG C 8 m_isFree 172 [some (.ref (co C)), some (.int a1), some (.int a2), some (.int a3), some (.int a4), some (.int a5), none, none, none] [] σ (qI Q) := by
    intro n
    induction n using Nat.strongRecOn with
    | _ n ih =>
      intro a1 a2 a3 a4 a5 σ hI
      have F := F0 n a1 a2 a3 a4 a5 σ hI
      clear hI hI0
      refine s_il dX13_isFree_172 rfl ?_
      refine s_aln dX13_isFree_174 rfl ?_
      refine gf_896 dX13_isFree_175 rfl ?_
      refine s_ii (t := 240) ((σ.1 124) ≤ a5) dX13_isFree_178 rfl rfl (fun hc => ?_) (fun hc => ?_)
      · replace F := F.1 hc
        refine s_ic dX13_isFree_240 ki_1 ?_
        exact s_ri dX13_isFree_241 rfl (nb_nar nb_1) F
      · replace F := F.2 hc
        refine s_aln dX13_isFree_181 rfl ?_
        refine gf_542 dX13_isFree_182 rfl ?_
        refine s_i (t := 240) ((σ.1 70) ≤ 0) dX13_isFree_185 rfl rfl (fun hc => ?_) (fun hc => ?_)
        · replace F := F.1 hc
          refine s_ic dX13_isFree_240 ki_1 ?_
          exact s_ri dX13_isFree_241 rfl (nb_nar nb_1) F
        · replace F := F.2 hc
          refine s_ic dX13_isFree_188 ki_0 ?_
          refine s_is dX13_isFree_189 (Nat.le_of_ble_eq_true rfl) rfl ?_
          show wG _ _ _ _ [some (.ref (co C)), some (.int a1), some (.int a2), some (.int a3), some (.int a4), some (.int a5), some (.int (0 : Int32)), none, none] _ _ _
          exact s_k (t_isFree_191 hC (fun a1' a2' a3' a4' a5' τ hb => by obtain ⟨k, hk, hI⟩ := hb; exact ih k hk a1' a2' a3' a4' a5' τ hI) F) ⟨rfl, rfl, rfl, rfl, rfl, rfl, rfl, trivial⟩
  exact key n0 a1 a2 a3 a4 a5 σ hI0

def w_isFree_35 (C : rCx) (Q : Int32 → rS → Prop)  (a1 : Int32) (a2 : Int32) (a3 : Int32) (a4 : Int32) (a5 : Int32) (σ : rS) : Prop :=
  ∃ I : Nat → Int32 → Int32 → Int32 → Int32 → Int32 → rS → Prop, (∃ n, I n a1 a2 a3 a4 a5 σ) ∧ ∀ n a1 a2 a3 a4 a5 σ, I n a1 a2 a3 a4 a5 σ →
    ((σ.1 124) ≤ a5 →
      w_isFree_172 C Q  a1 a2 a3 a4 (0 : Int32) σ) ∧
    (¬ ((σ.1 124) ≤ a5) →
      w_isFree_47 C Q (fun a1' a2' a3' a4' a5' τ => ∃ k < n, I k a1' a2' a3' a4' a5' τ) a1 a2 a3 a4 a5 (0 : Int32) σ)
theorem t_isFree_35 {C : rCx} (hC : cOK C) {Q : Int32 → rS → Prop}   {a1 : Int32} {a2 : Int32} {a3 : Int32} {a4 : Int32} {a5 : Int32} {σ : rS} (F : w_isFree_35 C Q  a1 a2 a3 a4 a5 σ) : wG C 8 m_isFree 35 [some (.ref (co C)), some (.int a1), some (.int a2), some (.int a3), some (.int a4), some (.int a5), none, none, none] [] σ (qI Q) := by
  obtain ⟨I, ⟨n0, hI0⟩, F0⟩ := F
  have key : ∀ n a1 a2 a3 a4 a5 σ, I n a1 a2 a3 a4 a5 σ → wG C 8 m_isFree 35 [some (.ref (co C)), some (.int a1), some (.int a2), some (.int a3), some (.int a4), some (.int a5), none, none, none] [] σ (qI Q) := by
    intro n
    induction n using Nat.strongRecOn with
    | _ n ih =>
      intro a1 a2 a3 a4 a5 σ hI
      have F := F0 n a1 a2 a3 a4 a5 σ hI
      clear hI hI0
      refine s_il dX13_isFree_35 rfl ?_
      refine s_aln dX13_isFree_37 rfl ?_
      refine gf_896 dX13_isFree_38 rfl ?_
      refine s_ii (t := 169) ((σ.1 124) ≤ a5) dX13_isFree_41 rfl rfl (fun hc => ?_) (fun hc => ?_)
      · replace F := F.1 hc
        refine s_ic dX13_isFree_169 ki_0 ?_
        refine s_is dX13_isFree_170 (Nat.le_of_ble_eq_true rfl) rfl ?_
        show wG _ _ _ _ [some (.ref (co C)), some (.int a1), some (.int a2), some (.int a3), some (.int a4), some (.int (0 : Int32)), none, none, none] _ _ _
        exact s_k (t_isFree_172 hC  F) ⟨rfl, rfl, rfl, rfl, rfl, rfl, trivial⟩
      · replace F := F.2 hc
        refine s_ic dX13_isFree_44 ki_0 ?_
        refine s_is dX13_isFree_45 (Nat.le_of_ble_eq_true rfl) rfl ?_
        show wG _ _ _ _ [some (.ref (co C)), some (.int a1), some (.int a2), some (.int a3), some (.int a4), some (.int a5), some (.int (0 : Int32)), none, none] _ _ _
        exact s_k (t_isFree_47 hC (fun a1' a2' a3' a4' a5' τ hb => by obtain ⟨k, hk, hI⟩ := hb; exact ih k hk a1' a2' a3' a4' a5' τ hI) F) ⟨rfl, rfl, rfl, rfl, rfl, rfl, rfl, trivial⟩
  exact key n0 a1 a2 a3 a4 a5 σ hI0

def w_isFree_0 (C : rCx) (Q : Int32 → rS → Prop)  (a1 : Int32) (a2 : Int32) (a3 : Int32) (a4 : Int32) (σ : rS) : Prop :=
  cI C 1 m_list [.ref (co C), .ref (cad C 121), .int a1, .int a3, .int a4] σ (fun r2 σ1 =>
    ∀ σ3, σ3 = siU σ1 124 r2 →
    cI C 1 m_list [.ref (co C), .ref (cad C 122), .int a2, .int a3, .int a4] σ3 (fun r5 σ4 =>
      ∀ σ6, σ6 = siU σ4 125 r5 →
      w_isFree_35 C Q  a1 a2 a3 a4 (0 : Int32) σ6))
theorem t_isFree_0 {C : rCx} (hC : cOK C) {Q : Int32 → rS → Prop}   {a1 : Int32} {a2 : Int32} {a3 : Int32} {a4 : Int32} {σ : rS} (F : w_isFree_0 C Q  a1 a2 a3 a4 σ) : wG C 8 m_isFree 0 [some (.ref (co C)), some (.int a1), some (.int a2), some (.int a3), some (.int a4), none, none, none, none] [] σ (qI Q) := by
  unfold w_isFree_0 at F
  refine s_aln dX13_isFree_0 rfl ?_
  refine s_aln dX13_isFree_1 rfl ?_
  refine s_aln dX13_isFree_2 rfl ?_
  refine gf_244 dX13_isFree_3 rfl ?_
  refine s_iln dX13_isFree_6 rfl ?_
  refine s_iln dX13_isFree_7 rfl ?_
  refine s_il dX13_isFree_8 rfl ?_
  refine k_892 dX13_isFree_10 rfl (Nat.le_of_ble_eq_true rfl) (Nat.le_of_ble_eq_true rfl) F (fun r2 σ1 F => ?_)
  refine pf_896 hC dX13_isFree_13 rfl (fun σ3 eσ3 => ?_)
  replace F := F σ3 eσ3
  refine s_aln dX13_isFree_16 rfl ?_
  refine s_aln dX13_isFree_17 rfl ?_
  refine s_aln dX13_isFree_18 rfl ?_
  refine gf_247 dX13_isFree_19 rfl ?_
  refine s_iln dX13_isFree_22 rfl ?_
  refine s_iln dX13_isFree_23 rfl ?_
  refine s_il dX13_isFree_24 rfl ?_
  refine k_892 dX13_isFree_26 rfl (Nat.le_of_ble_eq_true rfl) (Nat.le_of_ble_eq_true rfl) F (fun r5 σ4 F => ?_)
  refine pf_899 hC dX13_isFree_29 rfl (fun σ6 eσ6 => ?_)
  replace F := F σ6 eσ6
  refine s_ic dX13_isFree_32 ki_0 ?_
  refine s_is dX13_isFree_33 (Nat.le_of_ble_eq_true rfl) rfl ?_
  show wG _ _ _ _ [some (.ref (co C)), some (.int a1), some (.int a2), some (.int a3), some (.int a4), some (.int (0 : Int32)), none, none, none] _ _ _
  exact s_k (t_isFree_35 hC  F) ⟨rfl, rfl, rfl, rfl, rfl, rfl, trivial⟩

theorem m_isFree_run {C : rCx} (hC : cOK C) {Q : Int32 → rS → Prop} {a1 : Int32} {a2 : Int32} {a3 : Int32} {a4 : Int32} {σ : rS} (F : w_isFree_0 C Q a1 a2 a3 a4 σ) : cI C 8 m_isFree [.ref (co C), .int a1, .int a2, .int a3, .int a4] σ Q := m_I (m_ent _ 4) (t_isFree_0 hC F)

theorem dX13_isGlobal_0 : decode cX13_isGlobal 0 = .ok (.iload_n 1, 1) := by decide +kernel
theorem dX13_isGlobal_1 : decode cX13_isGlobal 1 = .ok (.aload_n 0, 1) := by decide +kernel
theorem dX13_isGlobal_2 : decode cX13_isGlobal 2 = .ok (.getfield 333, 3) := by decide +kernel
theorem dX13_isGlobal_5 : decode cX13_isGlobal 5 = .ok (.aload_n 0, 1) := by decide +kernel
theorem dX13_isGlobal_6 : decode cX13_isGlobal 6 = .ok (.getfield 369, 3) := by decide +kernel
theorem dX13_isGlobal_9 : decode cX13_isGlobal 9 = .ok (.iadd, 1) := by decide +kernel
theorem dX13_isGlobal_10 : decode cX13_isGlobal 10 = .ok (.invokestatic 807, 3) := by decide +kernel
theorem dX13_isGlobal_13 : decode cX13_isGlobal 13 = .ok (.ireturn, 1) := by decide +kernel
def w_isGlobal_0 (C : rCx) (Q : Int32 → rS → Prop)  (a1 : Int32) (σ : rS) : Prop :=
  cI C 0 m_isSlot [.int a1, .int ((σ.1 15) + (σ.1 17))] σ (fun r2 σ1 =>
    nb r2 ∧ Q r2 σ1)
theorem t_isGlobal_0 {C : rCx} (hC : cOK C) {Q : Int32 → rS → Prop}   {a1 : Int32} {σ : rS} (F : w_isGlobal_0 C Q  a1 σ) : wG C 1 m_isGlobal 0 [some (.ref (co C)), some (.int a1)] [] σ (qI Q) := by
  unfold w_isGlobal_0 at F
  refine s_iln dX13_isGlobal_0 rfl ?_
  refine s_aln dX13_isGlobal_1 rfl ?_
  refine gf_333 dX13_isGlobal_2 rfl ?_
  refine s_aln dX13_isGlobal_5 rfl ?_
  refine gf_369 dX13_isGlobal_6 rfl ?_
  refine s_iadd dX13_isGlobal_9 ?_
  refine k_807 dX13_isGlobal_10 rfl (Nat.le_of_ble_eq_true rfl) (Nat.le_of_ble_eq_true rfl) F (fun r2 σ1 F => ?_)
  exact s_ri dX13_isGlobal_13 rfl (nb_nar F.1) F.2

theorem m_isGlobal_run {C : rCx} (hC : cOK C) {Q : Int32 → rS → Prop} {a1 : Int32} {σ : rS} (F : w_isGlobal_0 C Q a1 σ) : cI C 1 m_isGlobal [.ref (co C), .int a1] σ Q := m_I (m_ent _ 0) (t_isGlobal_0 hC F)

theorem dX13_independent_0 : decode cX13_independent 0 = .ok (.aload_n 0, 1) := by decide +kernel
theorem dX13_independent_1 : decode cX13_independent 1 = .ok (.aload_n 0, 1) := by decide +kernel
theorem dX13_independent_2 : decode cX13_independent 2 = .ok (.getfield 536, 3) := by decide +kernel
theorem dX13_independent_5 : decode cX13_independent 5 = .ok (.ifCond .ne 7, 3) := by decide +kernel
theorem dX13_independent_8 : decode cX13_independent 8 = .ok (.iconst 1, 1) := by decide +kernel
theorem dX13_independent_9 : decode cX13_independent 9 = .ok (.goto 24, 3) := by decide +kernel
theorem dX13_independent_12 : decode cX13_independent 12 = .ok (.aload_n 0, 1) := by decide +kernel
theorem dX13_independent_13 : decode cX13_independent 13 = .ok (.iload_n 1, 1) := by decide +kernel
theorem dX13_independent_14 : decode cX13_independent 14 = .ok (.invokevirtual 906, 3) := by decide +kernel
theorem dX13_independent_17 : decode cX13_independent 17 = .ok (.ifCond .eq 11, 3) := by decide +kernel
theorem dX13_independent_20 : decode cX13_independent 20 = .ok (.aload_n 0, 1) := by decide +kernel
theorem dX13_independent_21 : decode cX13_independent 21 = .ok (.iload_n 2, 1) := by decide +kernel
theorem dX13_independent_22 : decode cX13_independent 22 = .ok (.invokevirtual 906, 3) := by decide +kernel
theorem dX13_independent_25 : decode cX13_independent 25 = .ok (.ifCond .ne 7, 3) := by decide +kernel
theorem dX13_independent_28 : decode cX13_independent 28 = .ok (.iconst 2, 1) := by decide +kernel
theorem dX13_independent_29 : decode cX13_independent 29 = .ok (.goto 4, 3) := by decide +kernel
theorem dX13_independent_32 : decode cX13_independent 32 = .ok (.iconst 0, 1) := by decide +kernel
theorem dX13_independent_33 : decode cX13_independent 33 = .ok (.putfield 1, 3) := by decide +kernel
theorem dX13_independent_36 : decode cX13_independent 36 = .ok (.aload_n 0, 1) := by decide +kernel
theorem dX13_independent_37 : decode cX13_independent 37 = .ok (.getfield 1, 3) := by decide +kernel
theorem dX13_independent_40 : decode cX13_independent 40 = .ok (.ifCond .le 5, 3) := by decide +kernel
theorem dX13_independent_43 : decode cX13_independent 43 = .ok (.iconst 0, 1) := by decide +kernel
theorem dX13_independent_44 : decode cX13_independent 44 = .ok (.ireturn, 1) := by decide +kernel
theorem dX13_independent_45 : decode cX13_independent 45 = .ok (.aload_n 0, 1) := by decide +kernel
theorem dX13_independent_46 : decode cX13_independent 46 = .ok (.invokevirtual 909, 3) := by decide +kernel
theorem dX13_independent_49 : decode cX13_independent 49 = .ok (.aload_n 0, 1) := by decide +kernel
theorem dX13_independent_50 : decode cX13_independent 50 = .ok (.iload_n 1, 1) := by decide +kernel
theorem dX13_independent_51 : decode cX13_independent 51 = .ok (.iload_n 2, 1) := by decide +kernel
theorem dX13_independent_52 : decode cX13_independent 52 = .ok (.iconst (-1), 1) := by decide +kernel
theorem dX13_independent_53 : decode cX13_independent 53 = .ok (.iconst 0, 1) := by decide +kernel
theorem dX13_independent_54 : decode cX13_independent 54 = .ok (.invokevirtual 912, 3) := by decide +kernel
theorem dX13_independent_57 : decode cX13_independent 57 = .ok (.ireturn, 1) := by decide +kernel
def w_independent_33 (C : rCx) (Q : Int32 → rS → Prop)  (a1 : Int32) (a2 : Int32) (s1 : Int32) (σ : rS) : Prop :=
  ∀ σ1, σ1 = siU σ 0 s1 →
  ((σ1.1 0) ≤ 0 →
    cV C 1 m_findHeavy [.ref (co C)] σ1 (fun σ2 =>
      cI C 8 m_isFree [.ref (co C), .int a1, .int a2, .int (-1 : Int32), .int (0 : Int32)] σ2 (fun r5 σ4 =>
        nb r5 ∧ Q r5 σ4))) ∧
  (¬ ((σ1.1 0) ≤ 0) →
    Q (0 : Int32) σ1)
theorem t_independent_33 {C : rCx} (hC : cOK C) {Q : Int32 → rS → Prop}   {a1 : Int32} {a2 : Int32} {s1 : Int32} {σ : rS} (F : w_independent_33 C Q  a1 a2 s1 σ) : wG C 9 m_independent 33 [some (.ref (co C)), some (.int a1), some (.int a2)] [.int s1, .ref (co C)] σ (qI Q) := by
  unfold w_independent_33 at F
  refine pf_1 hC dX13_independent_33 rfl (fun σ1 eσ1 => ?_)
  replace F := F σ1 eσ1
  refine s_aln dX13_independent_36 rfl ?_
  refine gf_1 dX13_independent_37 rfl ?_
  refine s_i (t := 45) ((σ1.1 0) ≤ 0) dX13_independent_40 rfl rfl (fun hc => ?_) (fun hc => ?_)
  · replace F := F.1 hc
    refine s_aln dX13_independent_45 rfl ?_
    refine k_909 dX13_independent_46 rfl (Nat.le_of_ble_eq_true rfl) (Nat.le_of_ble_eq_true rfl) F (fun σ2 F => ?_)
    refine s_aln dX13_independent_49 rfl ?_
    refine s_iln dX13_independent_50 rfl ?_
    refine s_iln dX13_independent_51 rfl ?_
    refine s_ic dX13_independent_52 ki_m1 ?_
    refine s_ic dX13_independent_53 ki_0 ?_
    refine k_912 dX13_independent_54 rfl (Nat.le_of_ble_eq_true rfl) (Nat.le_of_ble_eq_true rfl) F (fun r5 σ4 F => ?_)
    exact s_ri dX13_independent_57 rfl (nb_nar F.1) F.2
  · replace F := F.2 hc
    refine s_ic dX13_independent_43 ki_0 ?_
    exact s_ri dX13_independent_44 rfl (nb_nar nb_0) F

def w_independent_0 (C : rCx) (Q : Int32 → rS → Prop)  (a1 : Int32) (a2 : Int32) (σ : rS) : Prop :=
  (¬ ((σ.1 94) = 0) →
    cI C 1 m_isGlobal [.ref (co C), .int a1] σ (fun r2 σ1 =>
      (r2 = 0 →
        w_independent_33 C Q  a1 a2 (2 : Int32) σ1) ∧
      (¬ (r2 = 0) →
        cI C 1 m_isGlobal [.ref (co C), .int a2] σ1 (fun r4 σ3 =>
          (¬ (r4 = 0) →
            w_independent_33 C Q  a1 a2 (0 : Int32) σ3) ∧
          (r4 = 0 →
            w_independent_33 C Q  a1 a2 (2 : Int32) σ3))))) ∧
  ((σ.1 94) = 0 →
    w_independent_33 C Q  a1 a2 (1 : Int32) σ)
theorem t_independent_0 {C : rCx} (hC : cOK C) {Q : Int32 → rS → Prop}   {a1 : Int32} {a2 : Int32} {σ : rS} (F : w_independent_0 C Q  a1 a2 σ) : wG C 9 m_independent 0 [some (.ref (co C)), some (.int a1), some (.int a2)] [] σ (qI Q) := by
  unfold w_independent_0 at F
  refine s_aln dX13_independent_0 rfl ?_
  refine s_aln dX13_independent_1 rfl ?_
  refine gf_536 dX13_independent_2 rfl ?_
  refine s_in (t := 12) ((σ.1 94) = 0) dX13_independent_5 rfl rfl (fun hc => ?_) (fun hc => ?_)
  · replace F := F.1 hc
    refine s_aln dX13_independent_12 rfl ?_
    refine s_iln dX13_independent_13 rfl ?_
    refine k_906 dX13_independent_14 rfl (Nat.le_of_ble_eq_true rfl) (Nat.le_of_ble_eq_true rfl) F (fun r2 σ1 F => ?_)
    refine s_i (t := 28) (r2 = 0) dX13_independent_17 rfl rfl (fun hc => ?_) (fun hc => ?_)
    · replace F := F.1 hc
      refine s_ic dX13_independent_28 ki_2 ?_
      refine s_goto (t := 33) dX13_independent_29 rfl ?_
      exact s_k (t_independent_33 hC  F) ⟨rfl, rfl, rfl, trivial⟩
    · replace F := F.2 hc
      refine s_aln dX13_independent_20 rfl ?_
      refine s_iln dX13_independent_21 rfl ?_
      refine k_906 dX13_independent_22 rfl (Nat.le_of_ble_eq_true rfl) (Nat.le_of_ble_eq_true rfl) F (fun r4 σ3 F => ?_)
      refine s_in (t := 32) (r4 = 0) dX13_independent_25 rfl rfl (fun hc => ?_) (fun hc => ?_)
      · replace F := F.1 hc
        refine s_ic dX13_independent_32 ki_0 ?_
        exact s_k (t_independent_33 hC  F) ⟨rfl, rfl, rfl, trivial⟩
      · replace F := F.2 hc
        refine s_ic dX13_independent_28 ki_2 ?_
        refine s_goto (t := 33) dX13_independent_29 rfl ?_
        exact s_k (t_independent_33 hC  F) ⟨rfl, rfl, rfl, trivial⟩
  · replace F := F.2 hc
    refine s_ic dX13_independent_8 ki_1 ?_
    refine s_goto (t := 33) dX13_independent_9 rfl ?_
    exact s_k (t_independent_33 hC  F) ⟨rfl, rfl, rfl, trivial⟩

theorem m_independent_run {C : rCx} (hC : cOK C) {Q : Int32 → rS → Prop} {a1 : Int32} {a2 : Int32} {σ : rS} (F : w_independent_0 C Q a1 a2 σ) : cI C 9 m_independent [.ref (co C), .int a1, .int a2] σ Q := m_I (m_ent _ 0) (t_independent_0 hC F)

theorem dX13_given_0 : decode cX13_given 0 = .ok (.aload_n 0, 1) := by decide +kernel
theorem dX13_given_1 : decode cX13_given 1 = .ok (.aload_n 0, 1) := by decide +kernel
theorem dX13_given_2 : decode cX13_given 2 = .ok (.getfield 536, 3) := by decide +kernel
theorem dX13_given_5 : decode cX13_given 5 = .ok (.ifCond .ne 7, 3) := by decide +kernel
theorem dX13_given_8 : decode cX13_given 8 = .ok (.iconst 1, 1) := by decide +kernel
theorem dX13_given_9 : decode cX13_given 9 = .ok (.goto 32, 3) := by decide +kernel
theorem dX13_given_12 : decode cX13_given 12 = .ok (.aload_n 0, 1) := by decide +kernel
theorem dX13_given_13 : decode cX13_given 13 = .ok (.iload_n 1, 1) := by decide +kernel
theorem dX13_given_14 : decode cX13_given 14 = .ok (.invokevirtual 906, 3) := by decide +kernel
theorem dX13_given_17 : decode cX13_given 17 = .ok (.ifCond .eq 19, 3) := by decide +kernel
theorem dX13_given_20 : decode cX13_given 20 = .ok (.aload_n 0, 1) := by decide +kernel
theorem dX13_given_21 : decode cX13_given 21 = .ok (.iload_n 2, 1) := by decide +kernel
theorem dX13_given_22 : decode cX13_given 22 = .ok (.invokevirtual 906, 3) := by decide +kernel
theorem dX13_given_25 : decode cX13_given 25 = .ok (.ifCond .eq 11, 3) := by decide +kernel
theorem dX13_given_28 : decode cX13_given 28 = .ok (.aload_n 0, 1) := by decide +kernel
theorem dX13_given_29 : decode cX13_given 29 = .ok (.iload_n 3, 1) := by decide +kernel
theorem dX13_given_30 : decode cX13_given 30 = .ok (.invokevirtual 906, 3) := by decide +kernel
theorem dX13_given_33 : decode cX13_given 33 = .ok (.ifCond .ne 7, 3) := by decide +kernel
theorem dX13_given_36 : decode cX13_given 36 = .ok (.iconst 2, 1) := by decide +kernel
theorem dX13_given_37 : decode cX13_given 37 = .ok (.goto 4, 3) := by decide +kernel
theorem dX13_given_40 : decode cX13_given 40 = .ok (.iconst 0, 1) := by decide +kernel
theorem dX13_given_41 : decode cX13_given 41 = .ok (.putfield 1, 3) := by decide +kernel
theorem dX13_given_44 : decode cX13_given 44 = .ok (.aload_n 0, 1) := by decide +kernel
theorem dX13_given_45 : decode cX13_given 45 = .ok (.getfield 1, 3) := by decide +kernel
theorem dX13_given_48 : decode cX13_given 48 = .ok (.ifCond .le 5, 3) := by decide +kernel
theorem dX13_given_51 : decode cX13_given 51 = .ok (.iconst 0, 1) := by decide +kernel
theorem dX13_given_52 : decode cX13_given 52 = .ok (.ireturn, 1) := by decide +kernel
theorem dX13_given_53 : decode cX13_given 53 = .ok (.aload_n 0, 1) := by decide +kernel
theorem dX13_given_54 : decode cX13_given 54 = .ok (.invokevirtual 909, 3) := by decide +kernel
theorem dX13_given_57 : decode cX13_given 57 = .ok (.aload_n 0, 1) := by decide +kernel
theorem dX13_given_58 : decode cX13_given 58 = .ok (.aload_n 0, 1) := by decide +kernel
theorem dX13_given_59 : decode cX13_given 59 = .ok (.getfield 250, 3) := by decide +kernel
theorem dX13_given_62 : decode cX13_given 62 = .ok (.iload_n 3, 1) := by decide +kernel
theorem dX13_given_63 : decode cX13_given 63 = .ok (.iconst (-1), 1) := by decide +kernel
theorem dX13_given_64 : decode cX13_given 64 = .ok (.iconst 0, 1) := by decide +kernel
theorem dX13_given_65 : decode cX13_given 65 = .ok (.invokevirtual 892, 3) := by decide +kernel
theorem dX13_given_68 : decode cX13_given 68 = .ok (.istore 4, 2) := by decide +kernel
theorem dX13_given_70 : decode cX13_given 70 = .ok (.iconst 1, 1) := by decide +kernel
theorem dX13_given_71 : decode cX13_given 71 = .ok (.istore 5, 2) := by decide +kernel
theorem dX13_given_73 : decode cX13_given 73 = .ok (.iconst 0, 1) := by decide +kernel
theorem dX13_given_74 : decode cX13_given 74 = .ok (.istore 6, 2) := by decide +kernel
theorem dX13_given_76 : decode cX13_given 76 = .ok (.iload 6, 2) := by decide +kernel
theorem dX13_given_78 : decode cX13_given 78 = .ok (.iload 4, 2) := by decide +kernel
theorem dX13_given_80 : decode cX13_given 80 = .ok (.if_icmp .ge 30, 3) := by decide +kernel
theorem dX13_given_83 : decode cX13_given 83 = .ok (.iload 5, 2) := by decide +kernel
theorem dX13_given_85 : decode cX13_given 85 = .ok (.ifCond .eq 25, 3) := by decide +kernel
theorem dX13_given_88 : decode cX13_given 88 = .ok (.aload_n 0, 1) := by decide +kernel
theorem dX13_given_89 : decode cX13_given 89 = .ok (.iload_n 1, 1) := by decide +kernel
theorem dX13_given_90 : decode cX13_given 90 = .ok (.iload_n 2, 1) := by decide +kernel
theorem dX13_given_91 : decode cX13_given 91 = .ok (.iload_n 3, 1) := by decide +kernel
theorem dX13_given_92 : decode cX13_given 92 = .ok (.aload_n 0, 1) := by decide +kernel
theorem dX13_given_93 : decode cX13_given 93 = .ok (.getfield 250, 3) := by decide +kernel
theorem dX13_given_96 : decode cX13_given 96 = .ok (.iload 6, 2) := by decide +kernel
theorem dX13_given_98 : decode cX13_given 98 = .ok (.iaload, 1) := by decide +kernel
theorem dX13_given_99 : decode cX13_given 99 = .ok (.invokevirtual 912, 3) := by decide +kernel
theorem dX13_given_102 : decode cX13_given 102 = .ok (.istore 5, 2) := by decide +kernel
theorem dX13_given_104 : decode cX13_given 104 = .ok (.iinc 6 1, 3) := by decide +kernel
theorem dX13_given_107 : decode cX13_given 107 = .ok (.goto (-31), 3) := by decide +kernel
theorem dX13_given_110 : decode cX13_given 110 = .ok (.iload 5, 2) := by decide +kernel
theorem dX13_given_112 : decode cX13_given 112 = .ok (.ireturn, 1) := by decide +kernel
def w_given_76 (C : rCx) (Q : Int32 → rS → Prop)  (a1 : Int32) (a2 : Int32) (a3 : Int32) (a4 : Int32) (a5 : Int32) (a6 : Int32) (σ : rS) : Prop :=
  ∃ I : Nat → Int32 → Int32 → Int32 → Int32 → Int32 → Int32 → rS → Prop, (∃ n, I n a1 a2 a3 a4 a5 a6 σ) ∧ ∀ n a1 a2 a3 a4 a5 a6 σ, I n a1 a2 a3 a4 a5 a6 σ →
    (a4 ≤ a6 →
      nb a5 ∧ Q a5 σ) ∧
    (¬ (a4 ≤ a6) →
      (a5 = 0 →
        nb a5 ∧ Q a5 σ) ∧
      (¬ (a5 = 0) →
        inb a6 1000 ∧
        cI C 8 m_isFree [.ref (co C), .int a1, .int a2, .int a3, .int (σ.2.2.1 123 (a6).toNatClampNeg)] σ (fun r2 σ1 =>
          ∀ v6_3 : Int32, v6_3 = a6 + (1 : Int32) →
          ∃ k < n, I k a1 a2 a3 a4 r2 v6_3 σ1)))
theorem t_given_76 {C : rCx} (hC : cOK C) {Q : Int32 → rS → Prop}   {a1 : Int32} {a2 : Int32} {a3 : Int32} {a4 : Int32} {a5 : Int32} {a6 : Int32} {σ : rS} (F : w_given_76 C Q  a1 a2 a3 a4 a5 a6 σ) : wG C 9 m_given 76 [some (.ref (co C)), some (.int a1), some (.int a2), some (.int a3), some (.int a4), some (.int a5), some (.int a6)] [] σ (qI Q) := by
  obtain ⟨I, ⟨n0, hI0⟩, F0⟩ := F
  have key : ∀ n a1 a2 a3 a4 a5 a6 σ, I n a1 a2 a3 a4 a5 a6 σ → wG C 9 m_given 76 [some (.ref (co C)), some (.int a1), some (.int a2), some (.int a3), some (.int a4), some (.int a5), some (.int a6)] [] σ (qI Q) := by
    intro n
    induction n using Nat.strongRecOn with
    | _ n ih =>
      intro a1 a2 a3 a4 a5 a6 σ hI
      have F := F0 n a1 a2 a3 a4 a5 a6 σ hI
      clear hI hI0
      refine s_il dX13_given_76 rfl ?_
      refine s_il dX13_given_78 rfl ?_
      refine s_ii (t := 110) (a4 ≤ a6) dX13_given_80 rfl rfl (fun hc => ?_) (fun hc => ?_)
      · replace F := F.1 hc
        refine s_il dX13_given_110 rfl ?_
        exact s_ri dX13_given_112 rfl (nb_nar F.1) F.2
      · replace F := F.2 hc
        refine s_il dX13_given_83 rfl ?_
        refine s_i (t := 110) (a5 = 0) dX13_given_85 rfl rfl (fun hc => ?_) (fun hc => ?_)
        · replace F := F.1 hc
          refine s_il dX13_given_110 rfl ?_
          exact s_ri dX13_given_112 rfl (nb_nar F.1) F.2
        · replace F := F.2 hc
          refine s_aln dX13_given_88 rfl ?_
          refine s_iln dX13_given_89 rfl ?_
          refine s_iln dX13_given_90 rfl ?_
          refine s_iln dX13_given_91 rfl ?_
          refine s_aln dX13_given_92 rfl ?_
          refine gf_250 dX13_given_93 rfl ?_
          refine s_il dX13_given_96 rfl ?_
          refine s_ald hC dX13_given_98 rt_123 F.1 ?_
          replace F := F.2
          refine k_912 dX13_given_99 rfl (Nat.le_of_ble_eq_true rfl) (Nat.le_of_ble_eq_true rfl) F (fun r2 σ1 F => ?_)
          refine s_is dX13_given_102 (Nat.le_of_ble_eq_true rfl) rfl ?_
          show wG _ _ _ _ [some (.ref (co C)), some (.int a1), some (.int a2), some (.int a3), some (.int a4), some (.int r2), some (.int a6)] _ _ _
          refine s_incb dX13_given_104 ki_1 rfl (Nat.le_of_ble_eq_true rfl) (fun v6_3 ev6_3 => ?_)
          replace F := F v6_3 ev6_3
          show wG _ _ _ _ [some (.ref (co C)), some (.int a1), some (.int a2), some (.int a3), some (.int a4), some (.int r2), some (.int v6_3)] _ _ _
          refine s_goto (t := 76) dX13_given_107 rfl ?_
          obtain ⟨k, hk, hI⟩ := F
          exact s_k (ih k hk _ _ _ _ _ _ _ hI) ⟨rfl, rfl, rfl, rfl, rfl, rfl, rfl, trivial⟩
  exact key n0 a1 a2 a3 a4 a5 a6 σ hI0

def w_given_41 (C : rCx) (Q : Int32 → rS → Prop)  (a1 : Int32) (a2 : Int32) (a3 : Int32) (s1 : Int32) (σ : rS) : Prop :=
  ∀ σ1, σ1 = siU σ 0 s1 →
  ((σ1.1 0) ≤ 0 →
    cV C 1 m_findHeavy [.ref (co C)] σ1 (fun σ2 =>
      cI C 1 m_list [.ref (co C), .ref (cad C 123), .int a3, .int (-1 : Int32), .int (0 : Int32)] σ2 (fun r5 σ4 =>
        w_given_76 C Q  a1 a2 a3 r5 (1 : Int32) (0 : Int32) σ4))) ∧
  (¬ ((σ1.1 0) ≤ 0) →
    Q (0 : Int32) σ1)
theorem t_given_41 {C : rCx} (hC : cOK C) {Q : Int32 → rS → Prop}   {a1 : Int32} {a2 : Int32} {a3 : Int32} {s1 : Int32} {σ : rS} (F : w_given_41 C Q  a1 a2 a3 s1 σ) : wG C 9 m_given 41 [some (.ref (co C)), some (.int a1), some (.int a2), some (.int a3), none, none, none] [.int s1, .ref (co C)] σ (qI Q) := by
  unfold w_given_41 at F
  refine pf_1 hC dX13_given_41 rfl (fun σ1 eσ1 => ?_)
  replace F := F σ1 eσ1
  refine s_aln dX13_given_44 rfl ?_
  refine gf_1 dX13_given_45 rfl ?_
  refine s_i (t := 53) ((σ1.1 0) ≤ 0) dX13_given_48 rfl rfl (fun hc => ?_) (fun hc => ?_)
  · replace F := F.1 hc
    refine s_aln dX13_given_53 rfl ?_
    refine k_909 dX13_given_54 rfl (Nat.le_of_ble_eq_true rfl) (Nat.le_of_ble_eq_true rfl) F (fun σ2 F => ?_)
    refine s_aln dX13_given_57 rfl ?_
    refine s_aln dX13_given_58 rfl ?_
    refine gf_250 dX13_given_59 rfl ?_
    refine s_iln dX13_given_62 rfl ?_
    refine s_ic dX13_given_63 ki_m1 ?_
    refine s_ic dX13_given_64 ki_0 ?_
    refine k_892 dX13_given_65 rfl (Nat.le_of_ble_eq_true rfl) (Nat.le_of_ble_eq_true rfl) F (fun r5 σ4 F => ?_)
    refine s_is dX13_given_68 (Nat.le_of_ble_eq_true rfl) rfl ?_
    show wG _ _ _ _ [some (.ref (co C)), some (.int a1), some (.int a2), some (.int a3), some (.int r5), none, none] _ _ _
    refine s_ic dX13_given_70 ki_1 ?_
    refine s_is dX13_given_71 (Nat.le_of_ble_eq_true rfl) rfl ?_
    show wG _ _ _ _ [some (.ref (co C)), some (.int a1), some (.int a2), some (.int a3), some (.int r5), some (.int (1 : Int32)), none] _ _ _
    refine s_ic dX13_given_73 ki_0 ?_
    refine s_is dX13_given_74 (Nat.le_of_ble_eq_true rfl) rfl ?_
    show wG _ _ _ _ [some (.ref (co C)), some (.int a1), some (.int a2), some (.int a3), some (.int r5), some (.int (1 : Int32)), some (.int (0 : Int32))] _ _ _
    exact s_k (t_given_76 hC  F) ⟨rfl, rfl, rfl, rfl, rfl, rfl, rfl, trivial⟩
  · replace F := F.2 hc
    refine s_ic dX13_given_51 ki_0 ?_
    exact s_ri dX13_given_52 rfl (nb_nar nb_0) F

def w_given_0 (C : rCx) (Q : Int32 → rS → Prop)  (a1 : Int32) (a2 : Int32) (a3 : Int32) (σ : rS) : Prop :=
  (¬ ((σ.1 94) = 0) →
    cI C 1 m_isGlobal [.ref (co C), .int a1] σ (fun r2 σ1 =>
      (r2 = 0 →
        w_given_41 C Q  a1 a2 a3 (2 : Int32) σ1) ∧
      (¬ (r2 = 0) →
        cI C 1 m_isGlobal [.ref (co C), .int a2] σ1 (fun r4 σ3 =>
          (r4 = 0 →
            w_given_41 C Q  a1 a2 a3 (2 : Int32) σ3) ∧
          (¬ (r4 = 0) →
            cI C 1 m_isGlobal [.ref (co C), .int a3] σ3 (fun r6 σ5 =>
              (¬ (r6 = 0) →
                w_given_41 C Q  a1 a2 a3 (0 : Int32) σ5) ∧
              (r6 = 0 →
                w_given_41 C Q  a1 a2 a3 (2 : Int32) σ5))))))) ∧
  ((σ.1 94) = 0 →
    w_given_41 C Q  a1 a2 a3 (1 : Int32) σ)
theorem t_given_0 {C : rCx} (hC : cOK C) {Q : Int32 → rS → Prop}   {a1 : Int32} {a2 : Int32} {a3 : Int32} {σ : rS} (F : w_given_0 C Q  a1 a2 a3 σ) : wG C 9 m_given 0 [some (.ref (co C)), some (.int a1), some (.int a2), some (.int a3), none, none, none] [] σ (qI Q) := by
  unfold w_given_0 at F
  refine s_aln dX13_given_0 rfl ?_
  refine s_aln dX13_given_1 rfl ?_
  refine gf_536 dX13_given_2 rfl ?_
  refine s_in (t := 12) ((σ.1 94) = 0) dX13_given_5 rfl rfl (fun hc => ?_) (fun hc => ?_)
  · replace F := F.1 hc
    refine s_aln dX13_given_12 rfl ?_
    refine s_iln dX13_given_13 rfl ?_
    refine k_906 dX13_given_14 rfl (Nat.le_of_ble_eq_true rfl) (Nat.le_of_ble_eq_true rfl) F (fun r2 σ1 F => ?_)
    refine s_i (t := 36) (r2 = 0) dX13_given_17 rfl rfl (fun hc => ?_) (fun hc => ?_)
    · replace F := F.1 hc
      refine s_ic dX13_given_36 ki_2 ?_
      refine s_goto (t := 41) dX13_given_37 rfl ?_
      exact s_k (t_given_41 hC  F) ⟨rfl, rfl, rfl, rfl, trivial⟩
    · replace F := F.2 hc
      refine s_aln dX13_given_20 rfl ?_
      refine s_iln dX13_given_21 rfl ?_
      refine k_906 dX13_given_22 rfl (Nat.le_of_ble_eq_true rfl) (Nat.le_of_ble_eq_true rfl) F (fun r4 σ3 F => ?_)
      refine s_i (t := 36) (r4 = 0) dX13_given_25 rfl rfl (fun hc => ?_) (fun hc => ?_)
      · replace F := F.1 hc
        refine s_ic dX13_given_36 ki_2 ?_
        refine s_goto (t := 41) dX13_given_37 rfl ?_
        exact s_k (t_given_41 hC  F) ⟨rfl, rfl, rfl, rfl, trivial⟩
      · replace F := F.2 hc
        refine s_aln dX13_given_28 rfl ?_
        refine s_iln dX13_given_29 rfl ?_
        refine k_906 dX13_given_30 rfl (Nat.le_of_ble_eq_true rfl) (Nat.le_of_ble_eq_true rfl) F (fun r6 σ5 F => ?_)
        refine s_in (t := 40) (r6 = 0) dX13_given_33 rfl rfl (fun hc => ?_) (fun hc => ?_)
        · replace F := F.1 hc
          refine s_ic dX13_given_40 ki_0 ?_
          exact s_k (t_given_41 hC  F) ⟨rfl, rfl, rfl, rfl, trivial⟩
        · replace F := F.2 hc
          refine s_ic dX13_given_36 ki_2 ?_
          refine s_goto (t := 41) dX13_given_37 rfl ?_
          exact s_k (t_given_41 hC  F) ⟨rfl, rfl, rfl, rfl, trivial⟩
  · replace F := F.2 hc
    refine s_ic dX13_given_8 ki_1 ?_
    refine s_goto (t := 41) dX13_given_9 rfl ?_
    exact s_k (t_given_41 hC  F) ⟨rfl, rfl, rfl, rfl, trivial⟩

theorem m_given_run {C : rCx} (hC : cOK C) {Q : Int32 → rS → Prop} {a1 : Int32} {a2 : Int32} {a3 : Int32} {σ : rS} (F : w_given_0 C Q a1 a2 a3 σ) : cI C 9 m_given [.ref (co C), .int a1, .int a2, .int a3] σ Q := m_I (m_ent _ 3) (t_given_0 hC F)

