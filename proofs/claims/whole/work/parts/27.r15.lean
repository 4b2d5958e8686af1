/-! methods of the reference: visitFrom, solveRing, findOrder, solve -/
theorem dX13_visitFrom_0 : decode cX13_visitFrom 0 = .ok (.iconst 0, 1) := by decide +kernel
theorem dX13_visitFrom_1 : decode cX13_visitFrom 1 = .ok (.istore_n 2, 1) := by decide +kernel
theorem dX13_visitFrom_2 : decode cX13_visitFrom 2 = .ok (.iload_n 2, 1) := by decide +kernel
theorem dX13_visitFrom_3 : decode cX13_visitFrom 3 = .ok (.aload_n 0, 1) := by decide +kernel
theorem dX13_visitFrom_4 : decode cX13_visitFrom 4 = .ok (.getfield 755, 3) := by decide +kernel
theorem dX13_visitFrom_7 : decode cX13_visitFrom 7 = .ok (.if_icmp .ge 29, 3) := by decide +kernel
theorem dX13_visitFrom_10 : decode cX13_visitFrom 10 = .ok (.aload_n 0, 1) := by decide +kernel
theorem dX13_visitFrom_11 : decode cX13_visitFrom 11 = .ok (.sipush 1088, 3) := by decide +kernel
theorem dX13_visitFrom_14 : decode cX13_visitFrom 14 = .ok (.iload_n 2, 1) := by decide +kernel
theorem dX13_visitFrom_15 : decode cX13_visitFrom 15 = .ok (.iadd, 1) := by decide +kernel
theorem dX13_visitFrom_16 : decode cX13_visitFrom 16 = .ok (.iload_n 2, 1) := by decide +kernel
theorem dX13_visitFrom_17 : decode cX13_visitFrom 17 = .ok (.iload_n 1, 1) := by decide +kernel
theorem dX13_visitFrom_18 : decode cX13_visitFrom 18 = .ok (.if_icmp .ne 7, 3) := by decide +kernel
theorem dX13_visitFrom_21 : decode cX13_visitFrom 21 = .ok (.lconst 1, 1) := by decide +kernel
theorem dX13_visitFrom_22 : decode cX13_visitFrom 22 = .ok (.goto 4, 3) := by decide +kernel
theorem dX13_visitFrom_25 : decode cX13_visitFrom 25 = .ok (.lconst 0, 1) := by decide +kernel
theorem dX13_visitFrom_26 : decode cX13_visitFrom 26 = .ok (.lconst 1, 1) := by decide +kernel
theorem dX13_visitFrom_27 : decode cX13_visitFrom 27 = .ok (.invokevirtual 758, 3) := by decide +kernel
theorem dX13_visitFrom_30 : decode cX13_visitFrom 30 = .ok (.iinc 2 1, 3) := by decide +kernel
theorem dX13_visitFrom_33 : decode cX13_visitFrom 33 = .ok (.goto (-31), 3) := by decide +kernel
theorem dX13_visitFrom_36 : decode cX13_visitFrom 36 = .ok (.aload_n 0, 1) := by decide +kernel
theorem dX13_visitFrom_37 : decode cX13_visitFrom 37 = .ok (.getfield 755, 3) := by decide +kernel
theorem dX13_visitFrom_40 : decode cX13_visitFrom 40 = .ok (.iconst 1, 1) := by decide +kernel
theorem dX13_visitFrom_41 : decode cX13_visitFrom 41 = .ok (.isub, 1) := by decide +kernel
theorem dX13_visitFrom_42 : decode cX13_visitFrom 42 = .ok (.istore_n 2, 1) := by decide +kernel
theorem dX13_visitFrom_43 : decode cX13_visitFrom 43 = .ok (.iload_n 2, 1) := by decide +kernel
theorem dX13_visitFrom_44 : decode cX13_visitFrom 44 = .ok (.ifCond .le 47, 3) := by decide +kernel
theorem dX13_visitFrom_47 : decode cX13_visitFrom 47 = .ok (.iconst 0, 1) := by decide +kernel
theorem dX13_visitFrom_48 : decode cX13_visitFrom 48 = .ok (.istore_n 3, 1) := by decide +kernel
theorem dX13_visitFrom_49 : decode cX13_visitFrom 49 = .ok (.iload_n 3, 1) := by decide +kernel
theorem dX13_visitFrom_50 : decode cX13_visitFrom 50 = .ok (.iload_n 2, 1) := by decide +kernel
theorem dX13_visitFrom_51 : decode cX13_visitFrom 51 = .ok (.if_icmp .ge 34, 3) := by decide +kernel
theorem dX13_visitFrom_54 : decode cX13_visitFrom 54 = .ok (.aload_n 0, 1) := by decide +kernel
theorem dX13_visitFrom_55 : decode cX13_visitFrom 55 = .ok (.sipush 1088, 3) := by decide +kernel
theorem dX13_visitFrom_58 : decode cX13_visitFrom 58 = .ok (.iload_n 3, 1) := by decide +kernel
theorem dX13_visitFrom_59 : decode cX13_visitFrom 59 = .ok (.iadd, 1) := by decide +kernel
theorem dX13_visitFrom_60 : decode cX13_visitFrom 60 = .ok (.sipush 1088, 3) := by decide +kernel
theorem dX13_visitFrom_63 : decode cX13_visitFrom 63 = .ok (.iload_n 2, 1) := by decide +kernel
theorem dX13_visitFrom_64 : decode cX13_visitFrom 64 = .ok (.iadd, 1) := by decide +kernel
theorem dX13_visitFrom_65 : decode cX13_visitFrom 65 = .ok (.bipush 32, 2) := by decide +kernel
theorem dX13_visitFrom_67 : decode cX13_visitFrom 67 = .ok (.iload_n 2, 1) := by decide +kernel
theorem dX13_visitFrom_68 : decode cX13_visitFrom 68 = .ok (.imul, 1) := by decide +kernel
theorem dX13_visitFrom_69 : decode cX13_visitFrom 69 = .ok (.iload_n 3, 1) := by decide +kernel
theorem dX13_visitFrom_70 : decode cX13_visitFrom 70 = .ok (.iadd, 1) := by decide +kernel
theorem dX13_visitFrom_71 : decode cX13_visitFrom 71 = .ok (.sipush 1056, 3) := by decide +kernel
theorem dX13_visitFrom_74 : decode cX13_visitFrom 74 = .ok (.iload_n 2, 1) := by decide +kernel
theorem dX13_visitFrom_75 : decode cX13_visitFrom 75 = .ok (.iadd, 1) := by decide +kernel
theorem dX13_visitFrom_76 : decode cX13_visitFrom 76 = .ok (.invokevirtual 765, 3) := by decide +kernel
theorem dX13_visitFrom_79 : decode cX13_visitFrom 79 = .ok (.iinc 3 1, 3) := by decide +kernel
theorem dX13_visitFrom_82 : decode cX13_visitFrom 82 = .ok (.goto (-33), 3) := by decide +kernel
theorem dX13_visitFrom_85 : decode cX13_visitFrom 85 = .ok (.iinc 2 (-1), 3) := by decide +kernel
theorem dX13_visitFrom_88 : decode cX13_visitFrom 88 = .ok (.goto (-45), 3) := by decide +kernel
theorem dX13_visitFrom_91 : decode cX13_visitFrom 91 = .ok (.iconst 0, 1) := by decide +kernel
theorem dX13_visitFrom_92 : decode cX13_visitFrom 92 = .ok (.istore_n 2, 1) := by decide +kernel
theorem dX13_visitFrom_93 : decode cX13_visitFrom 93 = .ok (.iload_n 2, 1) := by decide +kernel
theorem dX13_visitFrom_94 : decode cX13_visitFrom 94 = .ok (.aload_n 0, 1) := by decide +kernel
theorem dX13_visitFrom_95 : decode cX13_visitFrom 95 = .ok (.getfield 755, 3) := by decide +kernel
theorem dX13_visitFrom_98 : decode cX13_visitFrom 98 = .ok (.if_icmp .ge 136, 3) := by decide +kernel
theorem dX13_visitFrom_101 : decode cX13_visitFrom 101 = .ok (.iconst 0, 1) := by decide +kernel
theorem dX13_visitFrom_102 : decode cX13_visitFrom 102 = .ok (.istore_n 3, 1) := by decide +kernel
theorem dX13_visitFrom_103 : decode cX13_visitFrom 103 = .ok (.iload_n 3, 1) := by decide +kernel
theorem dX13_visitFrom_104 : decode cX13_visitFrom 104 = .ok (.iload_n 2, 1) := by decide +kernel
theorem dX13_visitFrom_105 : decode cX13_visitFrom 105 = .ok (.if_icmp .ge 35, 3) := by decide +kernel
theorem dX13_visitFrom_108 : decode cX13_visitFrom 108 = .ok (.aload_n 0, 1) := by decide +kernel
theorem dX13_visitFrom_109 : decode cX13_visitFrom 109 = .ok (.sipush 1088, 3) := by decide +kernel
theorem dX13_visitFrom_112 : decode cX13_visitFrom 112 = .ok (.iload_n 2, 1) := by decide +kernel
theorem dX13_visitFrom_113 : decode cX13_visitFrom 113 = .ok (.iadd, 1) := by decide +kernel
theorem dX13_visitFrom_114 : decode cX13_visitFrom 114 = .ok (.sipush 1152, 3) := by decide +kernel
theorem dX13_visitFrom_117 : decode cX13_visitFrom 117 = .ok (.bipush 32, 2) := by decide +kernel
theorem dX13_visitFrom_119 : decode cX13_visitFrom 119 = .ok (.iload_n 1, 1) := by decide +kernel
theorem dX13_visitFrom_120 : decode cX13_visitFrom 120 = .ok (.imul, 1) := by decide +kernel
theorem dX13_visitFrom_121 : decode cX13_visitFrom 121 = .ok (.iadd, 1) := by decide +kernel
theorem dX13_visitFrom_122 : decode cX13_visitFrom 122 = .ok (.iload_n 3, 1) := by decide +kernel
theorem dX13_visitFrom_123 : decode cX13_visitFrom 123 = .ok (.iadd, 1) := by decide +kernel
theorem dX13_visitFrom_124 : decode cX13_visitFrom 124 = .ok (.bipush 32, 2) := by decide +kernel
theorem dX13_visitFrom_126 : decode cX13_visitFrom 126 = .ok (.iload_n 3, 1) := by decide +kernel
theorem dX13_visitFrom_127 : decode cX13_visitFrom 127 = .ok (.imul, 1) := by decide +kernel
theorem dX13_visitFrom_128 : decode cX13_visitFrom 128 = .ok (.iload_n 2, 1) := by decide +kernel
theorem dX13_visitFrom_129 : decode cX13_visitFrom 129 = .ok (.iadd, 1) := by decide +kernel
theorem dX13_visitFrom_130 : decode cX13_visitFrom 130 = .ok (.iconst (-1), 1) := by decide +kernel
theorem dX13_visitFrom_131 : decode cX13_visitFrom 131 = .ok (.invokevirtual 765, 3) := by decide +kernel
theorem dX13_visitFrom_134 : decode cX13_visitFrom 134 = .ok (.iinc 3 1, 3) := by decide +kernel
theorem dX13_visitFrom_137 : decode cX13_visitFrom 137 = .ok (.goto (-34), 3) := by decide +kernel
theorem dX13_visitFrom_140 : decode cX13_visitFrom 140 = .ok (.aload_n 0, 1) := by decide +kernel
theorem dX13_visitFrom_141 : decode cX13_visitFrom 141 = .ok (.sipush 1088, 3) := by decide +kernel
theorem dX13_visitFrom_144 : decode cX13_visitFrom 144 = .ok (.iload_n 2, 1) := by decide +kernel
theorem dX13_visitFrom_145 : decode cX13_visitFrom 145 = .ok (.iadd, 1) := by decide +kernel
theorem dX13_visitFrom_146 : decode cX13_visitFrom 146 = .ok (.bipush 6, 2) := by decide +kernel
theorem dX13_visitFrom_148 : decode cX13_visitFrom 148 = .ok (.bipush 7, 2) := by decide +kernel
theorem dX13_visitFrom_150 : decode cX13_visitFrom 150 = .ok (.invokevirtual 724, 3) := by decide +kernel
theorem dX13_visitFrom_153 : decode cX13_visitFrom 153 = .ok (.aload_n 0, 1) := by decide +kernel
theorem dX13_visitFrom_154 : decode cX13_visitFrom 154 = .ok (.sipush 1056, 3) := by decide +kernel
theorem dX13_visitFrom_157 : decode cX13_visitFrom 157 = .ok (.iload_n 2, 1) := by decide +kernel
theorem dX13_visitFrom_158 : decode cX13_visitFrom 158 = .ok (.iadd, 1) := by decide +kernel
theorem dX13_visitFrom_159 : decode cX13_visitFrom 159 = .ok (.bipush 11, 2) := by decide +kernel
theorem dX13_visitFrom_161 : decode cX13_visitFrom 161 = .ok (.bipush 12, 2) := by decide +kernel
theorem dX13_visitFrom_163 : decode cX13_visitFrom 163 = .ok (.invokevirtual 724, 3) := by decide +kernel
theorem dX13_visitFrom_166 : decode cX13_visitFrom 166 = .ok (.aload_n 0, 1) := by decide +kernel
theorem dX13_visitFrom_167 : decode cX13_visitFrom 167 = .ok (.bipush 13, 2) := by decide +kernel
theorem dX13_visitFrom_169 : decode cX13_visitFrom 169 = .ok (.bipush 6, 2) := by decide +kernel
theorem dX13_visitFrom_171 : decode cX13_visitFrom 171 = .ok (.bipush 12, 2) := by decide +kernel
theorem dX13_visitFrom_173 : decode cX13_visitFrom 173 = .ok (.invokevirtual 712, 3) := by decide +kernel
theorem dX13_visitFrom_176 : decode cX13_visitFrom 176 = .ok (.aload_n 0, 1) := by decide +kernel
theorem dX13_visitFrom_177 : decode cX13_visitFrom 177 = .ok (.bipush 14, 2) := by decide +kernel
theorem dX13_visitFrom_179 : decode cX13_visitFrom 179 = .ok (.bipush 7, 2) := by decide +kernel
theorem dX13_visitFrom_181 : decode cX13_visitFrom 181 = .ok (.bipush 11, 2) := by decide +kernel
theorem dX13_visitFrom_183 : decode cX13_visitFrom 183 = .ok (.invokevirtual 712, 3) := by decide +kernel
theorem dX13_visitFrom_186 : decode cX13_visitFrom 186 = .ok (.aload_n 0, 1) := by decide +kernel
theorem dX13_visitFrom_187 : decode cX13_visitFrom 187 = .ok (.bipush 6, 2) := by decide +kernel
theorem dX13_visitFrom_189 : decode cX13_visitFrom 189 = .ok (.bipush 13, 2) := by decide +kernel
theorem dX13_visitFrom_191 : decode cX13_visitFrom 191 = .ok (.invokevirtual 703, 3) := by decide +kernel
theorem dX13_visitFrom_194 : decode cX13_visitFrom 194 = .ok (.aload_n 0, 1) := by decide +kernel
theorem dX13_visitFrom_195 : decode cX13_visitFrom 195 = .ok (.bipush 7, 2) := by decide +kernel
theorem dX13_visitFrom_197 : decode cX13_visitFrom 197 = .ok (.bipush 14, 2) := by decide +kernel
theorem dX13_visitFrom_199 : decode cX13_visitFrom 199 = .ok (.invokevirtual 703, 3) := by decide +kernel
theorem dX13_visitFrom_202 : decode cX13_visitFrom 202 = .ok (.aload_n 0, 1) := by decide +kernel
theorem dX13_visitFrom_203 : decode cX13_visitFrom 203 = .ok (.bipush 6, 2) := by decide +kernel
theorem dX13_visitFrom_205 : decode cX13_visitFrom 205 = .ok (.bipush 7, 2) := by decide +kernel
theorem dX13_visitFrom_207 : decode cX13_visitFrom 207 = .ok (.invokevirtual 721, 3) := by decide +kernel
theorem dX13_visitFrom_210 : decode cX13_visitFrom 210 = .ok (.aload_n 0, 1) := by decide +kernel
theorem dX13_visitFrom_211 : decode cX13_visitFrom 211 = .ok (.sipush 1152, 3) := by decide +kernel
theorem dX13_visitFrom_214 : decode cX13_visitFrom 214 = .ok (.bipush 32, 2) := by decide +kernel
theorem dX13_visitFrom_216 : decode cX13_visitFrom 216 = .ok (.iload_n 1, 1) := by decide +kernel
theorem dX13_visitFrom_217 : decode cX13_visitFrom 217 = .ok (.imul, 1) := by decide +kernel
theorem dX13_visitFrom_218 : decode cX13_visitFrom 218 = .ok (.iadd, 1) := by decide +kernel
theorem dX13_visitFrom_219 : decode cX13_visitFrom 219 = .ok (.iload_n 2, 1) := by decide +kernel
theorem dX13_visitFrom_220 : decode cX13_visitFrom 220 = .ok (.iadd, 1) := by decide +kernel
theorem dX13_visitFrom_221 : decode cX13_visitFrom 221 = .ok (.bipush 6, 2) := by decide +kernel
theorem dX13_visitFrom_223 : decode cX13_visitFrom 223 = .ok (.bipush 7, 2) := by decide +kernel
theorem dX13_visitFrom_225 : decode cX13_visitFrom 225 = .ok (.invokevirtual 730, 3) := by decide +kernel
theorem dX13_visitFrom_228 : decode cX13_visitFrom 228 = .ok (.iinc 2 1, 3) := by decide +kernel
theorem dX13_visitFrom_231 : decode cX13_visitFrom 231 = .ok (.goto (-138), 3) := by decide +kernel
theorem dX13_visitFrom_234 : decode cX13_visitFrom 234 = .ok (.return_, 1) := by decide +kernel
def w_visitFrom_26 (C : rCx) (Q : rS → Prop) (B2 : Int32 → Int32 → rS → Prop) (a1 : Int32) (a2 : Int32) (s1 : Int32) (s2 : Int64) (σ : rS) : Prop :=
  cV C 4 m_keepSmall [.ref (co C), .int s1, .long s2, .long (1 : Int64)] σ (fun σ1 =>
    ∀ v2_3 : Int32, v2_3 = a2 + (1 : Int32) →
    B2 a1 v2_3 σ1)
theorem t_visitFrom_26 {C : rCx} (hC : cOK C) {Q : rS → Prop} {B2 : Int32 → Int32 → rS → Prop} (hB2 : ∀ a1' a2' τ, B2 a1' a2' τ → wG C 6 m_visitFrom 2 [some (.ref (co C)), some (.int a1'), some (.int a2'), none] [] τ (qV Q)) {a1 : Int32} {a2 : Int32} {s1 : Int32} {s2 : Int64} {σ : rS} (F : w_visitFrom_26 C Q B2 a1 a2 s1 s2 σ) : wG C 6 m_visitFrom 26 [some (.ref (co C)), some (.int a1), some (.int a2), none] [.long s2, .int s1, .ref (co C)] σ (qV Q) := by
  unfold w_visitFrom_26 at F
  refine s_lc dX13_visitFrom_26 kl_1 ?_
  refine k_758 dX13_visitFrom_27 rfl (Nat.le_of_ble_eq_true rfl) (Nat.le_of_ble_eq_true rfl) F (fun σ1 F => ?_)
  refine s_incb dX13_visitFrom_30 ki_1 rfl (Nat.le_of_ble_eq_true rfl) (fun v2_3 ev2_3 => ?_)
  replace F := F v2_3 ev2_3
  show wG _ _ _ _ [some (.ref (co C)), some (.int a1), some (.int v2_3), none] _ _ _
  refine s_goto (t := 2) dX13_visitFrom_33 rfl ?_
  exact s_k (hB2 _ _ _ F) ⟨rfl, rfl, rfl, trivial⟩

def w_visitFrom_49 (C : rCx) (Q : rS → Prop) (B43 : Int32 → Int32 → rS → Prop) (a1 : Int32) (a2 : Int32) (a3 : Int32) (σ : rS) : Prop :=
  ∃ I : Nat → Int32 → Int32 → Int32 → rS → Prop, (∃ n, I n a1 a2 a3 σ) ∧ ∀ n a1 a2 a3 σ, I n a1 a2 a3 σ →
    (a2 ≤ a3 →
      ∀ v2_1 : Int32, v2_1 = a2 + (-1 : Int32) →
      B43 a1 v2_1 σ) ∧
    (¬ (a2 ≤ a3) →
      cV C 5 m_addProduct [.ref (co C), .int ((1088 : Int32) + a3), .int ((1088 : Int32) + a2), .int (((32 : Int32) * a2) + a3), .int ((1056 : Int32) + a2)] σ (fun σ2 =>
        ∀ v3_4 : Int32, v3_4 = a3 + (1 : Int32) →
        ∃ k < n, I k a1 a2 v3_4 σ2))
theorem t_visitFrom_49 {C : rCx} (hC : cOK C) {Q : rS → Prop} {B43 : Int32 → Int32 → rS → Prop} (hB43 : ∀ a1' a2' τ, B43 a1' a2' τ → wG C 6 m_visitFrom 43 [some (.ref (co C)), some (.int a1'), some (.int a2'), none] [] τ (qV Q)) {a1 : Int32} {a2 : Int32} {a3 : Int32} {σ : rS} (F : w_visitFrom_49 C Q B43 a1 a2 a3 σ) : wG C 6 m_visitFrom 49 [some (.ref (co C)), some (.int a1), some (.int a2), some (.int a3)] [] σ (qV Q) := by
  obtain ⟨I, ⟨n0, hI0⟩, F0⟩ := F
  have key : ∀ n a1 a2 a3 σ, I n a1 a2 a3 σ → wG C 6 m_visitFrom 49 [some (.ref (co C)), some (.int a1), some (.int a2), some (.int a3)] [] σ (qV Q) := by
    intro n
    induction n using Nat.strongRecOn with
    | _ n ih =>
      intro a1 a2 a3 σ hI
      have F := F0 n a1 a2 a3 σ hI
      clear hI hI0
      refine s_iln dX13_visitFrom_49 rfl ?_
      refine s_iln dX13_visitFrom_50 rfl ?_
      refine s_ii (t := 85) (a2 ≤ a3) dX13_visitFrom_51 rfl rfl (fun hc => ?_) (fun hc => ?_)
      · replace F := F.1 hc
        refine s_incb dX13_visitFrom_85 ki_m1 rfl (Nat.le_of_ble_eq_true rfl) (fun v2_1 ev2_1 => ?_)
        replace F := F v2_1 ev2_1
        show wG _ _ _ _ [some (.ref (co C)), some (.int a1), some (.int v2_1), some (.int a3)] _ _ _
        refine s_goto (t := 43) dX13_visitFrom_88 rfl ?_
        exact s_k (hB43 _ _ _ F) ⟨rfl, rfl, rfl, trivial⟩
      · replace F := F.2 hc
        refine s_aln dX13_visitFrom_54 rfl ?_
        refine s_si dX13_visitFrom_55 ks_1088 ?_
        refine s_iln dX13_visitFrom_58 rfl ?_
        refine s_iadd dX13_visitFrom_59 ?_
        refine s_si dX13_visitFrom_60 ks_1088 ?_
        refine s_iln dX13_visitFrom_63 rfl ?_
        refine s_iadd dX13_visitFrom_64 ?_
        refine s_bi dX13_visitFrom_65 kb_32 ?_
        refine s_iln dX13_visitFrom_67 rfl ?_
        refine s_imul dX13_visitFrom_68 ?_
        refine s_iln dX13_visitFrom_69 rfl ?_
        refine s_iadd dX13_visitFrom_70 ?_
        refine s_si dX13_visitFrom_71 ks_1056 ?_
        refine s_iln dX13_visitFrom_74 rfl ?_
        refine s_iadd dX13_visitFrom_75 ?_
        refine k_765 dX13_visitFrom_76 rfl (Nat.le_of_ble_eq_true rfl) (Nat.le_of_ble_eq_true rfl) F (fun σ2 F => ?_)
        refine s_incb dX13_visitFrom_79 ki_1 rfl (Nat.le_of_ble_eq_true rfl) (fun v3_4 ev3_4 => ?_)
        replace F := F v3_4 ev3_4
        show wG _ _ _ _ [some (.ref (co C)), some (.int a1), some (.int a2), some (.int v3_4)] _ _ _
        refine s_goto (t := 49) dX13_visitFrom_82 rfl ?_
        obtain ⟨k, hk, hI⟩ := F
        exact s_k (ih k hk _ _ _ _ hI) ⟨rfl, rfl, rfl, rfl, trivial⟩
  exact key n0 a1 a2 a3 σ hI0

def w_visitFrom_103 (C : rCx) (Q : rS → Prop) (B93 : Int32 → Int32 → rS → Prop) (a1 : Int32) (a2 : Int32) (a3 : Int32) (σ : rS) : Prop :=
  ∃ I : Nat → Int32 → Int32 → Int32 → rS → Prop, (∃ n, I n a1 a2 a3 σ) ∧ ∀ n a1 a2 a3 σ, I n a1 a2 a3 σ →
    (a2 ≤ a3 →
      cV C 0 m_load [.ref (co C), .int ((1088 : Int32) + a2), .int (6 : Int32), .int (7 : Int32)] σ (fun σ1 =>
        cV C 0 m_load [.ref (co C), .int ((1056 : Int32) + a2), .int (11 : Int32), .int (12 : Int32)] σ1 (fun σ3 =>
          cV C 1 m_times [.ref (co C), .int (13 : Int32), .int (6 : Int32), .int (12 : Int32)] σ3 (fun σ5 =>
            cV C 1 m_times [.ref (co C), .int (14 : Int32), .int (7 : Int32), .int (11 : Int32)] σ5 (fun σ7 =>
              cV C 0 m_copy [.ref (co C), .int (6 : Int32), .int (13 : Int32)] σ7 (fun σ9 =>
                cV C 0 m_copy [.ref (co C), .int (7 : Int32), .int (14 : Int32)] σ9 (fun σ11 =>
                  cV C 3 m_reduce [.ref (co C), .int (6 : Int32), .int (7 : Int32)] σ11 (fun σ13 =>
                    cV C 0 m_keepIn [.ref (co C), .int (((1152 : Int32) + ((32 : Int32) * a1)) + a2), .int (6 : Int32), .int (7 : Int32)] σ13 (fun σ15 =>
                      ∀ v2_17 : Int32, v2_17 = a2 + (1 : Int32) →
                      B93 a1 v2_17 σ15))))))))) ∧
    (¬ (a2 ≤ a3) →
      cV C 5 m_addProduct [.ref (co C), .int ((1088 : Int32) + a2), .int (((1152 : Int32) + ((32 : Int32) * a1)) + a3), .int (((32 : Int32) * a3) + a2), .int (-1 : Int32)] σ (fun σ18 =>
        ∀ v3_20 : Int32, v3_20 = a3 + (1 : Int32) →
        ∃ k < n, I k a1 a2 v3_20 σ18))
theorem t_visitFrom_103 {C : rCx} (hC : cOK C) {Q : rS → Prop} {B93 : Int32 → Int32 → rS → Prop} (hB93 : ∀ a1' a2' τ, B93 a1' a2' τ → wG C 6 m_visitFrom 93 [some (.ref (co C)), some (.int a1'), some (.int a2'), none] [] τ (qV Q)) {a1 : Int32} {a2 : Int32} {a3 : Int32} {σ : rS} (F : w_visitFrom_103 C Q B93 a1 a2 a3 σ) : wG C 6 m_visitFrom 103 [some (.ref (co C)), some (.int a1), some (.int a2), some (.int a3)] [] σ (qV Q) := by
  obtain ⟨I, ⟨n0, hI0⟩, F0⟩ := F
  have key : ∀ n a1 a2 a3 σ, I n a1 a2 a3 σ → wG C 6 m_visitFrom 103 [some (.ref (co C)), some (.int a1), some (.int a2), some (.int a3)] [] σ (qV Q) := by
    intro n
    induction n using Nat.strongRecOn with
    | _ n ih =>
      intro a1 a2 a3 σ hI
      have F := F0 n a1 a2 a3 σ hI
      clear hI hI0
      refine s_iln dX13_visitFrom_103 rfl ?_
      refine s_iln dX13_visitFrom_104 rfl ?_
      refine s_ii (t := 140) (a2 ≤ a3) dX13_visitFrom_105 rfl rfl (fun hc => ?_) (fun hc => ?_)
      · replace F := F.1 hc
        refine s_aln dX13_visitFrom_140 rfl ?_
        refine s_si dX13_visitFrom_141 ks_1088 ?_
        refine s_iln dX13_visitFrom_144 rfl ?_
        refine s_iadd dX13_visitFrom_145 ?_
        refine s_bi dX13_visitFrom_146 kb_6 ?_
        refine s_bi dX13_visitFrom_148 kb_7 ?_
        refine k_724 dX13_visitFrom_150 rfl (Nat.le_of_ble_eq_true rfl) (Nat.le_of_ble_eq_true rfl) F (fun σ1 F => ?_)
        refine s_aln dX13_visitFrom_153 rfl ?_
        refine s_si dX13_visitFrom_154 ks_1056 ?_
        refine s_iln dX13_visitFrom_157 rfl ?_
        refine s_iadd dX13_visitFrom_158 ?_
        refine s_bi dX13_visitFrom_159 kb_11 ?_
        refine s_bi dX13_visitFrom_161 kb_12 ?_
        refine k_724 dX13_visitFrom_163 rfl (Nat.le_of_ble_eq_true rfl) (Nat.le_of_ble_eq_true rfl) F (fun σ3 F => ?_)
        refine s_aln dX13_visitFrom_166 rfl ?_
        refine s_bi dX13_visitFrom_167 kb_13 ?_
        refine s_bi dX13_visitFrom_169 kb_6 ?_
        refine s_bi dX13_visitFrom_171 kb_12 ?_
        refine k_712 dX13_visitFrom_173 rfl (Nat.le_of_ble_eq_true rfl) (Nat.le_of_ble_eq_true rfl) F (fun σ5 F => ?_)
        refine s_aln dX13_visitFrom_176 rfl ?_
        refine s_bi dX13_visitFrom_177 kb_14 ?_
        refine s_bi dX13_visitFrom_179 kb_7 ?_
        refine s_bi dX13_visitFrom_181 kb_11 ?_
        refine k_712 dX13_visitFrom_183 rfl (Nat.le_of_ble_eq_true rfl) (Nat.le_of_ble_eq_true rfl) F (fun σ7 F => ?_)
        refine s_aln dX13_visitFrom_186 rfl ?_
        refine s_bi dX13_visitFrom_187 kb_6 ?_
        refine s_bi dX13_visitFrom_189 kb_13 ?_
        refine k_703 dX13_visitFrom_191 rfl (Nat.le_of_ble_eq_true rfl) (Nat.le_of_ble_eq_true rfl) F (fun σ9 F => ?_)
        refine s_aln dX13_visitFrom_194 rfl ?_
        refine s_bi dX13_visitFrom_195 kb_7 ?_
        refine s_bi dX13_visitFrom_197 kb_14 ?_
        refine k_703 dX13_visitFrom_199 rfl (Nat.le_of_ble_eq_true rfl) (Nat.le_of_ble_eq_true rfl) F (fun σ11 F => ?_)
        refine s_aln dX13_visitFrom_202 rfl ?_
        refine s_bi dX13_visitFrom_203 kb_6 ?_
        refine s_bi dX13_visitFrom_205 kb_7 ?_
        refine k_721 dX13_visitFrom_207 rfl (Nat.le_of_ble_eq_true rfl) (Nat.le_of_ble_eq_true rfl) F (fun σ13 F => ?_)
        refine s_aln dX13_visitFrom_210 rfl ?_
        refine s_si dX13_visitFrom_211 ks_1152 ?_
        refine s_bi dX13_visitFrom_214 kb_32 ?_
        refine s_iln dX13_visitFrom_216 rfl ?_
        refine s_imul dX13_visitFrom_217 ?_
        refine s_iadd dX13_visitFrom_218 ?_
        refine s_iln dX13_visitFrom_219 rfl ?_
        refine s_iadd dX13_visitFrom_220 ?_
        refine s_bi dX13_visitFrom_221 kb_6 ?_
        refine s_bi dX13_visitFrom_223 kb_7 ?_
        refine k_730 dX13_visitFrom_225 rfl (Nat.le_of_ble_eq_true rfl) (Nat.le_of_ble_eq_true rfl) F (fun σ15 F => ?_)
        refine s_incb dX13_visitFrom_228 ki_1 rfl (Nat.le_of_ble_eq_true rfl) (fun v2_17 ev2_17 => ?_)
        replace F := F v2_17 ev2_17
        show wG _ _ _ _ [some (.ref (co C)), some (.int a1), some (.int v2_17), some (.int a3)] _ _ _
        refine s_goto (t := 93) dX13_visitFrom_231 rfl ?_
        exact s_k (hB93 _ _ _ F) ⟨rfl, rfl, rfl, trivial⟩
      · replace F := F.2 hc
        refine s_aln dX13_visitFrom_108 rfl ?_
        refine s_si dX13_visitFrom_109 ks_1088 ?_
        refine s_iln dX13_visitFrom_112 rfl ?_
        refine s_iadd dX13_visitFrom_113 ?_
        refine s_si dX13_visitFrom_114 ks_1152 ?_
        refine s_bi dX13_visitFrom_117 kb_32 ?_
        refine s_iln dX13_visitFrom_119 rfl ?_
        refine s_imul dX13_visitFrom_120 ?_
        refine s_iadd dX13_visitFrom_121 ?_
        refine s_iln dX13_visitFrom_122 rfl ?_
        refine s_iadd dX13_visitFrom_123 ?_
        refine s_bi dX13_visitFrom_124 kb_32 ?_
        refine s_iln dX13_visitFrom_126 rfl ?_
        refine s_imul dX13_visitFrom_127 ?_
        refine s_iln dX13_visitFrom_128 rfl ?_
        refine s_iadd dX13_visitFrom_129 ?_
        refine s_ic dX13_visitFrom_130 ki_m1 ?_
        refine k_765 dX13_visitFrom_131 rfl (Nat.le_of_ble_eq_true rfl) (Nat.le_of_ble_eq_true rfl) F (fun σ18 F => ?_)
        refine s_incb dX13_visitFrom_134 ki_1 rfl (Nat.le_of_ble_eq_true rfl) (fun v3_20 ev3_20 => ?_)
        replace F := F v3_20 ev3_20
        show wG _ _ _ _ [some (.ref (co C)), some (.int a1), some (.int a2), some (.int v3_20)] _ _ _
        refine s_goto (t := 103) dX13_visitFrom_137 rfl ?_
        obtain ⟨k, hk, hI⟩ := F
        exact s_k (ih k hk _ _ _ _ hI) ⟨rfl, rfl, rfl, rfl, trivial⟩
  exact key n0 a1 a2 a3 σ hI0

def w_visitFrom_93 (C : rCx) (Q : rS → Prop)  (a1 : Int32) (a2 : Int32) (σ : rS) : Prop :=
  ∃ I : Nat → Int32 → Int32 → rS → Prop, (∃ n, I n a1 a2 σ) ∧ ∀ n a1 a2 σ, I n a1 a2 σ →
    ((σ.1 100) ≤ a2 →
      Q σ) ∧
    (¬ ((σ.1 100) ≤ a2) →
      w_visitFrom_103 C Q (fun a1' a2' τ => ∃ k < n, I k a1' a2' τ) a1 a2 (0 : Int32) σ)
theorem t_visitFrom_93 {C : rCx} (hC : cOK C) {Q : rS → Prop}   {a1 : Int32} {a2 : Int32} {σ : rS} (F : w_visitFrom_93 C Q  a1 a2 σ) : wG C 6 m_visitFrom 93 [some (.ref (co C)), some (.int a1), some (.int a2), none] [] σ (qV Q) := by
  obtain ⟨I, ⟨n0, hI0⟩, F0⟩ := F
  have key : ∀ n a1 a2 σ, I n a1 a2 σ → wG C 6 m_visitFrom 93 [some (.ref (co C)), some (.int a1), some (.int a2), none] [] σ (qV Q) := by
    intro n
    induction n using Nat.strongRecOn with
    | _ n ih =>
      intro a1 a2 σ hI
      have F := F0 n a1 a2 σ hI
      clear hI hI0
      refine s_iln dX13_visitFrom_93 rfl ?_
      refine s_aln dX13_visitFrom_94 rfl ?_
      refine gf_755 dX13_visitFrom_95 rfl ?_
      refine s_ii (t := 234) ((σ.1 100) ≤ a2) dX13_visitFrom_98 rfl rfl (fun hc => ?_) (fun hc => ?_)
      · replace F := F.1 hc
        exact s_rv dX13_visitFrom_234 rfl F
      · replace F := F.2 hc
        refine s_ic dX13_visitFrom_101 ki_0 ?_
        refine s_isn dX13_visitFrom_102 (Nat.le_of_ble_eq_true rfl) rfl ?_
        show wG _ _ _ _ [some (.ref (co C)), some (.int a1), some (.int a2), some (.int (0 : Int32))] _ _ _
        exact s_k (t_visitFrom_103 hC (fun a1' a2' τ hb => by obtain ⟨k, hk, hI⟩ := hb; exact ih k hk a1' a2' τ hI) F) ⟨rfl, rfl, rfl, rfl, trivial⟩
  exact key n0 a1 a2 σ hI0

def w_visitFrom_43 (C : rCx) (Q : rS → Prop)  (a1 : Int32) (a2 : Int32) (σ : rS) : Prop :=
  ∃ I : Nat → Int32 → Int32 → rS → Prop, (∃ n, I n a1 a2 σ) ∧ ∀ n a1 a2 σ, I n a1 a2 σ →
    (a2 ≤ 0 →
      w_visitFrom_93 C Q  a1 (0 : Int32) σ) ∧
    (¬ (a2 ≤ 0) →
      w_visitFrom_49 C Q (fun a1' a2' τ => ∃ k < n, I k a1' a2' τ) a1 a2 (0 : Int32) σ)
theorem t_visitFrom_43 {C : rCx} (hC : cOK C) {Q : rS → Prop}   {a1 : Int32} {a2 : Int32} {σ : rS} (F : w_visitFrom_43 C Q  a1 a2 σ) : wG C 6 m_visitFrom 43 [some (.ref (co C)), some (.int a1), some (.int a2), none] [] σ (qV Q) := by
  obtain ⟨I, ⟨n0, hI0⟩, F0⟩ := F
  have key : ∀ n a1 a2 σ, I n a1 a2 σ → wG C 6 m_visitFrom 43 [some (.ref (co C)), some (.int a1), some (.int a2), none] [] σ (qV Q) := by
    intro n
    induction n using Nat.strongRecOn with
    | _ n ih =>
      intro a1 a2 σ hI
      have F := F0 n a1 a2 σ hI
      clear hI hI0
      refine s_iln dX13_visitFrom_43 rfl ?_
      refine s_i (t := 91) (a2 ≤ 0) dX13_visitFrom_44 rfl rfl (fun hc => ?_) (fun hc => ?_)
      · replace F := F.1 hc
        refine s_ic dX13_visitFrom_91 ki_0 ?_
        refine s_isn dX13_visitFrom_92 (Nat.le_of_ble_eq_true rfl) rfl ?_
        show wG _ _ _ _ [some (.ref (co C)), some (.int a1), some (.int (0 : Int32)), none] _ _ _
        exact s_k (t_visitFrom_93 hC  F) ⟨rfl, rfl, rfl, trivial⟩
      · replace F := F.2 hc
        refine s_ic dX13_visitFrom_47 ki_0 ?_
        refine s_isn dX13_visitFrom_48 (Nat.le_of_ble_eq_true rfl) rfl ?_
        show wG _ _ _ _ [some (.ref (co C)), some (.int a1), some (.int a2), some (.int (0 : Int32))] _ _ _
        exact s_k (t_visitFrom_49 hC (fun a1' a2' τ hb => by obtain ⟨k, hk, hI⟩ := hb; exact ih k hk a1' a2' τ hI) F) ⟨rfl, rfl, rfl, rfl, trivial⟩
  exact key n0 a1 a2 σ hI0

def w_visitFrom_2 (C : rCx) (Q : rS → Prop)  (a1 : Int32) (a2 : Int32) (σ : rS) : Prop :=
  ∃ I : Nat → Int32 → Int32 → rS → Prop, (∃ n, I n a1 a2 σ) ∧ ∀ n a1 a2 σ, I n a1 a2 σ →
    ((σ.1 100) ≤ a2 →
      ∀ v2_1 : Int32, v2_1 = ((σ.1 100) - (1 : Int32)) →
      w_visitFrom_43 C Q  a1 v2_1 σ) ∧
    (¬ ((σ.1 100) ≤ a2) →
      (¬ (a2 = a1) →
        w_visitFrom_26 C Q (fun a1' a2' τ => ∃ k < n, I k a1' a2' τ) a1 a2 ((1088 : Int32) + a2) (0 : Int64) σ) ∧
      (a2 = a1 →
        w_visitFrom_26 C Q (fun a1' a2' τ => ∃ k < n, I k a1' a2' τ) a1 a2 ((1088 : Int32) + a2) (1 : Int64) σ))
theorem t_visitFrom_2 {C : rCx} (hC : cOK C) {Q : rS → Prop}   {a1 : Int32} {a2 : Int32} {σ : rS} (F : w_visitFrom_2 C Q  a1 a2 σ) : wG C 6 m_visitFrom 2 [some (.ref (co C)), some (.int a1), some (.int a2), none] [] σ (qV Q) := by
  obtain ⟨I, ⟨n0, hI0⟩, F0⟩ := F
  have key : ∀ n a1 a2 σ, I n a1 a2 σ → wG C 6 m_visitFrom 2 [some (.ref (co C)), some (.int a1), some (.int a2), none] [] σ (qV Q) := by
    intro n
    induction n using Nat.strongRecOn with
    | _ n ih =>
      intro a1 a2 σ hI
      have F := F0 n a1 a2 σ hI
      clear hI hI0
      refine s_iln dX13_visitFrom_2 rfl ?_
      refine s_aln dX13_visitFrom_3 rfl ?_
      refine gf_755 dX13_visitFrom_4 rfl ?_
      refine s_ii (t := 36) ((σ.1 100) ≤ a2) dX13_visitFrom_7 rfl rfl (fun hc => ?_) (fun hc => ?_)
      · replace F := F.1 hc
        refine s_aln dX13_visitFrom_36 rfl ?_
        refine gf_755 dX13_visitFrom_37 rfl ?_
        refine s_ic dX13_visitFrom_40 ki_1 ?_
        refine s_isub dX13_visitFrom_41 ?_
        refine s_isnb dX13_visitFrom_42 (Nat.le_of_ble_eq_true rfl) (fun v2_1 ev2_1 => ?_)
        replace F := F v2_1 ev2_1
        show wG _ _ _ _ [some (.ref (co C)), some (.int a1), some (.int v2_1), none] _ _ _
        exact s_k (t_visitFrom_43 hC  F) ⟨rfl, rfl, rfl, trivial⟩
      · replace F := F.2 hc
        refine s_aln dX13_visitFrom_10 rfl ?_
        refine s_si dX13_visitFrom_11 ks_1088 ?_
        refine s_iln dX13_visitFrom_14 rfl ?_
        refine s_iadd dX13_visitFrom_15 ?_
        refine s_iln dX13_visitFrom_16 rfl ?_
        refine s_iln dX13_visitFrom_17 rfl ?_
        refine s_iin (t := 25) (a2 = a1) dX13_visitFrom_18 rfl rfl (fun hc => ?_) (fun hc => ?_)
        · replace F := F.1 hc
          refine s_lc dX13_visitFrom_25 kl_0 ?_
          exact s_k (t_visitFrom_26 hC (fun a1' a2' τ hb => by obtain ⟨k, hk, hI⟩ := hb; exact ih k hk a1' a2' τ hI) F) ⟨rfl, rfl, rfl, trivial⟩
        · replace F := F.2 hc
          refine s_lc dX13_visitFrom_21 kl_1 ?_
          refine s_goto (t := 26) dX13_visitFrom_22 rfl ?_
          exact s_k (t_visitFrom_26 hC (fun a1' a2' τ hb => by obtain ⟨k, hk, hI⟩ := hb; exact ih k hk a1' a2' τ hI) F) ⟨rfl, rfl, rfl, trivial⟩
  exact key n0 a1 a2 σ hI0

def w_visitFrom_0 (C : rCx) (Q : rS → Prop)  (a1 : Int32) (σ : rS) : Prop :=
  w_visitFrom_2 C Q  a1 (0 : Int32) σ
theorem t_visitFrom_0 {C : rCx} (hC : cOK C) {Q : rS → Prop}   {a1 : Int32} {σ : rS} (F : w_visitFrom_0 C Q  a1 σ) : wG C 6 m_visitFrom 0 [some (.ref (co C)), some (.int a1), none, none] [] σ (qV Q) := by
  unfold w_visitFrom_0 at F
  refine s_ic dX13_visitFrom_0 ki_0 ?_
  refine s_isn dX13_visitFrom_1 (Nat.le_of_ble_eq_true rfl) rfl ?_
  show wG _ _ _ _ [some (.ref (co C)), some (.int a1), some (.int (0 : Int32)), none] _ _ _
  exact s_k (t_visitFrom_2 hC  F) ⟨rfl, rfl, rfl, trivial⟩

theorem m_visitFrom_run {C : rCx} (hC : cOK C) {Q : rS → Prop} {a1 : Int32} {σ : rS} (F : w_visitFrom_0 C Q a1 σ) : cV C 6 m_visitFrom [.ref (co C), .int a1] σ Q := m_V (m_ent _ 2) (t_visitFrom_0 hC F)

theorem dX13_solveRing_0 : decode cX13_solveRing 0 = .ok (.aload_n 0, 1) := by decide +kernel
theorem dX13_solveRing_1 : decode cX13_solveRing 1 = .ok (.invokevirtual 769, 3) := by decide +kernel
theorem dX13_solveRing_4 : decode cX13_solveRing 4 = .ok (.aload_n 0, 1) := by decide +kernel
theorem dX13_solveRing_5 : decode cX13_solveRing 5 = .ok (.invokevirtual 772, 3) := by decide +kernel
theorem dX13_solveRing_8 : decode cX13_solveRing 8 = .ok (.iconst 0, 1) := by decide +kernel
theorem dX13_solveRing_9 : decode cX13_solveRing 9 = .ok (.istore_n 1, 1) := by decide +kernel
theorem dX13_solveRing_10 : decode cX13_solveRing 10 = .ok (.iload_n 1, 1) := by decide +kernel
theorem dX13_solveRing_11 : decode cX13_solveRing 11 = .ok (.aload_n 0, 1) := by decide +kernel
theorem dX13_solveRing_12 : decode cX13_solveRing 12 = .ok (.getfield 755, 3) := by decide +kernel
theorem dX13_solveRing_15 : decode cX13_solveRing 15 = .ok (.if_icmp .ge 14, 3) := by decide +kernel
theorem dX13_solveRing_18 : decode cX13_solveRing 18 = .ok (.aload_n 0, 1) := by decide +kernel
theorem dX13_solveRing_19 : decode cX13_solveRing 19 = .ok (.iload_n 1, 1) := by decide +kernel
theorem dX13_solveRing_20 : decode cX13_solveRing 20 = .ok (.invokevirtual 775, 3) := by decide +kernel
theorem dX13_solveRing_23 : decode cX13_solveRing 23 = .ok (.iinc 1 1, 3) := by decide +kernel
theorem dX13_solveRing_26 : decode cX13_solveRing 26 = .ok (.goto (-16), 3) := by decide +kernel
theorem dX13_solveRing_29 : decode cX13_solveRing 29 = .ok (.iconst 1, 1) := by decide +kernel
theorem dX13_solveRing_30 : decode cX13_solveRing 30 = .ok (.istore_n 1, 1) := by decide +kernel
theorem dX13_solveRing_31 : decode cX13_solveRing 31 = .ok (.iconst 0, 1) := by decide +kernel
theorem dX13_solveRing_32 : decode cX13_solveRing 32 = .ok (.istore_n 2, 1) := by decide +kernel
theorem dX13_solveRing_33 : decode cX13_solveRing 33 = .ok (.iload_n 2, 1) := by decide +kernel
theorem dX13_solveRing_34 : decode cX13_solveRing 34 = .ok (.aload_n 0, 1) := by decide +kernel
theorem dX13_solveRing_35 : decode cX13_solveRing 35 = .ok (.getfield 755, 3) := by decide +kernel
theorem dX13_solveRing_38 : decode cX13_solveRing 38 = .ok (.if_icmp .ge 85, 3) := by decide +kernel
theorem dX13_solveRing_41 : decode cX13_solveRing 41 = .ok (.iload_n 1, 1) := by decide +kernel
theorem dX13_solveRing_42 : decode cX13_solveRing 42 = .ok (.ifCond .eq 81, 3) := by decide +kernel
theorem dX13_solveRing_45 : decode cX13_solveRing 45 = .ok (.aload_n 0, 1) := by decide +kernel
theorem dX13_solveRing_46 : decode cX13_solveRing 46 = .ok (.invokevirtual 762, 3) := by decide +kernel
theorem dX13_solveRing_49 : decode cX13_solveRing 49 = .ok (.iconst 0, 1) := by decide +kernel
theorem dX13_solveRing_50 : decode cX13_solveRing 50 = .ok (.istore_n 3, 1) := by decide +kernel
theorem dX13_solveRing_51 : decode cX13_solveRing 51 = .ok (.iload_n 3, 1) := by decide +kernel
theorem dX13_solveRing_52 : decode cX13_solveRing 52 = .ok (.aload_n 0, 1) := by decide +kernel
theorem dX13_solveRing_53 : decode cX13_solveRing 53 = .ok (.getfield 755, 3) := by decide +kernel
theorem dX13_solveRing_56 : decode cX13_solveRing 56 = .ok (.if_icmp .ge 29, 3) := by decide +kernel
theorem dX13_solveRing_59 : decode cX13_solveRing 59 = .ok (.aload_n 0, 1) := by decide +kernel
theorem dX13_solveRing_60 : decode cX13_solveRing 60 = .ok (.aload_n 0, 1) := by decide +kernel
theorem dX13_solveRing_61 : decode cX13_solveRing 61 = .ok (.getfield 207, 3) := by decide +kernel
theorem dX13_solveRing_64 : decode cX13_solveRing 64 = .ok (.iload_n 3, 1) := by decide +kernel
theorem dX13_solveRing_65 : decode cX13_solveRing 65 = .ok (.iaload, 1) := by decide +kernel
theorem dX13_solveRing_66 : decode cX13_solveRing 66 = .ok (.sipush 1152, 3) := by decide +kernel
theorem dX13_solveRing_69 : decode cX13_solveRing 69 = .ok (.bipush 32, 2) := by decide +kernel
theorem dX13_solveRing_71 : decode cX13_solveRing 71 = .ok (.iload_n 3, 1) := by decide +kernel
theorem dX13_solveRing_72 : decode cX13_solveRing 72 = .ok (.imul, 1) := by decide +kernel
theorem dX13_solveRing_73 : decode cX13_solveRing 73 = .ok (.iadd, 1) := by decide +kernel
theorem dX13_solveRing_74 : decode cX13_solveRing 74 = .ok (.iload_n 2, 1) := by decide +kernel
theorem dX13_solveRing_75 : decode cX13_solveRing 75 = .ok (.iadd, 1) := by decide +kernel
theorem dX13_solveRing_76 : decode cX13_solveRing 76 = .ok (.invokevirtual 778, 3) := by decide +kernel
theorem dX13_solveRing_79 : decode cX13_solveRing 79 = .ok (.iinc 3 1, 3) := by decide +kernel
theorem dX13_solveRing_82 : decode cX13_solveRing 82 = .ok (.goto (-31), 3) := by decide +kernel
theorem dX13_solveRing_85 : decode cX13_solveRing 85 = .ok (.aload_n 0, 1) := by decide +kernel
theorem dX13_solveRing_86 : decode cX13_solveRing 86 = .ok (.iconst 4, 1) := by decide +kernel
theorem dX13_solveRing_87 : decode cX13_solveRing 87 = .ok (.invokevirtual 781, 3) := by decide +kernel
theorem dX13_solveRing_90 : decode cX13_solveRing 90 = .ok (.ifCond .ne 15, 3) := by decide +kernel
theorem dX13_solveRing_93 : decode cX13_solveRing 93 = .ok (.aload_n 0, 1) := by decide +kernel
theorem dX13_solveRing_94 : decode cX13_solveRing 94 = .ok (.iconst 5, 1) := by decide +kernel
theorem dX13_solveRing_95 : decode cX13_solveRing 95 = .ok (.invokevirtual 781, 3) := by decide +kernel
theorem dX13_solveRing_98 : decode cX13_solveRing 98 = .ok (.ifCond .ne 7, 3) := by decide +kernel
theorem dX13_solveRing_101 : decode cX13_solveRing 101 = .ok (.iconst 1, 1) := by decide +kernel
theorem dX13_solveRing_102 : decode cX13_solveRing 102 = .ok (.goto 4, 3) := by decide +kernel
theorem dX13_solveRing_105 : decode cX13_solveRing 105 = .ok (.iconst 0, 1) := by decide +kernel
theorem dX13_solveRing_106 : decode cX13_solveRing 106 = .ok (.istore_n 1, 1) := by decide +kernel
theorem dX13_solveRing_107 : decode cX13_solveRing 107 = .ok (.aload_n 0, 1) := by decide +kernel
theorem dX13_solveRing_108 : decode cX13_solveRing 108 = .ok (.aload_n 0, 1) := by decide +kernel
theorem dX13_solveRing_109 : decode cX13_solveRing 109 = .ok (.getfield 207, 3) := by decide +kernel
theorem dX13_solveRing_112 : decode cX13_solveRing 112 = .ok (.iload_n 2, 1) := by decide +kernel
theorem dX13_solveRing_113 : decode cX13_solveRing 113 = .ok (.iaload, 1) := by decide +kernel
theorem dX13_solveRing_114 : decode cX13_solveRing 114 = .ok (.invokevirtual 784, 3) := by decide +kernel
theorem dX13_solveRing_117 : decode cX13_solveRing 117 = .ok (.iinc 2 1, 3) := by decide +kernel
theorem dX13_solveRing_120 : decode cX13_solveRing 120 = .ok (.goto (-87), 3) := by decide +kernel
theorem dX13_solveRing_123 : decode cX13_solveRing 123 = .ok (.iconst 0, 1) := by decide +kernel
theorem dX13_solveRing_124 : decode cX13_solveRing 124 = .ok (.istore_n 2, 1) := by decide +kernel
theorem dX13_solveRing_125 : decode cX13_solveRing 125 = .ok (.iload_n 2, 1) := by decide +kernel
theorem dX13_solveRing_126 : decode cX13_solveRing 126 = .ok (.aload_n 0, 1) := by decide +kernel
theorem dX13_solveRing_127 : decode cX13_solveRing 127 = .ok (.getfield 755, 3) := by decide +kernel
theorem dX13_solveRing_130 : decode cX13_solveRing 130 = .ok (.if_icmp .ge 21, 3) := by decide +kernel
theorem dX13_solveRing_133 : decode cX13_solveRing 133 = .ok (.aload_n 0, 1) := by decide +kernel
theorem dX13_solveRing_134 : decode cX13_solveRing 134 = .ok (.getfield 198, 3) := by decide +kernel
theorem dX13_solveRing_137 : decode cX13_solveRing 137 = .ok (.aload_n 0, 1) := by decide +kernel
theorem dX13_solveRing_138 : decode cX13_solveRing 138 = .ok (.getfield 207, 3) := by decide +kernel
theorem dX13_solveRing_141 : decode cX13_solveRing 141 = .ok (.iload_n 2, 1) := by decide +kernel
theorem dX13_solveRing_142 : decode cX13_solveRing 142 = .ok (.iaload, 1) := by decide +kernel
theorem dX13_solveRing_143 : decode cX13_solveRing 143 = .ok (.iconst 1, 1) := by decide +kernel
theorem dX13_solveRing_144 : decode cX13_solveRing 144 = .ok (.bastore, 1) := by decide +kernel
theorem dX13_solveRing_145 : decode cX13_solveRing 145 = .ok (.iinc 2 1, 3) := by decide +kernel
theorem dX13_solveRing_148 : decode cX13_solveRing 148 = .ok (.goto (-23), 3) := by decide +kernel
theorem dX13_solveRing_151 : decode cX13_solveRing 151 = .ok (.iload_n 1, 1) := by decide +kernel
theorem dX13_solveRing_152 : decode cX13_solveRing 152 = .ok (.ireturn, 1) := by decide +kernel
def w_solveRing_106 (C : rCx) (Q : Int32 → rS → Prop) (B33 : Int32 → Int32 → rS → Prop) (a2 : Int32) (s0 : Int32) (σ : rS) : Prop :=
  inb a2 1000 ∧
  cV C 0 m_keepVisits [.ref (co C), .int (σ.2.2.1 99 (a2).toNatClampNeg)] σ (fun σ1 =>
    ∀ v2_3 : Int32, v2_3 = a2 + (1 : Int32) →
    B33 s0 v2_3 σ1)
theorem t_solveRing_106 {C : rCx} (hC : cOK C) {Q : Int32 → rS → Prop} {B33 : Int32 → Int32 → rS → Prop} (hB33 : ∀ a1' a2' τ, B33 a1' a2' τ → wG C 7 m_solveRing 33 [some (.ref (co C)), some (.int a1'), some (.int a2'), none] [] τ (qI Q)) {a2 : Int32} {s0 : Int32} {σ : rS} (F : w_solveRing_106 C Q B33 a2 s0 σ) : wG C 7 m_solveRing 106 [some (.ref (co C)), none, some (.int a2), none] [.int s0] σ (qI Q) := by
  unfold w_solveRing_106 at F
  refine s_isn dX13_solveRing_106 (Nat.le_of_ble_eq_true rfl) rfl ?_
  show wG _ _ _ _ [some (.ref (co C)), some (.int s0), some (.int a2), none] _ _ _
  refine s_aln dX13_solveRing_107 rfl ?_
  refine s_aln dX13_solveRing_108 rfl ?_
  refine gf_207 dX13_solveRing_109 rfl ?_
  refine s_iln dX13_solveRing_112 rfl ?_
  refine s_ald hC dX13_solveRing_113 rt_99 F.1 ?_
  replace F := F.2
  refine k_784 dX13_solveRing_114 rfl (Nat.le_of_ble_eq_true rfl) (Nat.le_of_ble_eq_true rfl) F (fun σ1 F => ?_)
  refine s_incb dX13_solveRing_117 ki_1 rfl (Nat.le_of_ble_eq_true rfl) (fun v2_3 ev2_3 => ?_)
  replace F := F v2_3 ev2_3
  show wG _ _ _ _ [some (.ref (co C)), some (.int s0), some (.int v2_3), none] _ _ _
  refine s_goto (t := 33) dX13_solveRing_120 rfl ?_
  exact s_k (hB33 _ _ _ F) ⟨rfl, rfl, rfl, trivial⟩

def w_solveRing_51 (C : rCx) (Q : Int32 → rS → Prop) (B33 : Int32 → Int32 → rS → Prop) (a2 : Int32) (a3 : Int32) (σ : rS) : Prop :=
  ∃ I : Nat → Int32 → Int32 → rS → Prop, (∃ n, I n a2 a3 σ) ∧ ∀ n a2 a3 σ, I n a2 a3 σ →
    ((σ.1 100) ≤ a3 →
      cI C 0 m_isLong [.ref (co C), .int (4 : Int32)] σ (fun r2 σ1 =>
        (¬ (r2 = 0) →
          w_solveRing_106 C Q B33 a2 (0 : Int32) σ1) ∧
        (r2 = 0 →
          cI C 0 m_isLong [.ref (co C), .int (5 : Int32)] σ1 (fun r4 σ3 =>
            (¬ (r4 = 0) →
              w_solveRing_106 C Q B33 a2 (0 : Int32) σ3) ∧
            (r4 = 0 →
              w_solveRing_106 C Q B33 a2 (1 : Int32) σ3))))) ∧
    (¬ ((σ.1 100) ≤ a3) →
      inb a3 1000 ∧
      cV C 5 m_sumInflow [.ref (co C), .int (σ.2.2.1 99 (a3).toNatClampNeg), .int (((1152 : Int32) + ((32 : Int32) * a3)) + a2)] σ (fun σ5 =>
        ∀ v3_7 : Int32, v3_7 = a3 + (1 : Int32) →
        ∃ k < n, I k a2 v3_7 σ5))
theorem t_solveRing_51 {C : rCx} (hC : cOK C) {Q : Int32 → rS → Prop} {B33 : Int32 → Int32 → rS → Prop} (hB33 : ∀ a1' a2' τ, B33 a1' a2' τ → wG C 7 m_solveRing 33 [some (.ref (co C)), some (.int a1'), some (.int a2'), none] [] τ (qI Q)) {a2 : Int32} {a3 : Int32} {σ : rS} (F : w_solveRing_51 C Q B33 a2 a3 σ) : wG C 7 m_solveRing 51 [some (.ref (co C)), none, some (.int a2), some (.int a3)] [] σ (qI Q) := by
  obtain ⟨I, ⟨n0, hI0⟩, F0⟩ := F
  have key : ∀ n a2 a3 σ, I n a2 a3 σ → wG C 7 m_solveRing 51 [some (.ref (co C)), none, some (.int a2), some (.int a3)] [] σ (qI Q) := by
    intro n
    induction n using Nat.strongRecOn with
    | _ n ih =>
      intro a2 a3 σ hI
      have F := F0 n a2 a3 σ hI
      clear hI hI0
      refine s_iln dX13_solveRing_51 rfl ?_
      refine s_aln dX13_solveRing_52 rfl ?_
      refine gf_755 dX13_solveRing_53 rfl ?_
      refine s_ii (t := 85) ((σ.1 100) ≤ a3) dX13_solveRing_56 rfl rfl (fun hc => ?_) (fun hc => ?_)
      · replace F := F.1 hc
        refine s_aln dX13_solveRing_85 rfl ?_
        refine s_ic dX13_solveRing_86 ki_4 ?_
        refine k_781 dX13_solveRing_87 rfl (Nat.le_of_ble_eq_true rfl) (Nat.le_of_ble_eq_true rfl) F (fun r2 σ1 F => ?_)
        refine s_in (t := 105) (r2 = 0) dX13_solveRing_90 rfl rfl (fun hc => ?_) (fun hc => ?_)
        · replace F := F.1 hc
          refine s_ic dX13_solveRing_105 ki_0 ?_
          exact s_k (t_solveRing_106 hC hB33 F) ⟨rfl, rfl, trivial⟩
        · replace F := F.2 hc
          refine s_aln dX13_solveRing_93 rfl ?_
          refine s_ic dX13_solveRing_94 ki_5 ?_
          refine k_781 dX13_solveRing_95 rfl (Nat.le_of_ble_eq_true rfl) (Nat.le_of_ble_eq_true rfl) F (fun r4 σ3 F => ?_)
          refine s_in (t := 105) (r4 = 0) dX13_solveRing_98 rfl rfl (fun hc => ?_) (fun hc => ?_)
          · replace F := F.1 hc
            refine s_ic dX13_solveRing_105 ki_0 ?_
            exact s_k (t_solveRing_106 hC hB33 F) ⟨rfl, rfl, trivial⟩
          · replace F := F.2 hc
            refine s_ic dX13_solveRing_101 ki_1 ?_
            refine s_goto (t := 106) dX13_solveRing_102 rfl ?_
            exact s_k (t_solveRing_106 hC hB33 F) ⟨rfl, rfl, trivial⟩
      · replace F := F.2 hc
        refine s_aln dX13_solveRing_59 rfl ?_
        refine s_aln dX13_solveRing_60 rfl ?_
        refine gf_207 dX13_solveRing_61 rfl ?_
        refine s_iln dX13_solveRing_64 rfl ?_
        refine s_ald hC dX13_solveRing_65 rt_99 F.1 ?_
        replace F := F.2
        refine s_si dX13_solveRing_66 ks_1152 ?_
        refine s_bi dX13_solveRing_69 kb_32 ?_
        refine s_iln dX13_solveRing_71 rfl ?_
        refine s_imul dX13_solveRing_72 ?_
        refine s_iadd dX13_solveRing_73 ?_
        refine s_iln dX13_solveRing_74 rfl ?_
        refine s_iadd dX13_solveRing_75 ?_
        refine k_778 dX13_solveRing_76 rfl (Nat.le_of_ble_eq_true rfl) (Nat.le_of_ble_eq_true rfl) F (fun σ5 F => ?_)
        refine s_incb dX13_solveRing_79 ki_1 rfl (Nat.le_of_ble_eq_true rfl) (fun v3_7 ev3_7 => ?_)
        replace F := F v3_7 ev3_7
        show wG _ _ _ _ [some (.ref (co C)), none, some (.int a2), some (.int v3_7)] _ _ _
        refine s_goto (t := 51) dX13_solveRing_82 rfl ?_
        obtain ⟨k, hk, hI⟩ := F
        exact s_k (ih k hk _ _ _ hI) ⟨rfl, rfl, rfl, trivial⟩
  exact key n0 a2 a3 σ hI0

def w_solveRing_125 (C : rCx) (Q : Int32 → rS → Prop)  (a1 : Int32) (a2 : Int32) (σ : rS) : Prop :=
  ∃ I : Nat → Int32 → Int32 → rS → Prop, (∃ n, I n a1 a2 σ) ∧ ∀ n a1 a2 σ, I n a1 a2 σ →
    ((σ.1 100) ≤ a2 →
      nb a1 ∧ Q a1 σ) ∧
    (¬ ((σ.1 100) ≤ a2) →
      inb a2 1000 ∧
      inb (σ.2.2.1 99 (a2).toNatClampNeg) 1000 ∧
      ∀ σ1, σ1 = riU σ 96 ((σ.2.2.1 99 (a2).toNatClampNeg)).toNatClampNeg (vp_nar .boolean (1 : Int32)) →
      ∀ v2_2 : Int32, v2_2 = a2 + (1 : Int32) →
      ∃ k < n, I k a1 v2_2 σ1)
theorem t_solveRing_125 {C : rCx} (hC : cOK C) {Q : Int32 → rS → Prop}   {a1 : Int32} {a2 : Int32} {σ : rS} (F : w_solveRing_125 C Q  a1 a2 σ) : wG C 7 m_solveRing 125 [some (.ref (co C)), some (.int a1), some (.int a2), none] [] σ (qI Q) := by
  obtain ⟨I, ⟨n0, hI0⟩, F0⟩ := F
  have key : ∀ n a1 a2 σ, I n a1 a2 σ → wG C 7 m_solveRing 125 [some (.ref (co C)), some (.int a1), some (.int a2), none] [] σ (qI Q) := by
    intro n
    induction n using Nat.strongRecOn with
    | _ n ih =>
      intro a1 a2 σ hI
      have F := F0 n a1 a2 σ hI
      clear hI hI0
      refine s_iln dX13_solveRing_125 rfl ?_
      refine s_aln dX13_solveRing_126 rfl ?_
      refine gf_755 dX13_solveRing_127 rfl ?_
      refine s_ii (t := 151) ((σ.1 100) ≤ a2) dX13_solveRing_130 rfl rfl (fun hc => ?_) (fun hc => ?_)
      · replace F := F.1 hc
        refine s_iln dX13_solveRing_151 rfl ?_
        exact s_ri dX13_solveRing_152 rfl (nb_nar F.1) F.2
      · replace F := F.2 hc
        refine s_aln dX13_solveRing_133 rfl ?_
        refine gf_198 dX13_solveRing_134 rfl ?_
        refine s_aln dX13_solveRing_137 rfl ?_
        refine gf_207 dX13_solveRing_138 rfl ?_
        refine s_iln dX13_solveRing_141 rfl ?_
        refine s_ald hC dX13_solveRing_142 rt_99 F.1 ?_
        replace F := F.2
        refine s_ic dX13_solveRing_143 ki_1 ?_
        refine s_zstb hC dX13_solveRing_144 rt_96 F.1 (fun σ1 eσ1 => ?_)
        replace F := F.2 σ1 eσ1
        refine s_incb dX13_solveRing_145 ki_1 rfl (Nat.le_of_ble_eq_true rfl) (fun v2_2 ev2_2 => ?_)
        replace F := F v2_2 ev2_2
        show wG _ _ _ _ [some (.ref (co C)), some (.int a1), some (.int v2_2), none] _ _ _
        refine s_goto (t := 125) dX13_solveRing_148 rfl ?_
        obtain ⟨k, hk, hI⟩ := F
        exact s_k (ih k hk _ _ _ hI) ⟨rfl, rfl, rfl, trivial⟩
  exact key n0 a1 a2 σ hI0

def w_solveRing_33 (C : rCx) (Q : Int32 → rS → Prop)  (a1 : Int32) (a2 : Int32) (σ : rS) : Prop :=
  ∃ I : Nat → Int32 → Int32 → rS → Prop, (∃ n, I n a1 a2 σ) ∧ ∀ n a1 a2 σ, I n a1 a2 σ →
    ((σ.1 100) ≤ a2 →
      w_solveRing_125 C Q  a1 (0 : Int32) σ) ∧
    (¬ ((σ.1 100) ≤ a2) →
      (a1 = 0 →
        w_solveRing_125 C Q  a1 (0 : Int32) σ) ∧
      (¬ (a1 = 0) →
        cV C 1 m_clearSum [.ref (co C)] σ (fun σ1 =>
          w_solveRing_51 C Q (fun a1' a2' τ => ∃ k < n, I k a1' a2' τ) a2 (0 : Int32) σ1)))
theorem t_solveRing_33 {C : rCx} (hC : cOK C) {Q : Int32 → rS → Prop}   {a1 : Int32} {a2 : Int32} {σ : rS} (F : w_solveRing_33 C Q  a1 a2 σ) : wG C 7 m_solveRing 33 [some (.ref (co C)), some (.int a1), some (.int a2), none] [] σ (qI Q) := by
  obtain ⟨I, ⟨n0, hI0⟩, F0⟩ := F
  have key : ∀ n a1 a2 σ, I n a1 a2 σ → wG C 7 m_solveRing 33 [some (.ref (co C)), some (.int a1), some (.int a2), none] [] σ (qI Q) := by
    intro n
    induction n using Nat.strongRecOn with
    | _ n ih =>
      intro a1 a2 σ hI
      have F := F0 n a1 a2 σ hI
      clear hI hI0
      refine s_iln dX13_solveRing_33 rfl ?_
      refine s_aln dX13_solveRing_34 rfl ?_
      refine gf_755 dX13_solveRing_35 rfl ?_
      refine s_ii (t := 123) ((σ.1 100) ≤ a2) dX13_solveRing_38 rfl rfl (fun hc => ?_) (fun hc => ?_)
      · replace F := F.1 hc
        refine s_ic dX13_solveRing_123 ki_0 ?_
        refine s_isn dX13_solveRing_124 (Nat.le_of_ble_eq_true rfl) rfl ?_
        show wG _ _ _ _ [some (.ref (co C)), some (.int a1), some (.int (0 : Int32)), none] _ _ _
        exact s_k (t_solveRing_125 hC  F) ⟨rfl, rfl, rfl, trivial⟩
      · replace F := F.2 hc
        refine s_iln dX13_solveRing_41 rfl ?_
        refine s_i (t := 123) (a1 = 0) dX13_solveRing_42 rfl rfl (fun hc => ?_) (fun hc => ?_)
        · replace F := F.1 hc
          refine s_ic dX13_solveRing_123 ki_0 ?_
          refine s_isn dX13_solveRing_124 (Nat.le_of_ble_eq_true rfl) rfl ?_
          show wG _ _ _ _ [some (.ref (co C)), some (.int a1), some (.int (0 : Int32)), none] _ _ _
          exact s_k (t_solveRing_125 hC  F) ⟨rfl, rfl, rfl, trivial⟩
        · replace F := F.2 hc
          refine s_aln dX13_solveRing_45 rfl ?_
          refine k_762 dX13_solveRing_46 rfl (Nat.le_of_ble_eq_true rfl) (Nat.le_of_ble_eq_true rfl) F (fun σ1 F => ?_)
          refine s_ic dX13_solveRing_49 ki_0 ?_
          refine s_isn dX13_solveRing_50 (Nat.le_of_ble_eq_true rfl) rfl ?_
          show wG _ _ _ _ [some (.ref (co C)), some (.int a1), some (.int a2), some (.int (0 : Int32))] _ _ _
          exact s_k (t_solveRing_51 hC (fun a1' a2' τ hb => by obtain ⟨k, hk, hI⟩ := hb; exact ih k hk a1' a2' τ hI) F) ⟨rfl, rfl, rfl, trivial⟩
  exact key n0 a1 a2 σ hI0

def w_solveRing_10 (C : rCx) (Q : Int32 → rS → Prop)  (a1 : Int32) (σ : rS) : Prop :=
  ∃ I : Nat → Int32 → rS → Prop, (∃ n, I n a1 σ) ∧ ∀ n a1 σ, I n a1 σ →
    ((σ.1 100) ≤ a1 →
      w_solveRing_33 C Q  (1 : Int32) (0 : Int32) σ) ∧
    (¬ ((σ.1 100) ≤ a1) →
      cV C 6 m_visitFrom [.ref (co C), .int a1] σ (fun σ1 =>
        ∀ v1_3 : Int32, v1_3 = a1 + (1 : Int32) →
        ∃ k < n, I k v1_3 σ1))
theorem t_solveRing_10 {C : rCx} (hC : cOK C) {Q : Int32 → rS → Prop}   {a1 : Int32} {σ : rS} (F : w_solveRing_10 C Q  a1 σ) : wG C 7 m_solveRing 10 [some (.ref (co C)), some (.int a1), none, none] [] σ (qI Q) := by
  obtain ⟨I, ⟨n0, hI0⟩, F0⟩ := F
  have key : ∀ n a1 σ, I n a1 σ → wG C 7 m_solveRing 10 [some (.ref (co C)), some (.int a1), none, none] [] σ (qI Q) := by
    intro n
    induction n using Nat.strongRecOn with
    | _ n ih =>
      intro a1 σ hI
      have F := F0 n a1 σ hI
      clear hI hI0
      refine s_iln dX13_solveRing_10 rfl ?_
      refine s_aln dX13_solveRing_11 rfl ?_
      refine gf_755 dX13_solveRing_12 rfl ?_
      refine s_ii (t := 29) ((σ.1 100) ≤ a1) dX13_solveRing_15 rfl rfl (fun hc => ?_) (fun hc => ?_)
      · replace F := F.1 hc
        refine s_ic dX13_solveRing_29 ki_1 ?_
        refine s_isn dX13_solveRing_30 (Nat.le_of_ble_eq_true rfl) rfl ?_
        show wG _ _ _ _ [some (.ref (co C)), some (.int (1 : Int32)), none, none] _ _ _
        refine s_ic dX13_solveRing_31 ki_0 ?_
        refine s_isn dX13_solveRing_32 (Nat.le_of_ble_eq_true rfl) rfl ?_
        show wG _ _ _ _ [some (.ref (co C)), some (.int (1 : Int32)), some (.int (0 : Int32)), none] _ _ _
        exact s_k (t_solveRing_33 hC  F) ⟨rfl, rfl, rfl, trivial⟩
      · replace F := F.2 hc
        refine s_aln dX13_solveRing_18 rfl ?_
        refine s_iln dX13_solveRing_19 rfl ?_
        refine k_775 dX13_solveRing_20 rfl (Nat.le_of_ble_eq_true rfl) (Nat.le_of_ble_eq_true rfl) F (fun σ1 F => ?_)
        refine s_incb dX13_solveRing_23 ki_1 rfl (Nat.le_of_ble_eq_true rfl) (fun v1_3 ev1_3 => ?_)
        replace F := F v1_3 ev1_3
        show wG _ _ _ _ [some (.ref (co C)), some (.int v1_3), none, none] _ _ _
        refine s_goto (t := 10) dX13_solveRing_26 rfl ?_
        obtain ⟨k, hk, hI⟩ := F
        exact s_k (ih k hk _ _ hI) ⟨rfl, rfl, trivial⟩
  exact key n0 a1 σ hI0

def w_solveRing_0 (C : rCx) (Q : Int32 → rS → Prop)   (σ : rS) : Prop :=
  cV C 5 m_layRing [.ref (co C)] σ (fun σ1 =>
    cV C 6 m_foldRing [.ref (co C)] σ1 (fun σ3 =>
      w_solveRing_10 C Q  (0 : Int32) σ3))
theorem t_solveRing_0 {C : rCx} (hC : cOK C) {Q : Int32 → rS → Prop}    {σ : rS} (F : w_solveRing_0 C Q   σ) : wG C 7 m_solveRing 0 [some (.ref (co C)), none, none, none] [] σ (qI Q) := by
  unfold w_solveRing_0 at F
  refine s_aln dX13_solveRing_0 rfl ?_
  refine k_769 dX13_solveRing_1 rfl (Nat.le_of_ble_eq_true rfl) (Nat.le_of_ble_eq_true rfl) F (fun σ1 F => ?_)
  refine s_aln dX13_solveRing_4 rfl ?_
  refine k_772 dX13_solveRing_5 rfl (Nat.le_of_ble_eq_true rfl) (Nat.le_of_ble_eq_true rfl) F (fun σ3 F => ?_)
  refine s_ic dX13_solveRing_8 ki_0 ?_
  refine s_isn dX13_solveRing_9 (Nat.le_of_ble_eq_true rfl) rfl ?_
  show wG _ _ _ _ [some (.ref (co C)), some (.int (0 : Int32)), none, none] _ _ _
  exact s_k (t_solveRing_10 hC  F) ⟨rfl, rfl, trivial⟩

theorem m_solveRing_run {C : rCx} (hC : cOK C) {Q : Int32 → rS → Prop}  {σ : rS} (F : w_solveRing_0 C Q  σ) : cI C 7 m_solveRing [.ref (co C)] σ Q := m_I (m_ent _ 3) (t_solveRing_0 hC F)

theorem dX13_findOrder_0 : decode cX13_findOrder 0 = .ok (.aload_n 0, 1) := by decide +kernel
theorem dX13_findOrder_1 : decode cX13_findOrder 1 = .ok (.iconst 1, 1) := by decide +kernel
theorem dX13_findOrder_2 : decode cX13_findOrder 2 = .ok (.aload_n 0, 1) := by decide +kernel
theorem dX13_findOrder_3 : decode cX13_findOrder 3 = .ok (.getfield 195, 3) := by decide +kernel
theorem dX13_findOrder_6 : decode cX13_findOrder 6 = .ok (.iconst 1, 1) := by decide +kernel
theorem dX13_findOrder_7 : decode cX13_findOrder 7 = .ok (.invokevirtual 654, 3) := by decide +kernel
theorem dX13_findOrder_10 : decode cX13_findOrder 10 = .ok (.iconst 0, 1) := by decide +kernel
theorem dX13_findOrder_11 : decode cX13_findOrder 11 = .ok (.istore_n 1, 1) := by decide +kernel
theorem dX13_findOrder_12 : decode cX13_findOrder 12 = .ok (.iload_n 1, 1) := by decide +kernel
theorem dX13_findOrder_13 : decode cX13_findOrder 13 = .ok (.aload_n 0, 1) := by decide +kernel
theorem dX13_findOrder_14 : decode cX13_findOrder 14 = .ok (.getfield 542, 3) := by decide +kernel
theorem dX13_findOrder_17 : decode cX13_findOrder 17 = .ok (.if_icmp .ge 21, 3) := by decide +kernel
theorem dX13_findOrder_20 : decode cX13_findOrder 20 = .ok (.aload_n 0, 1) := by decide +kernel
theorem dX13_findOrder_21 : decode cX13_findOrder 21 = .ok (.getfield 195, 3) := by decide +kernel
theorem dX13_findOrder_24 : decode cX13_findOrder 24 = .ok (.iload_n 1, 1) := by decide +kernel
theorem dX13_findOrder_25 : decode cX13_findOrder 25 = .ok (.aload_n 0, 1) := by decide +kernel
theorem dX13_findOrder_26 : decode cX13_findOrder 26 = .ok (.iload_n 1, 1) := by decide +kernel
theorem dX13_findOrder_27 : decode cX13_findOrder 27 = .ok (.iconst 1, 1) := by decide +kernel
theorem dX13_findOrder_28 : decode cX13_findOrder 28 = .ok (.invokevirtual 664, 3) := by decide +kernel
theorem dX13_findOrder_31 : decode cX13_findOrder 31 = .ok (.bastore, 1) := by decide +kernel
theorem dX13_findOrder_32 : decode cX13_findOrder 32 = .ok (.iinc 1 1, 3) := by decide +kernel
theorem dX13_findOrder_35 : decode cX13_findOrder 35 = .ok (.goto (-23), 3) := by decide +kernel
theorem dX13_findOrder_38 : decode cX13_findOrder 38 = .ok (.aload_n 0, 1) := by decide +kernel
theorem dX13_findOrder_39 : decode cX13_findOrder 39 = .ok (.iconst 1, 1) := by decide +kernel
theorem dX13_findOrder_40 : decode cX13_findOrder 40 = .ok (.aload_n 0, 1) := by decide +kernel
theorem dX13_findOrder_41 : decode cX13_findOrder 41 = .ok (.getfield 195, 3) := by decide +kernel
theorem dX13_findOrder_44 : decode cX13_findOrder 44 = .ok (.iconst 0, 1) := by decide +kernel
theorem dX13_findOrder_45 : decode cX13_findOrder 45 = .ok (.invokevirtual 654, 3) := by decide +kernel
theorem dX13_findOrder_48 : decode cX13_findOrder 48 = .ok (.iconst 0, 1) := by decide +kernel
theorem dX13_findOrder_49 : decode cX13_findOrder 49 = .ok (.istore_n 1, 1) := by decide +kernel
theorem dX13_findOrder_50 : decode cX13_findOrder 50 = .ok (.iload_n 1, 1) := by decide +kernel
theorem dX13_findOrder_51 : decode cX13_findOrder 51 = .ok (.aload_n 0, 1) := by decide +kernel
theorem dX13_findOrder_52 : decode cX13_findOrder 52 = .ok (.getfield 542, 3) := by decide +kernel
theorem dX13_findOrder_55 : decode cX13_findOrder 55 = .ok (.if_icmp .ge 158, 3) := by decide +kernel
theorem dX13_findOrder_58 : decode cX13_findOrder 58 = .ok (.aload_n 0, 1) := by decide +kernel
theorem dX13_findOrder_59 : decode cX13_findOrder 59 = .ok (.getfield 201, 3) := by decide +kernel
theorem dX13_findOrder_62 : decode cX13_findOrder 62 = .ok (.iload_n 1, 1) := by decide +kernel
theorem dX13_findOrder_63 : decode cX13_findOrder 63 = .ok (.iconst 0, 1) := by decide +kernel
theorem dX13_findOrder_64 : decode cX13_findOrder 64 = .ok (.iastore, 1) := by decide +kernel
theorem dX13_findOrder_65 : decode cX13_findOrder 65 = .ok (.iconst 0, 1) := by decide +kernel
theorem dX13_findOrder_66 : decode cX13_findOrder 66 = .ok (.istore_n 2, 1) := by decide +kernel
theorem dX13_findOrder_67 : decode cX13_findOrder 67 = .ok (.iload_n 2, 1) := by decide +kernel
theorem dX13_findOrder_68 : decode cX13_findOrder 68 = .ok (.aload_n 0, 1) := by decide +kernel
theorem dX13_findOrder_69 : decode cX13_findOrder 69 = .ok (.getfield 542, 3) := by decide +kernel
theorem dX13_findOrder_72 : decode cX13_findOrder 72 = .ok (.if_icmp .ge 32, 3) := by decide +kernel
theorem dX13_findOrder_75 : decode cX13_findOrder 75 = .ok (.aload_n 0, 1) := by decide +kernel
theorem dX13_findOrder_76 : decode cX13_findOrder 76 = .ok (.getfield 201, 3) := by decide +kernel
theorem dX13_findOrder_79 : decode cX13_findOrder 79 = .ok (.iload_n 1, 1) := by decide +kernel
theorem dX13_findOrder_80 : decode cX13_findOrder 80 = .ok (.dup2, 1) := by decide +kernel
theorem dX13_findOrder_81 : decode cX13_findOrder 81 = .ok (.iaload, 1) := by decide +kernel
theorem dX13_findOrder_82 : decode cX13_findOrder 82 = .ok (.aload_n 0, 1) := by decide +kernel
theorem dX13_findOrder_83 : decode cX13_findOrder 83 = .ok (.iload_n 2, 1) := by decide +kernel
theorem dX13_findOrder_84 : decode cX13_findOrder 84 = .ok (.iload_n 1, 1) := by decide +kernel
theorem dX13_findOrder_85 : decode cX13_findOrder 85 = .ok (.invokevirtual 644, 3) := by decide +kernel
theorem dX13_findOrder_88 : decode cX13_findOrder 88 = .ok (.ifCond .eq 7, 3) := by decide +kernel
theorem dX13_findOrder_91 : decode cX13_findOrder 91 = .ok (.iconst 2, 1) := by decide +kernel
theorem dX13_findOrder_92 : decode cX13_findOrder 92 = .ok (.goto 4, 3) := by decide +kernel
theorem dX13_findOrder_95 : decode cX13_findOrder 95 = .ok (.iconst 0, 1) := by decide +kernel
theorem dX13_findOrder_96 : decode cX13_findOrder 96 = .ok (.iadd, 1) := by decide +kernel
theorem dX13_findOrder_97 : decode cX13_findOrder 97 = .ok (.iastore, 1) := by decide +kernel
theorem dX13_findOrder_98 : decode cX13_findOrder 98 = .ok (.iinc 2 1, 3) := by decide +kernel
theorem dX13_findOrder_101 : decode cX13_findOrder 101 = .ok (.goto (-34), 3) := by decide +kernel
theorem dX13_findOrder_104 : decode cX13_findOrder 104 = .ok (.aload_n 0, 1) := by decide +kernel
theorem dX13_findOrder_105 : decode cX13_findOrder 105 = .ok (.getfield 201, 3) := by decide +kernel
theorem dX13_findOrder_108 : decode cX13_findOrder 108 = .ok (.iload_n 1, 1) := by decide +kernel
theorem dX13_findOrder_109 : decode cX13_findOrder 109 = .ok (.dup2, 1) := by decide +kernel
theorem dX13_findOrder_110 : decode cX13_findOrder 110 = .ok (.iaload, 1) := by decide +kernel
theorem dX13_findOrder_111 : decode cX13_findOrder 111 = .ok (.aload_n 0, 1) := by decide +kernel
theorem dX13_findOrder_112 : decode cX13_findOrder 112 = .ok (.iload_n 1, 1) := by decide +kernel
theorem dX13_findOrder_113 : decode cX13_findOrder 113 = .ok (.iload_n 1, 1) := by decide +kernel
theorem dX13_findOrder_114 : decode cX13_findOrder 114 = .ok (.invokevirtual 644, 3) := by decide +kernel
theorem dX13_findOrder_117 : decode cX13_findOrder 117 = .ok (.ifCond .eq 7, 3) := by decide +kernel
theorem dX13_findOrder_120 : decode cX13_findOrder 120 = .ok (.iconst 0, 1) := by decide +kernel
theorem dX13_findOrder_121 : decode cX13_findOrder 121 = .ok (.goto 4, 3) := by decide +kernel
theorem dX13_findOrder_124 : decode cX13_findOrder 124 = .ok (.iconst 1, 1) := by decide +kernel
theorem dX13_findOrder_125 : decode cX13_findOrder 125 = .ok (.iadd, 1) := by decide +kernel
theorem dX13_findOrder_126 : decode cX13_findOrder 126 = .ok (.iastore, 1) := by decide +kernel
theorem dX13_findOrder_127 : decode cX13_findOrder 127 = .ok (.iload_n 1, 1) := by decide +kernel
theorem dX13_findOrder_128 : decode cX13_findOrder 128 = .ok (.istore_n 2, 1) := by decide +kernel
theorem dX13_findOrder_129 : decode cX13_findOrder 129 = .ok (.iload_n 2, 1) := by decide +kernel
theorem dX13_findOrder_130 : decode cX13_findOrder 130 = .ok (.ifCond .le 45, 3) := by decide +kernel
theorem dX13_findOrder_133 : decode cX13_findOrder 133 = .ok (.aload_n 0, 1) := by decide +kernel
theorem dX13_findOrder_134 : decode cX13_findOrder 134 = .ok (.getfield 201, 3) := by decide +kernel
theorem dX13_findOrder_137 : decode cX13_findOrder 137 = .ok (.aload_n 0, 1) := by decide +kernel
theorem dX13_findOrder_138 : decode cX13_findOrder 138 = .ok (.getfield 204, 3) := by decide +kernel
theorem dX13_findOrder_141 : decode cX13_findOrder 141 = .ok (.iload_n 2, 1) := by decide +kernel
theorem dX13_findOrder_142 : decode cX13_findOrder 142 = .ok (.iconst 1, 1) := by decide +kernel
theorem dX13_findOrder_143 : decode cX13_findOrder 143 = .ok (.isub, 1) := by decide +kernel
theorem dX13_findOrder_144 : decode cX13_findOrder 144 = .ok (.iaload, 1) := by decide +kernel
theorem dX13_findOrder_145 : decode cX13_findOrder 145 = .ok (.iaload, 1) := by decide +kernel
theorem dX13_findOrder_146 : decode cX13_findOrder 146 = .ok (.aload_n 0, 1) := by decide +kernel
theorem dX13_findOrder_147 : decode cX13_findOrder 147 = .ok (.getfield 201, 3) := by decide +kernel
theorem dX13_findOrder_150 : decode cX13_findOrder 150 = .ok (.iload_n 1, 1) := by decide +kernel
theorem dX13_findOrder_151 : decode cX13_findOrder 151 = .ok (.iaload, 1) := by decide +kernel
theorem dX13_findOrder_152 : decode cX13_findOrder 152 = .ok (.if_icmp .le 23, 3) := by decide +kernel
theorem dX13_findOrder_155 : decode cX13_findOrder 155 = .ok (.aload_n 0, 1) := by decide +kernel
theorem dX13_findOrder_156 : decode cX13_findOrder 156 = .ok (.getfield 204, 3) := by decide +kernel
theorem dX13_findOrder_159 : decode cX13_findOrder 159 = .ok (.iload_n 2, 1) := by decide +kernel
theorem dX13_findOrder_160 : decode cX13_findOrder 160 = .ok (.aload_n 0, 1) := by decide +kernel
theorem dX13_findOrder_161 : decode cX13_findOrder 161 = .ok (.getfield 204, 3) := by decide +kernel
theorem dX13_findOrder_164 : decode cX13_findOrder 164 = .ok (.iload_n 2, 1) := by decide +kernel
theorem dX13_findOrder_165 : decode cX13_findOrder 165 = .ok (.iconst 1, 1) := by decide +kernel
theorem dX13_findOrder_166 : decode cX13_findOrder 166 = .ok (.isub, 1) := by decide +kernel
theorem dX13_findOrder_167 : decode cX13_findOrder 167 = .ok (.iaload, 1) := by decide +kernel
theorem dX13_findOrder_168 : decode cX13_findOrder 168 = .ok (.iastore, 1) := by decide +kernel
theorem dX13_findOrder_169 : decode cX13_findOrder 169 = .ok (.iinc 2 (-1), 3) := by decide +kernel
theorem dX13_findOrder_172 : decode cX13_findOrder 172 = .ok (.goto (-43), 3) := by decide +kernel
theorem dX13_findOrder_175 : decode cX13_findOrder 175 = .ok (.aload_n 0, 1) := by decide +kernel
theorem dX13_findOrder_176 : decode cX13_findOrder 176 = .ok (.getfield 204, 3) := by decide +kernel
theorem dX13_findOrder_179 : decode cX13_findOrder 179 = .ok (.iload_n 2, 1) := by decide +kernel
theorem dX13_findOrder_180 : decode cX13_findOrder 180 = .ok (.iload_n 1, 1) := by decide +kernel
theorem dX13_findOrder_181 : decode cX13_findOrder 181 = .ok (.iastore, 1) := by decide +kernel
theorem dX13_findOrder_182 : decode cX13_findOrder 182 = .ok (.aload_n 0, 1) := by decide +kernel
theorem dX13_findOrder_183 : decode cX13_findOrder 183 = .ok (.getfield 198, 3) := by decide +kernel
theorem dX13_findOrder_186 : decode cX13_findOrder 186 = .ok (.iload_n 1, 1) := by decide +kernel
theorem dX13_findOrder_187 : decode cX13_findOrder 187 = .ok (.iconst 0, 1) := by decide +kernel
theorem dX13_findOrder_188 : decode cX13_findOrder 188 = .ok (.bastore, 1) := by decide +kernel
theorem dX13_findOrder_189 : decode cX13_findOrder 189 = .ok (.aload_n 0, 1) := by decide +kernel
theorem dX13_findOrder_190 : decode cX13_findOrder 190 = .ok (.getfield 188, 3) := by decide +kernel
theorem dX13_findOrder_193 : decode cX13_findOrder 193 = .ok (.iconst 4, 1) := by decide +kernel
theorem dX13_findOrder_194 : decode cX13_findOrder 194 = .ok (.iconst 0, 1) := by decide +kernel
theorem dX13_findOrder_195 : decode cX13_findOrder 195 = .ok (.iastore, 1) := by decide +kernel
theorem dX13_findOrder_196 : decode cX13_findOrder 196 = .ok (.aload_n 0, 1) := by decide +kernel
theorem dX13_findOrder_197 : decode cX13_findOrder 197 = .ok (.iconst 5, 1) := by decide +kernel
theorem dX13_findOrder_198 : decode cX13_findOrder 198 = .ok (.lconst 1, 1) := by decide +kernel
theorem dX13_findOrder_199 : decode cX13_findOrder 199 = .ok (.invokevirtual 699, 3) := by decide +kernel
theorem dX13_findOrder_202 : decode cX13_findOrder 202 = .ok (.aload_n 0, 1) := by decide +kernel
theorem dX13_findOrder_203 : decode cX13_findOrder 203 = .ok (.iload_n 1, 1) := by decide +kernel
theorem dX13_findOrder_204 : decode cX13_findOrder 204 = .ok (.invokevirtual 784, 3) := by decide +kernel
theorem dX13_findOrder_207 : decode cX13_findOrder 207 = .ok (.iinc 1 1, 3) := by decide +kernel
theorem dX13_findOrder_210 : decode cX13_findOrder 210 = .ok (.goto (-160), 3) := by decide +kernel
theorem dX13_findOrder_213 : decode cX13_findOrder 213 = .ok (.return_, 1) := by decide +kernel
def w_findOrder_96 (C : rCx) (Q : rS → Prop) (B50 : Int32 → rS → Prop) (B67 : Int32 → Int32 → rS → Prop) (a1 : Int32) (a2 : Int32) (s1 : Int32) (s2 : Int32) (s3 : Int32) (σ : rS) : Prop :=
  inb s1 1000 ∧
  ∀ σ1, σ1 = riU σ 97 (s1).toNatClampNeg (s2 + s3) →
  ∀ v2_2 : Int32, v2_2 = a2 + (1 : Int32) →
  B67 a1 v2_2 σ1
theorem t_findOrder_96 {C : rCx} (hC : cOK C) {Q : rS → Prop} {B50 : Int32 → rS → Prop} {B67 : Int32 → Int32 → rS → Prop} (hB50 : ∀ a1' τ, B50 a1' τ → wG C 3 m_findOrder 50 [some (.ref (co C)), some (.int a1'), none] [] τ (qV Q)) (hB67 : ∀ a1' a2' τ, B67 a1' a2' τ → wG C 3 m_findOrder 67 [some (.ref (co C)), some (.int a1'), some (.int a2')] [] τ (qV Q)) {a1 : Int32} {a2 : Int32} {s1 : Int32} {s2 : Int32} {s3 : Int32} {σ : rS} (F : w_findOrder_96 C Q B50 B67 a1 a2 s1 s2 s3 σ) : wG C 3 m_findOrder 96 [some (.ref (co C)), some (.int a1), some (.int a2)] [.int s3, .int s2, .int s1, .ref (cad C 97)] σ (qV Q) := by
  unfold w_findOrder_96 at F
  refine s_iadd dX13_findOrder_96 ?_
  refine s_astb hC dX13_findOrder_97 rt_97 F.1 (fun σ1 eσ1 => ?_)
  replace F := F.2 σ1 eσ1
  refine s_incb dX13_findOrder_98 ki_1 rfl (Nat.le_of_ble_eq_true rfl) (fun v2_2 ev2_2 => ?_)
  replace F := F v2_2 ev2_2
  show wG _ _ _ _ [some (.ref (co C)), some (.int a1), some (.int v2_2)] _ _ _
  refine s_goto (t := 67) dX13_findOrder_101 rfl ?_
  exact s_k (hB67 _ _ _ F) ⟨rfl, rfl, rfl, trivial⟩

def w_findOrder_175 (C : rCx) (Q : rS → Prop) (B50 : Int32 → rS → Prop) (a1 : Int32) (a2 : Int32) (σ : rS) : Prop :=
  inb a2 1000 ∧
  ∀ σ1, σ1 = riU σ 98 (a2).toNatClampNeg a1 →
  inb a1 1000 ∧
  ∀ σ2, σ2 = riU σ1 96 (a1).toNatClampNeg (vp_nar .boolean (0 : Int32)) →
  inb (4 : Int32) 30 ∧
  ∀ σ3, σ3 = riU σ2 91 ((4 : Int32)).toNatClampNeg (0 : Int32) →
  cV C 0 m_set [.ref (co C), .int (5 : Int32), .long (1 : Int64)] σ3 (fun σ4 =>
    cV C 0 m_keepVisits [.ref (co C), .int a1] σ4 (fun σ6 =>
      ∀ v1_8 : Int32, v1_8 = a1 + (1 : Int32) →
      B50 v1_8 σ6))
theorem t_findOrder_175 {C : rCx} (hC : cOK C) {Q : rS → Prop} {B50 : Int32 → rS → Prop} (hB50 : ∀ a1' τ, B50 a1' τ → wG C 3 m_findOrder 50 [some (.ref (co C)), some (.int a1'), none] [] τ (qV Q)) {a1 : Int32} {a2 : Int32} {σ : rS} (F : w_findOrder_175 C Q B50 a1 a2 σ) : wG C 3 m_findOrder 175 [some (.ref (co C)), some (.int a1), some (.int a2)] [] σ (qV Q) := by
  unfold w_findOrder_175 at F
  refine s_aln dX13_findOrder_175 rfl ?_
  refine gf_204 dX13_findOrder_176 rfl ?_
  refine s_iln dX13_findOrder_179 rfl ?_
  refine s_iln dX13_findOrder_180 rfl ?_
  refine s_astb hC dX13_findOrder_181 rt_98 F.1 (fun σ1 eσ1 => ?_)
  replace F := F.2 σ1 eσ1
  refine s_aln dX13_findOrder_182 rfl ?_
  refine gf_198 dX13_findOrder_183 rfl ?_
  refine s_iln dX13_findOrder_186 rfl ?_
  refine s_ic dX13_findOrder_187 ki_0 ?_
  refine s_zstb hC dX13_findOrder_188 rt_96 F.1 (fun σ2 eσ2 => ?_)
  replace F := F.2 σ2 eσ2
  refine s_aln dX13_findOrder_189 rfl ?_
  refine gf_188 dX13_findOrder_190 rfl ?_
  refine s_ic dX13_findOrder_193 ki_4 ?_
  refine s_ic dX13_findOrder_194 ki_0 ?_
  refine s_astb hC dX13_findOrder_195 rt_91 F.1 (fun σ3 eσ3 => ?_)
  replace F := F.2 σ3 eσ3
  refine s_aln dX13_findOrder_196 rfl ?_
  refine s_ic dX13_findOrder_197 ki_5 ?_
  refine s_lc dX13_findOrder_198 kl_1 ?_
  refine k_699 dX13_findOrder_199 rfl (Nat.le_of_ble_eq_true rfl) (Nat.le_of_ble_eq_true rfl) F (fun σ4 F => ?_)
  refine s_aln dX13_findOrder_202 rfl ?_
  refine s_iln dX13_findOrder_203 rfl ?_
  refine k_784 dX13_findOrder_204 rfl (Nat.le_of_ble_eq_true rfl) (Nat.le_of_ble_eq_true rfl) F (fun σ6 F => ?_)
  refine s_incb dX13_findOrder_207 ki_1 rfl (Nat.le_of_ble_eq_true rfl) (fun v1_8 ev1_8 => ?_)
  replace F := F v1_8 ev1_8
  show wG _ _ _ _ [some (.ref (co C)), some (.int v1_8), some (.int a2)] _ _ _
  refine s_goto (t := 50) dX13_findOrder_210 rfl ?_
  exact s_k (hB50 _ _ F) ⟨rfl, rfl, trivial⟩

def w_findOrder_129 (C : rCx) (Q : rS → Prop) (B50 : Int32 → rS → Prop) (a1 : Int32) (a2 : Int32) (σ : rS) : Prop :=
  ∃ I : Nat → Int32 → Int32 → rS → Prop, (∃ n, I n a1 a2 σ) ∧ ∀ n a1 a2 σ, I n a1 a2 σ →
    (a2 ≤ 0 →
      w_findOrder_175 C Q B50 a1 a2 σ) ∧
    (¬ (a2 ≤ 0) →
      inb (a2 - (1 : Int32)) 1000 ∧
      inb (σ.2.2.1 98 ((a2 - (1 : Int32))).toNatClampNeg) 1000 ∧
      inb a1 1000 ∧
      ((σ.2.2.1 97 ((σ.2.2.1 98 ((a2 - (1 : Int32))).toNatClampNeg)).toNatClampNeg) ≤ (σ.2.2.1 97 (a1).toNatClampNeg) →
        w_findOrder_175 C Q B50 a1 a2 σ) ∧
      (¬ ((σ.2.2.1 97 ((σ.2.2.1 98 ((a2 - (1 : Int32))).toNatClampNeg)).toNatClampNeg) ≤ (σ.2.2.1 97 (a1).toNatClampNeg)) →
        inb (a2 - (1 : Int32)) 1000 ∧
        inb a2 1000 ∧
        ∀ σ1, σ1 = riU σ 98 (a2).toNatClampNeg (σ.2.2.1 98 ((a2 - (1 : Int32))).toNatClampNeg) →
        ∀ v2_2 : Int32, v2_2 = a2 + (-1 : Int32) →
        ∃ k < n, I k a1 v2_2 σ1))
theorem t_findOrder_129 {C : rCx} (hC : cOK C) {Q : rS → Prop} {B50 : Int32 → rS → Prop} (hB50 : ∀ a1' τ, B50 a1' τ → wG C 3 m_findOrder 50 [some (.ref (co C)), some (.int a1'), none] [] τ (qV Q)) {a1 : Int32} {a2 : Int32} {σ : rS} (F : w_findOrder_129 C Q B50 a1 a2 σ) : wG C 3 m_findOrder 129 [some (.ref (co C)), some (.int a1), some (.int a2)] [] σ (qV Q) := by
  obtain ⟨I, ⟨n0, hI0⟩, F0⟩ := F
  have key : ∀ n a1 a2 σ, I n a1 a2 σ → wG C 3 m_findOrder 129 [some (.ref (co C)), some (.int a1), some (.int a2)] [] σ (qV Q) := by
    intro n
    induction n using Nat.strongRecOn with
    | _ n ih =>
      intro a1 a2 σ hI
      have F := F0 n a1 a2 σ hI
      clear hI hI0
      refine s_iln dX13_findOrder_129 rfl ?_
      refine s_i (t := 175) (a2 ≤ 0) dX13_findOrder_130 rfl rfl (fun hc => ?_) (fun hc => ?_)
      · replace F := F.1 hc
        exact s_k (t_findOrder_175 hC hB50 F) ⟨rfl, rfl, rfl, trivial⟩
      · replace F := F.2 hc
        refine s_aln dX13_findOrder_133 rfl ?_
        refine gf_201 dX13_findOrder_134 rfl ?_
        refine s_aln dX13_findOrder_137 rfl ?_
        refine gf_204 dX13_findOrder_138 rfl ?_
        refine s_iln dX13_findOrder_141 rfl ?_
        refine s_ic dX13_findOrder_142 ki_1 ?_
        refine s_isub dX13_findOrder_143 ?_
        refine s_ald hC dX13_findOrder_144 rt_98 F.1 ?_
        replace F := F.2
        refine s_ald hC dX13_findOrder_145 rt_97 F.1 ?_
        replace F := F.2
        refine s_aln dX13_findOrder_146 rfl ?_
        refine gf_201 dX13_findOrder_147 rfl ?_
        refine s_iln dX13_findOrder_150 rfl ?_
        refine s_ald hC dX13_findOrder_151 rt_97 F.1 ?_
        replace F := F.2
        refine s_ii (t := 175) ((σ.2.2.1 97 ((σ.2.2.1 98 ((a2 - (1 : Int32))).toNatClampNeg)).toNatClampNeg) ≤ (σ.2.2.1 97 (a1).toNatClampNeg)) dX13_findOrder_152 rfl rfl (fun hc => ?_) (fun hc => ?_)
        · replace F := F.1 hc
          exact s_k (t_findOrder_175 hC hB50 F) ⟨rfl, rfl, rfl, trivial⟩
        · replace F := F.2 hc
          refine s_aln dX13_findOrder_155 rfl ?_
          refine gf_204 dX13_findOrder_156 rfl ?_
          refine s_iln dX13_findOrder_159 rfl ?_
          refine s_aln dX13_findOrder_160 rfl ?_
          refine gf_204 dX13_findOrder_161 rfl ?_
          refine s_iln dX13_findOrder_164 rfl ?_
          refine s_ic dX13_findOrder_165 ki_1 ?_
          refine s_isub dX13_findOrder_166 ?_
          refine s_ald hC dX13_findOrder_167 rt_98 F.1 ?_
          replace F := F.2
          refine s_astb hC dX13_findOrder_168 rt_98 F.1 (fun σ1 eσ1 => ?_)
          replace F := F.2 σ1 eσ1
          refine s_incb dX13_findOrder_169 ki_m1 rfl (Nat.le_of_ble_eq_true rfl) (fun v2_2 ev2_2 => ?_)
          replace F := F v2_2 ev2_2
          show wG _ _ _ _ [some (.ref (co C)), some (.int a1), some (.int v2_2)] _ _ _
          refine s_goto (t := 129) dX13_findOrder_172 rfl ?_
          obtain ⟨k, hk, hI⟩ := F
          exact s_k (ih k hk _ _ _ hI) ⟨rfl, rfl, rfl, trivial⟩
  exact key n0 a1 a2 σ hI0

def w_findOrder_125 (C : rCx) (Q : rS → Prop) (B50 : Int32 → rS → Prop) (a1 : Int32) (s1 : Int32) (s2 : Int32) (s3 : Int32) (σ : rS) : Prop :=
  inb s1 1000 ∧
  ∀ σ1, σ1 = riU σ 97 (s1).toNatClampNeg (s2 + s3) →
  w_findOrder_129 C Q B50 a1 a1 σ1
theorem t_findOrder_125 {C : rCx} (hC : cOK C) {Q : rS → Prop} {B50 : Int32 → rS → Prop} (hB50 : ∀ a1' τ, B50 a1' τ → wG C 3 m_findOrder 50 [some (.ref (co C)), some (.int a1'), none] [] τ (qV Q)) {a1 : Int32} {s1 : Int32} {s2 : Int32} {s3 : Int32} {σ : rS} (F : w_findOrder_125 C Q B50 a1 s1 s2 s3 σ) : wG C 3 m_findOrder 125 [some (.ref (co C)), some (.int a1), none] [.int s3, .int s2, .int s1, .ref (cad C 97)] σ (qV Q) := by
  unfold w_findOrder_125 at F
  refine s_iadd dX13_findOrder_125 ?_
  refine s_astb hC dX13_findOrder_126 rt_97 F.1 (fun σ1 eσ1 => ?_)
  replace F := F.2 σ1 eσ1
  refine s_iln dX13_findOrder_127 rfl ?_
  refine s_isn dX13_findOrder_128 (Nat.le_of_ble_eq_true rfl) rfl ?_
  show wG _ _ _ _ [some (.ref (co C)), some (.int a1), some (.int a1)] _ _ _
  exact s_k (t_findOrder_129 hC hB50 F) ⟨rfl, rfl, rfl, trivial⟩

def w_findOrder_67 (C : rCx) (Q : rS → Prop) (B50 : Int32 → rS → Prop) (a1 : Int32) (a2 : Int32) (σ : rS) : Prop :=
  ∃ I : Nat → Int32 → Int32 → rS → Prop, (∃ n, I n a1 a2 σ) ∧ ∀ n a1 a2 σ, I n a1 a2 σ →
    ((σ.1 70) ≤ a2 →
      inb a1 1000 ∧
      cI C 0 m_leads [.ref (co C), .int a1, .int a1] σ (fun r2 σ1 =>
        (r2 = 0 →
          w_findOrder_125 C Q B50 a1 a1 (σ.2.2.1 97 (a1).toNatClampNeg) (1 : Int32) σ1) ∧
        (¬ (r2 = 0) →
          w_findOrder_125 C Q B50 a1 a1 (σ.2.2.1 97 (a1).toNatClampNeg) (0 : Int32) σ1))) ∧
    (¬ ((σ.1 70) ≤ a2) →
      inb a1 1000 ∧
      cI C 0 m_leads [.ref (co C), .int a2, .int a1] σ (fun r4 σ3 =>
        (r4 = 0 →
          w_findOrder_96 C Q B50 (fun a1' a2' τ => ∃ k < n, I k a1' a2' τ) a1 a2 a1 (σ.2.2.1 97 (a1).toNatClampNeg) (0 : Int32) σ3) ∧
        (¬ (r4 = 0) →
          w_findOrder_96 C Q B50 (fun a1' a2' τ => ∃ k < n, I k a1' a2' τ) a1 a2 a1 (σ.2.2.1 97 (a1).toNatClampNeg) (2 : Int32) σ3)))
theorem t_findOrder_67 {C : rCx} (hC : cOK C) {Q : rS → Prop} {B50 : Int32 → rS → Prop} (hB50 : ∀ a1' τ, B50 a1' τ → wG C 3 m_findOrder 50 [some (.ref (co C)), some (.int a1'), none] [] τ (qV Q)) {a1 : Int32} {a2 : Int32} {σ : rS} (F : w_findOrder_67 C Q B50 a1 a2 σ) : wG C 3 m_findOrder 67 [some (.ref (co C)), some (.int a1), some (.int a2)] [] σ (qV Q) := by
  obtain ⟨I, ⟨n0, hI0⟩, F0⟩ := F
  have key : ∀ n a1 a2 σ, I n a1 a2 σ → wG C 3 m_findOrder 67 [some (.ref (co C)), some (.int a1), some (.int a2)] [] σ (qV Q) := by
    intro n
    induction n using Nat.strongRecOn with
    | _ n ih =>
      intro a1 a2 σ hI
      have F := F0 n a1 a2 σ hI
      clear hI hI0
      refine s_iln dX13_findOrder_67 rfl ?_
      refine s_aln dX13_findOrder_68 rfl ?_
      refine gf_542 dX13_findOrder_69 rfl ?_
      refine s_ii (t := 104) ((σ.1 70) ≤ a2) dX13_findOrder_72 rfl rfl (fun hc => ?_) (fun hc => ?_)
      · replace F := F.1 hc
        refine s_aln dX13_findOrder_104 rfl ?_
        refine gf_201 dX13_findOrder_105 rfl ?_
        refine s_iln dX13_findOrder_108 rfl ?_
        refine s_dup2 dX13_findOrder_109 rfl rfl ?_
        refine s_ald hC dX13_findOrder_110 rt_97 F.1 ?_
        replace F := F.2
        refine s_aln dX13_findOrder_111 rfl ?_
        refine s_iln dX13_findOrder_112 rfl ?_
        refine s_iln dX13_findOrder_113 rfl ?_
        refine k_644 dX13_findOrder_114 rfl (Nat.le_of_ble_eq_true rfl) (Nat.le_of_ble_eq_true rfl) F (fun r2 σ1 F => ?_)
        refine s_i (t := 124) (r2 = 0) dX13_findOrder_117 rfl rfl (fun hc => ?_) (fun hc => ?_)
        · replace F := F.1 hc
          refine s_ic dX13_findOrder_124 ki_1 ?_
          exact s_k (t_findOrder_125 hC hB50 F) ⟨rfl, rfl, trivial⟩
        · replace F := F.2 hc
          refine s_ic dX13_findOrder_120 ki_0 ?_
          refine s_goto (t := 125) dX13_findOrder_121 rfl ?_
          exact s_k (t_findOrder_125 hC hB50 F) ⟨rfl, rfl, trivial⟩
      · replace F := F.2 hc
        refine s_aln dX13_findOrder_75 rfl ?_
        refine gf_201 dX13_findOrder_76 rfl ?_
        refine s_iln dX13_findOrder_79 rfl ?_
        refine s_dup2 dX13_findOrder_80 rfl rfl ?_
        refine s_ald hC dX13_findOrder_81 rt_97 F.1 ?_
        replace F := F.2
        refine s_aln dX13_findOrder_82 rfl ?_
        refine s_iln dX13_findOrder_83 rfl ?_
        refine s_iln dX13_findOrder_84 rfl ?_
        refine k_644 dX13_findOrder_85 rfl (Nat.le_of_ble_eq_true rfl) (Nat.le_of_ble_eq_true rfl) F (fun r4 σ3 F => ?_)
        refine s_i (t := 95) (r4 = 0) dX13_findOrder_88 rfl rfl (fun hc => ?_) (fun hc => ?_)
        · replace F := F.1 hc
          refine s_ic dX13_findOrder_95 ki_0 ?_
          exact s_k (t_findOrder_96 hC hB50 (fun a1' a2' τ hb => by obtain ⟨k, hk, hI⟩ := hb; exact ih k hk a1' a2' τ hI) F) ⟨rfl, rfl, rfl, trivial⟩
        · replace F := F.2 hc
          refine s_ic dX13_findOrder_91 ki_2 ?_
          refine s_goto (t := 96) dX13_findOrder_92 rfl ?_
          exact s_k (t_findOrder_96 hC hB50 (fun a1' a2' τ hb => by obtain ⟨k, hk, hI⟩ := hb; exact ih k hk a1' a2' τ hI) F) ⟨rfl, rfl, rfl, trivial⟩
  exact key n0 a1 a2 σ hI0

def w_findOrder_50 (C : rCx) (Q : rS → Prop)  (a1 : Int32) (σ : rS) : Prop :=
  ∃ I : Nat → Int32 → rS → Prop, (∃ n, I n a1 σ) ∧ ∀ n a1 σ, I n a1 σ →
    ((σ.1 70) ≤ a1 →
      Q σ) ∧
    (¬ ((σ.1 70) ≤ a1) →
      inb a1 1000 ∧
      ∀ σ1, σ1 = riU σ 97 (a1).toNatClampNeg (0 : Int32) →
      w_findOrder_67 C Q (fun a1' τ => ∃ k < n, I k a1' τ) a1 (0 : Int32) σ1)
theorem t_findOrder_50 {C : rCx} (hC : cOK C) {Q : rS → Prop}   {a1 : Int32} {σ : rS} (F : w_findOrder_50 C Q  a1 σ) : wG C 3 m_findOrder 50 [some (.ref (co C)), some (.int a1), none] [] σ (qV Q) := by
  obtain ⟨I, ⟨n0, hI0⟩, F0⟩ := F
  have key : ∀ n a1 σ, I n a1 σ → wG C 3 m_findOrder 50 [some (.ref (co C)), some (.int a1), none] [] σ (qV Q) := by
    intro n
    induction n using Nat.strongRecOn with
    | _ n ih =>
      intro a1 σ hI
      have F := F0 n a1 σ hI
      clear hI hI0
      refine s_iln dX13_findOrder_50 rfl ?_
      refine s_aln dX13_findOrder_51 rfl ?_
      refine gf_542 dX13_findOrder_52 rfl ?_
      refine s_ii (t := 213) ((σ.1 70) ≤ a1) dX13_findOrder_55 rfl rfl (fun hc => ?_) (fun hc => ?_)
      · replace F := F.1 hc
        exact s_rv dX13_findOrder_213 rfl F
      · replace F := F.2 hc
        refine s_aln dX13_findOrder_58 rfl ?_
        refine gf_201 dX13_findOrder_59 rfl ?_
        refine s_iln dX13_findOrder_62 rfl ?_
        refine s_ic dX13_findOrder_63 ki_0 ?_
        refine s_astb hC dX13_findOrder_64 rt_97 F.1 (fun σ1 eσ1 => ?_)
        replace F := F.2 σ1 eσ1
        refine s_ic dX13_findOrder_65 ki_0 ?_
        refine s_isn dX13_findOrder_66 (Nat.le_of_ble_eq_true rfl) rfl ?_
        show wG _ _ _ _ [some (.ref (co C)), some (.int a1), some (.int (0 : Int32))] _ _ _
        exact s_k (t_findOrder_67 hC (fun a1' τ hb => by obtain ⟨k, hk, hI⟩ := hb; exact ih k hk a1' τ hI) F) ⟨rfl, rfl, rfl, trivial⟩
  exact key n0 a1 σ hI0

def w_findOrder_12 (C : rCx) (Q : rS → Prop)  (a1 : Int32) (σ : rS) : Prop :=
  ∃ I : Nat → Int32 → rS → Prop, (∃ n, I n a1 σ) ∧ ∀ n a1 σ, I n a1 σ →
    ((σ.1 70) ≤ a1 →
      cV C 1 m_findReach [.ref (co C), .int (1 : Int32), .ref (cad C 95), .int (0 : Int32)] σ (fun σ1 =>
        w_findOrder_50 C Q  (0 : Int32) σ1)) ∧
    (¬ ((σ.1 70) ≤ a1) →
      cI C 2 m_canEnd [.ref (co C), .int a1, .int (1 : Int32)] σ (fun r4 σ3 =>
        inb a1 1000 ∧
        ∀ σ5, σ5 = riU σ3 95 (a1).toNatClampNeg (vp_nar .boolean r4) →
        ∀ v1_6 : Int32, v1_6 = a1 + (1 : Int32) →
        ∃ k < n, I k v1_6 σ5))
theorem t_findOrder_12 {C : rCx} (hC : cOK C) {Q : rS → Prop}   {a1 : Int32} {σ : rS} (F : w_findOrder_12 C Q  a1 σ) : wG C 3 m_findOrder 12 [some (.ref (co C)), some (.int a1), none] [] σ (qV Q) := by
  obtain ⟨I, ⟨n0, hI0⟩, F0⟩ := F
  have key : ∀ n a1 σ, I n a1 σ → wG C 3 m_findOrder 12 [some (.ref (co C)), some (.int a1), none] [] σ (qV Q) := by
    intro n
    induction n using Nat.strongRecOn with
    | _ n ih =>
      intro a1 σ hI
      have F := F0 n a1 σ hI
      clear hI hI0
      refine s_iln dX13_findOrder_12 rfl ?_
      refine s_aln dX13_findOrder_13 rfl ?_
      refine gf_542 dX13_findOrder_14 rfl ?_
      refine s_ii (t := 38) ((σ.1 70) ≤ a1) dX13_findOrder_17 rfl rfl (fun hc => ?_) (fun hc => ?_)
      · replace F := F.1 hc
        refine s_aln dX13_findOrder_38 rfl ?_
        refine s_ic dX13_findOrder_39 ki_1 ?_
        refine s_aln dX13_findOrder_40 rfl ?_
        refine gf_195 dX13_findOrder_41 rfl ?_
        refine s_ic dX13_findOrder_44 ki_0 ?_
        refine k_654 dX13_findOrder_45 rfl (Nat.le_of_ble_eq_true rfl) (Nat.le_of_ble_eq_true rfl) F (fun σ1 F => ?_)
        refine s_ic dX13_findOrder_48 ki_0 ?_
        refine s_isn dX13_findOrder_49 (Nat.le_of_ble_eq_true rfl) rfl ?_
        show wG _ _ _ _ [some (.ref (co C)), some (.int (0 : Int32)), none] _ _ _
        exact s_k (t_findOrder_50 hC  F) ⟨rfl, rfl, trivial⟩
      · replace F := F.2 hc
        refine s_aln dX13_findOrder_20 rfl ?_
        refine gf_195 dX13_findOrder_21 rfl ?_
        refine s_iln dX13_findOrder_24 rfl ?_
        refine s_aln dX13_findOrder_25 rfl ?_
        refine s_iln dX13_findOrder_26 rfl ?_
        refine s_ic dX13_findOrder_27 ki_1 ?_
        refine k_664 dX13_findOrder_28 rfl (Nat.le_of_ble_eq_true rfl) (Nat.le_of_ble_eq_true rfl) F (fun r4 σ3 F => ?_)
        refine s_zstb hC dX13_findOrder_31 rt_95 F.1 (fun σ5 eσ5 => ?_)
        replace F := F.2 σ5 eσ5
        refine s_incb dX13_findOrder_32 ki_1 rfl (Nat.le_of_ble_eq_true rfl) (fun v1_6 ev1_6 => ?_)
        replace F := F v1_6 ev1_6
        show wG _ _ _ _ [some (.ref (co C)), some (.int v1_6), none] _ _ _
        refine s_goto (t := 12) dX13_findOrder_35 rfl ?_
        obtain ⟨k, hk, hI⟩ := F
        exact s_k (ih k hk _ _ hI) ⟨rfl, rfl, trivial⟩
  exact key n0 a1 σ hI0

def w_findOrder_0 (C : rCx) (Q : rS → Prop)   (σ : rS) : Prop :=
  cV C 1 m_findReach [.ref (co C), .int (1 : Int32), .ref (cad C 95), .int (1 : Int32)] σ (fun σ1 =>
    w_findOrder_12 C Q  (0 : Int32) σ1)
theorem t_findOrder_0 {C : rCx} (hC : cOK C) {Q : rS → Prop}    {σ : rS} (F : w_findOrder_0 C Q   σ) : wG C 3 m_findOrder 0 [some (.ref (co C)), none, none] [] σ (qV Q) := by
  unfold w_findOrder_0 at F
  refine s_aln dX13_findOrder_0 rfl ?_
  refine s_ic dX13_findOrder_1 ki_1 ?_
  refine s_aln dX13_findOrder_2 rfl ?_
  refine gf_195 dX13_findOrder_3 rfl ?_
  refine s_ic dX13_findOrder_6 ki_1 ?_
  refine k_654 dX13_findOrder_7 rfl (Nat.le_of_ble_eq_true rfl) (Nat.le_of_ble_eq_true rfl) F (fun σ1 F => ?_)
  refine s_ic dX13_findOrder_10 ki_0 ?_
  refine s_isn dX13_findOrder_11 (Nat.le_of_ble_eq_true rfl) rfl ?_
  show wG _ _ _ _ [some (.ref (co C)), some (.int (0 : Int32)), none] _ _ _
  exact s_k (t_findOrder_12 hC  F) ⟨rfl, rfl, trivial⟩

theorem m_findOrder_run {C : rCx} (hC : cOK C) {Q : rS → Prop}  {σ : rS} (F : w_findOrder_0 C Q  σ) : cV C 3 m_findOrder [.ref (co C)] σ Q := m_V (m_ent _ 2) (t_findOrder_0 hC F)

theorem dX13_solve_0 : decode cX13_solve 0 = .ok (.aload_n 0, 1) := by decide +kernel
theorem dX13_solve_1 : decode cX13_solve 1 = .ok (.aload_n 0, 1) := by decide +kernel
theorem dX13_solve_2 : decode cX13_solve 2 = .ok (.getfield 533, 3) := by decide +kernel
theorem dX13_solve_5 : decode cX13_solve 5 = .ok (.ifCond .eq 7, 3) := by decide +kernel
theorem dX13_solve_8 : decode cX13_solve 8 = .ok (.iconst 0, 1) := by decide +kernel
theorem dX13_solve_9 : decode cX13_solve 9 = .ok (.goto 4, 3) := by decide +kernel
theorem dX13_solve_12 : decode cX13_solve 12 = .ok (.iconst 1, 1) := by decide +kernel
theorem dX13_solve_13 : decode cX13_solve 13 = .ok (.putfield 1, 3) := by decide +kernel
theorem dX13_solve_16 : decode cX13_solve 16 = .ok (.aload_n 0, 1) := by decide +kernel
theorem dX13_solve_17 : decode cX13_solve 17 = .ok (.getfield 1, 3) := by decide +kernel
theorem dX13_solve_20 : decode cX13_solve 20 = .ok (.ifCond .le 5, 3) := by decide +kernel
theorem dX13_solve_23 : decode cX13_solve 23 = .ok (.iconst 0, 1) := by decide +kernel
theorem dX13_solve_24 : decode cX13_solve 24 = .ok (.ireturn, 1) := by decide +kernel
theorem dX13_solve_25 : decode cX13_solve 25 = .ok (.aload_n 0, 1) := by decide +kernel
theorem dX13_solve_26 : decode cX13_solve 26 = .ok (.iconst 0, 1) := by decide +kernel
theorem dX13_solve_27 : decode cX13_solve 27 = .ok (.putfield 536, 3) := by decide +kernel
theorem dX13_solve_30 : decode cX13_solve 30 = .ok (.aload_n 0, 1) := by decide +kernel
theorem dX13_solve_31 : decode cX13_solve 31 = .ok (.invokevirtual 787, 3) := by decide +kernel
theorem dX13_solve_34 : decode cX13_solve 34 = .ok (.iconst 0, 1) := by decide +kernel
theorem dX13_solve_35 : decode cX13_solve 35 = .ok (.istore_n 1, 1) := by decide +kernel
theorem dX13_solve_36 : decode cX13_solve 36 = .ok (.iload_n 1, 1) := by decide +kernel
theorem dX13_solve_37 : decode cX13_solve 37 = .ok (.aload_n 0, 1) := by decide +kernel
theorem dX13_solve_38 : decode cX13_solve 38 = .ok (.getfield 542, 3) := by decide +kernel
theorem dX13_solve_41 : decode cX13_solve 41 = .ok (.if_icmp .ge 31, 3) := by decide +kernel
theorem dX13_solve_44 : decode cX13_solve 44 = .ok (.aload_n 0, 1) := by decide +kernel
theorem dX13_solve_45 : decode cX13_solve 45 = .ok (.getfield 195, 3) := by decide +kernel
theorem dX13_solve_48 : decode cX13_solve 48 = .ok (.iload_n 1, 1) := by decide +kernel
theorem dX13_solve_49 : decode cX13_solve 49 = .ok (.baload, 1) := by decide +kernel
theorem dX13_solve_50 : decode cX13_solve 50 = .ok (.ifCond .eq 16, 3) := by decide +kernel
theorem dX13_solve_53 : decode cX13_solve 53 = .ok (.aload_n 0, 1) := by decide +kernel
theorem dX13_solve_54 : decode cX13_solve 54 = .ok (.iload_n 1, 1) := by decide +kernel
theorem dX13_solve_55 : decode cX13_solve 55 = .ok (.invokevirtual 667, 3) := by decide +kernel
theorem dX13_solve_58 : decode cX13_solve 58 = .ok (.bipush 32, 2) := by decide +kernel
theorem dX13_solve_60 : decode cX13_solve 60 = .ok (.if_icmp .le 6, 3) := by decide +kernel
theorem dX13_solve_63 : decode cX13_solve 63 = .ok (.bipush (-2), 2) := by decide +kernel
theorem dX13_solve_65 : decode cX13_solve 65 = .ok (.ireturn, 1) := by decide +kernel
theorem dX13_solve_66 : decode cX13_solve 66 = .ok (.iinc 1 1, 3) := by decide +kernel
theorem dX13_solve_69 : decode cX13_solve 69 = .ok (.goto (-33), 3) := by decide +kernel
theorem dX13_solve_72 : decode cX13_solve 72 = .ok (.iconst 0, 1) := by decide +kernel
theorem dX13_solve_73 : decode cX13_solve 73 = .ok (.istore_n 1, 1) := by decide +kernel
theorem dX13_solve_74 : decode cX13_solve 74 = .ok (.iload_n 1, 1) := by decide +kernel
theorem dX13_solve_75 : decode cX13_solve 75 = .ok (.aload_n 0, 1) := by decide +kernel
theorem dX13_solve_76 : decode cX13_solve 76 = .ok (.getfield 542, 3) := by decide +kernel
theorem dX13_solve_79 : decode cX13_solve 79 = .ok (.if_icmp .ge 157, 3) := by decide +kernel
theorem dX13_solve_82 : decode cX13_solve 82 = .ok (.aload_n 0, 1) := by decide +kernel
theorem dX13_solve_83 : decode cX13_solve 83 = .ok (.getfield 204, 3) := by decide +kernel
theorem dX13_solve_86 : decode cX13_solve 86 = .ok (.iload_n 1, 1) := by decide +kernel
theorem dX13_solve_87 : decode cX13_solve 87 = .ok (.iaload, 1) := by decide +kernel
theorem dX13_solve_88 : decode cX13_solve 88 = .ok (.istore_n 2, 1) := by decide +kernel
theorem dX13_solve_89 : decode cX13_solve 89 = .ok (.aload_n 0, 1) := by decide +kernel
theorem dX13_solve_90 : decode cX13_solve 90 = .ok (.getfield 195, 3) := by decide +kernel
theorem dX13_solve_93 : decode cX13_solve 93 = .ok (.iload_n 2, 1) := by decide +kernel
theorem dX13_solve_94 : decode cX13_solve 94 = .ok (.baload, 1) := by decide +kernel
theorem dX13_solve_95 : decode cX13_solve 95 = .ok (.ifCond .eq 135, 3) := by decide +kernel
theorem dX13_solve_98 : decode cX13_solve 98 = .ok (.aload_n 0, 1) := by decide +kernel
theorem dX13_solve_99 : decode cX13_solve 99 = .ok (.getfield 198, 3) := by decide +kernel
theorem dX13_solve_102 : decode cX13_solve 102 = .ok (.iload_n 2, 1) := by decide +kernel
theorem dX13_solve_103 : decode cX13_solve 103 = .ok (.baload, 1) := by decide +kernel
theorem dX13_solve_104 : decode cX13_solve 104 = .ok (.ifCond .ne 126, 3) := by decide +kernel
theorem dX13_solve_107 : decode cX13_solve 107 = .ok (.aload_n 0, 1) := by decide +kernel
theorem dX13_solve_108 : decode cX13_solve 108 = .ok (.iconst 0, 1) := by decide +kernel
theorem dX13_solve_109 : decode cX13_solve 109 = .ok (.putfield 755, 3) := by decide +kernel
theorem dX13_solve_112 : decode cX13_solve 112 = .ok (.iconst 0, 1) := by decide +kernel
theorem dX13_solve_113 : decode cX13_solve 113 = .ok (.istore_n 3, 1) := by decide +kernel
theorem dX13_solve_114 : decode cX13_solve 114 = .ok (.iload_n 3, 1) := by decide +kernel
theorem dX13_solve_115 : decode cX13_solve 115 = .ok (.aload_n 0, 1) := by decide +kernel
theorem dX13_solve_116 : decode cX13_solve 116 = .ok (.getfield 542, 3) := by decide +kernel
theorem dX13_solve_119 : decode cX13_solve 119 = .ok (.if_icmp .ge 43, 3) := by decide +kernel
theorem dX13_solve_122 : decode cX13_solve 122 = .ok (.iload_n 3, 1) := by decide +kernel
theorem dX13_solve_123 : decode cX13_solve 123 = .ok (.iload_n 2, 1) := by decide +kernel
theorem dX13_solve_124 : decode cX13_solve 124 = .ok (.if_icmp .eq 12, 3) := by decide +kernel
theorem dX13_solve_127 : decode cX13_solve 127 = .ok (.aload_n 0, 1) := by decide +kernel
theorem dX13_solve_128 : decode cX13_solve 128 = .ok (.iload_n 2, 1) := by decide +kernel
theorem dX13_solve_129 : decode cX13_solve 129 = .ok (.iload_n 3, 1) := by decide +kernel
theorem dX13_solve_130 : decode cX13_solve 130 = .ok (.invokevirtual 651, 3) := by decide +kernel
theorem dX13_solve_133 : decode cX13_solve 133 = .ok (.ifCond .eq 23, 3) := by decide +kernel
theorem dX13_solve_136 : decode cX13_solve 136 = .ok (.aload_n 0, 1) := by decide +kernel
theorem dX13_solve_137 : decode cX13_solve 137 = .ok (.getfield 207, 3) := by decide +kernel
theorem dX13_solve_140 : decode cX13_solve 140 = .ok (.aload_n 0, 1) := by decide +kernel
theorem dX13_solve_141 : decode cX13_solve 141 = .ok (.getfield 755, 3) := by decide +kernel
theorem dX13_solve_144 : decode cX13_solve 144 = .ok (.iload_n 3, 1) := by decide +kernel
theorem dX13_solve_145 : decode cX13_solve 145 = .ok (.iastore, 1) := by decide +kernel
theorem dX13_solve_146 : decode cX13_solve 146 = .ok (.aload_n 0, 1) := by decide +kernel
theorem dX13_solve_147 : decode cX13_solve 147 = .ok (.dup, 1) := by decide +kernel
theorem dX13_solve_148 : decode cX13_solve 148 = .ok (.getfield 755, 3) := by decide +kernel
theorem dX13_solve_151 : decode cX13_solve 151 = .ok (.iconst 1, 1) := by decide +kernel
theorem dX13_solve_152 : decode cX13_solve 152 = .ok (.iadd, 1) := by decide +kernel
theorem dX13_solve_153 : decode cX13_solve 153 = .ok (.putfield 755, 3) := by decide +kernel
theorem dX13_solve_156 : decode cX13_solve 156 = .ok (.iinc 3 1, 3) := by decide +kernel
theorem dX13_solve_159 : decode cX13_solve 159 = .ok (.goto (-45), 3) := by decide +kernel
theorem dX13_solve_162 : decode cX13_solve 162 = .ok (.aload_n 0, 1) := by decide +kernel
theorem dX13_solve_163 : decode cX13_solve 163 = .ok (.iload_n 2, 1) := by decide +kernel
theorem dX13_solve_164 : decode cX13_solve 164 = .ok (.iload_n 2, 1) := by decide +kernel
theorem dX13_solve_165 : decode cX13_solve 165 = .ok (.invokevirtual 644, 3) := by decide +kernel
theorem dX13_solve_168 : decode cX13_solve 168 = .ok (.ifCond .eq 11, 3) := by decide +kernel
theorem dX13_solve_171 : decode cX13_solve 171 = .ok (.aload_n 0, 1) := by decide +kernel
theorem dX13_solve_172 : decode cX13_solve 172 = .ok (.invokevirtual 790, 3) := by decide +kernel
theorem dX13_solve_175 : decode cX13_solve 175 = .ok (.istore_n 3, 1) := by decide +kernel
theorem dX13_solve_176 : decode cX13_solve 176 = .ok (.goto 47, 3) := by decide +kernel
theorem dX13_solve_179 : decode cX13_solve 179 = .ok (.aload_n 0, 1) := by decide +kernel
theorem dX13_solve_180 : decode cX13_solve 180 = .ok (.invokevirtual 762, 3) := by decide +kernel
theorem dX13_solve_183 : decode cX13_solve 183 = .ok (.aload_n 0, 1) := by decide +kernel
theorem dX13_solve_184 : decode cX13_solve 184 = .ok (.iload_n 2, 1) := by decide +kernel
theorem dX13_solve_185 : decode cX13_solve 185 = .ok (.iconst (-1), 1) := by decide +kernel
theorem dX13_solve_186 : decode cX13_solve 186 = .ok (.invokevirtual 778, 3) := by decide +kernel
theorem dX13_solve_189 : decode cX13_solve 189 = .ok (.aload_n 0, 1) := by decide +kernel
theorem dX13_solve_190 : decode cX13_solve 190 = .ok (.iconst 4, 1) := by decide +kernel
theorem dX13_solve_191 : decode cX13_solve 191 = .ok (.invokevirtual 781, 3) := by decide +kernel
theorem dX13_solve_194 : decode cX13_solve 194 = .ok (.ifCond .ne 15, 3) := by decide +kernel
theorem dX13_solve_197 : decode cX13_solve 197 = .ok (.aload_n 0, 1) := by decide +kernel
theorem dX13_solve_198 : decode cX13_solve 198 = .ok (.iconst 5, 1) := by decide +kernel
theorem dX13_solve_199 : decode cX13_solve 199 = .ok (.invokevirtual 781, 3) := by decide +kernel
theorem dX13_solve_202 : decode cX13_solve 202 = .ok (.ifCond .ne 7, 3) := by decide +kernel
theorem dX13_solve_205 : decode cX13_solve 205 = .ok (.iconst 1, 1) := by decide +kernel
theorem dX13_solve_206 : decode cX13_solve 206 = .ok (.goto 4, 3) := by decide +kernel
theorem dX13_solve_209 : decode cX13_solve 209 = .ok (.iconst 0, 1) := by decide +kernel
theorem dX13_solve_210 : decode cX13_solve 210 = .ok (.istore_n 3, 1) := by decide +kernel
theorem dX13_solve_211 : decode cX13_solve 211 = .ok (.aload_n 0, 1) := by decide +kernel
theorem dX13_solve_212 : decode cX13_solve 212 = .ok (.iload_n 2, 1) := by decide +kernel
theorem dX13_solve_213 : decode cX13_solve 213 = .ok (.invokevirtual 784, 3) := by decide +kernel
theorem dX13_solve_216 : decode cX13_solve 216 = .ok (.aload_n 0, 1) := by decide +kernel
theorem dX13_solve_217 : decode cX13_solve 217 = .ok (.getfield 198, 3) := by decide +kernel
theorem dX13_solve_220 : decode cX13_solve 220 = .ok (.iload_n 2, 1) := by decide +kernel
theorem dX13_solve_221 : decode cX13_solve 221 = .ok (.iconst 1, 1) := by decide +kernel
theorem dX13_solve_222 : decode cX13_solve 222 = .ok (.bastore, 1) := by decide +kernel
theorem dX13_solve_223 : decode cX13_solve 223 = .ok (.iload_n 3, 1) := by decide +kernel
theorem dX13_solve_224 : decode cX13_solve 224 = .ok (.ifCond .ne 6, 3) := by decide +kernel
theorem dX13_solve_227 : decode cX13_solve 227 = .ok (.bipush (-3), 2) := by decide +kernel
theorem dX13_solve_229 : decode cX13_solve 229 = .ok (.ireturn, 1) := by decide +kernel
theorem dX13_solve_230 : decode cX13_solve 230 = .ok (.iinc 1 1, 3) := by decide +kernel
theorem dX13_solve_233 : decode cX13_solve 233 = .ok (.goto (-159), 3) := by decide +kernel
theorem dX13_solve_236 : decode cX13_solve 236 = .ok (.aload_n 0, 1) := by decide +kernel
theorem dX13_solve_237 : decode cX13_solve 237 = .ok (.iconst 1, 1) := by decide +kernel
theorem dX13_solve_238 : decode cX13_solve 238 = .ok (.putfield 536, 3) := by decide +kernel
theorem dX13_solve_241 : decode cX13_solve 241 = .ok (.iconst 0, 1) := by decide +kernel
theorem dX13_solve_242 : decode cX13_solve 242 = .ok (.ireturn, 1) := by decide +kernel
def w_solve_136 (C : rCx) (Q : Int32 → rS → Prop) (B74 : Int32 → rS → Prop) (B114 : Int32 → Int32 → Int32 → rS → Prop) (a1 : Int32) (a2 : Int32) (a3 : Int32) (σ : rS) : Prop :=
  inb (σ.1 100) 1000 ∧
  ∀ σ1, σ1 = riU σ 99 ((σ.1 100)).toNatClampNeg a3 →
  ∀ σ2, σ2 = siU σ1 100 ((σ1.1 100) + (1 : Int32)) →
  ∀ v3_3 : Int32, v3_3 = a3 + (1 : Int32) →
  B114 a1 a2 v3_3 σ2
theorem t_solve_136 {C : rCx} (hC : cOK C) {Q : Int32 → rS → Prop} {B74 : Int32 → rS → Prop} {B114 : Int32 → Int32 → Int32 → rS → Prop} (hB74 : ∀ a1' τ, B74 a1' τ → wG C 8 m_solve 74 [some (.ref (co C)), some (.int a1'), none, none] [] τ (qI Q)) (hB114 : ∀ a1' a2' a3' τ, B114 a1' a2' a3' τ → wG C 8 m_solve 114 [some (.ref (co C)), some (.int a1'), some (.int a2'), some (.int a3')] [] τ (qI Q)) {a1 : Int32} {a2 : Int32} {a3 : Int32} {σ : rS} (F : w_solve_136 C Q B74 B114 a1 a2 a3 σ) : wG C 8 m_solve 136 [some (.ref (co C)), some (.int a1), some (.int a2), some (.int a3)] [] σ (qI Q) := by
  unfold w_solve_136 at F
  refine s_aln dX13_solve_136 rfl ?_
  refine gf_207 dX13_solve_137 rfl ?_
  refine s_aln dX13_solve_140 rfl ?_
  refine gf_755 dX13_solve_141 rfl ?_
  refine s_iln dX13_solve_144 rfl ?_
  refine s_astb hC dX13_solve_145 rt_99 F.1 (fun σ1 eσ1 => ?_)
  replace F := F.2 σ1 eσ1
  refine s_aln dX13_solve_146 rfl ?_
  refine s_dup dX13_solve_147 rfl ?_
  refine gf_755 dX13_solve_148 rfl ?_
  refine s_ic dX13_solve_151 ki_1 ?_
  refine s_iadd dX13_solve_152 ?_
  refine pf_755 hC dX13_solve_153 rfl (fun σ2 eσ2 => ?_)
  replace F := F σ2 eσ2
  refine s_incb dX13_solve_156 ki_1 rfl (Nat.le_of_ble_eq_true rfl) (fun v3_3 ev3_3 => ?_)
  replace F := F v3_3 ev3_3
  show wG _ _ _ _ [some (.ref (co C)), some (.int a1), some (.int a2), some (.int v3_3)] _ _ _
  refine s_goto (t := 114) dX13_solve_159 rfl ?_
  exact s_k (hB114 _ _ _ _ F) ⟨rfl, rfl, rfl, rfl, trivial⟩

def w_solve_223 (C : rCx) (Q : Int32 → rS → Prop) (B74 : Int32 → rS → Prop) (a1 : Int32) (a3 : Int32) (σ : rS) : Prop :=
  (¬ (a3 = 0) →
    ∀ v1_1 : Int32, v1_1 = a1 + (1 : Int32) →
    B74 v1_1 σ) ∧
  (a3 = 0 →
    Q (-3 : Int32) σ)
theorem t_solve_223 {C : rCx} (hC : cOK C) {Q : Int32 → rS → Prop} {B74 : Int32 → rS → Prop} (hB74 : ∀ a1' τ, B74 a1' τ → wG C 8 m_solve 74 [some (.ref (co C)), some (.int a1'), none, none] [] τ (qI Q)) {a1 : Int32} {a3 : Int32} {σ : rS} (F : w_solve_223 C Q B74 a1 a3 σ) : wG C 8 m_solve 223 [some (.ref (co C)), some (.int a1), none, some (.int a3)] [] σ (qI Q) := by
  unfold w_solve_223 at F
  refine s_iln dX13_solve_223 rfl ?_
  refine s_in (t := 230) (a3 = 0) dX13_solve_224 rfl rfl (fun hc => ?_) (fun hc => ?_)
  · replace F := F.1 hc
    refine s_incb dX13_solve_230 ki_1 rfl (Nat.le_of_ble_eq_true rfl) (fun v1_1 ev1_1 => ?_)
    replace F := F v1_1 ev1_1
    show wG _ _ _ _ [some (.ref (co C)), some (.int v1_1), none, some (.int a3)] _ _ _
    refine s_goto (t := 74) dX13_solve_233 rfl ?_
    exact s_k (hB74 _ _ F) ⟨rfl, rfl, trivial⟩
  · replace F := F.2 hc
    refine s_bi dX13_solve_227 kb_m3 ?_
    exact s_ri dX13_solve_229 rfl in_nar F

def w_solve_210 (C : rCx) (Q : Int32 → rS → Prop) (B74 : Int32 → rS → Prop) (a1 : Int32) (a2 : Int32) (s0 : Int32) (σ : rS) : Prop :=
  cV C 0 m_keepVisits [.ref (co C), .int a2] σ (fun σ1 =>
    inb a2 1000 ∧
    ∀ σ3, σ3 = riU σ1 96 (a2).toNatClampNeg (vp_nar .boolean (1 : Int32)) →
    w_solve_223 C Q B74 a1 s0 σ3)
theorem t_solve_210 {C : rCx} (hC : cOK C) {Q : Int32 → rS → Prop} {B74 : Int32 → rS → Prop} (hB74 : ∀ a1' τ, B74 a1' τ → wG C 8 m_solve 74 [some (.ref (co C)), some (.int a1'), none, none] [] τ (qI Q)) {a1 : Int32} {a2 : Int32} {s0 : Int32} {σ : rS} (F : w_solve_210 C Q B74 a1 a2 s0 σ) : wG C 8 m_solve 210 [some (.ref (co C)), some (.int a1), some (.int a2), none] [.int s0] σ (qI Q) := by
  unfold w_solve_210 at F
  refine s_isn dX13_solve_210 (Nat.le_of_ble_eq_true rfl) rfl ?_
  show wG _ _ _ _ [some (.ref (co C)), some (.int a1), some (.int a2), some (.int s0)] _ _ _
  refine s_aln dX13_solve_211 rfl ?_
  refine s_iln dX13_solve_212 rfl ?_
  refine k_784 dX13_solve_213 rfl (Nat.le_of_ble_eq_true rfl) (Nat.le_of_ble_eq_true rfl) F (fun σ1 F => ?_)
  refine s_aln dX13_solve_216 rfl ?_
  refine gf_198 dX13_solve_217 rfl ?_
  refine s_iln dX13_solve_220 rfl ?_
  refine s_ic dX13_solve_221 ki_1 ?_
  refine s_zstb hC dX13_solve_222 rt_96 F.1 (fun σ3 eσ3 => ?_)
  replace F := F.2 σ3 eσ3
  exact s_k (t_solve_223 hC hB74 F) ⟨rfl, rfl, rfl, trivial⟩

def w_solve_114 (C : rCx) (Q : Int32 → rS → Prop) (B74 : Int32 → rS → Prop) (a1 : Int32) (a2 : Int32) (a3 : Int32) (σ : rS) : Prop :=
  ∃ I : Nat → Int32 → Int32 → Int32 → rS → Prop, (∃ n, I n a1 a2 a3 σ) ∧ ∀ n a1 a2 a3 σ, I n a1 a2 a3 σ →
    ((σ.1 70) ≤ a3 →
      cI C 0 m_leads [.ref (co C), .int a2, .int a2] σ (fun r2 σ1 =>
        (r2 = 0 →
          cV C 1 m_clearSum [.ref (co C)] σ1 (fun σ3 =>
            cV C 5 m_sumInflow [.ref (co C), .int a2, .int (-1 : Int32)] σ3 (fun σ5 =>
              cI C 0 m_isLong [.ref (co C), .int (4 : Int32)] σ5 (fun r8 σ7 =>
                (¬ (r8 = 0) →
                  w_solve_210 C Q B74 a1 a2 (0 : Int32) σ7) ∧
                (r8 = 0 →
                  cI C 0 m_isLong [.ref (co C), .int (5 : Int32)] σ7 (fun r10 σ9 =>
                    (¬ (r10 = 0) →
                      w_solve_210 C Q B74 a1 a2 (0 : Int32) σ9) ∧
                    (r10 = 0 →
                      w_solve_210 C Q B74 a1 a2 (1 : Int32) σ9))))))) ∧
        (¬ (r2 = 0) →
          cI C 7 m_solveRing [.ref (co C)] σ1 (fun r12 σ11 =>
            w_solve_223 C Q B74 a1 r12 σ11)))) ∧
    (¬ ((σ.1 70) ≤ a3) →
      (a3 = a2 →
        w_solve_136 C Q B74 (fun a1' a2' a3' τ => ∃ k < n, I k a1' a2' a3' τ) a1 a2 a3 σ) ∧
      (¬ (a3 = a2) →
        cI C 1 m_isRingWith [.ref (co C), .int a2, .int a3] σ (fun r14 σ13 =>
          (r14 = 0 →
            ∀ v3_15 : Int32, v3_15 = a3 + (1 : Int32) →
            ∃ k < n, I k a1 a2 v3_15 σ13) ∧
          (¬ (r14 = 0) →
            w_solve_136 C Q B74 (fun a1' a2' a3' τ => ∃ k < n, I k a1' a2' a3' τ) a1 a2 a3 σ13))))
theorem t_solve_114 {C : rCx} (hC : cOK C) {Q : Int32 → rS → Prop} {B74 : Int32 → rS → Prop} (hB74 : ∀ a1' τ, B74 a1' τ → wG C 8 m_solve 74 [some (.ref (co C)), some (.int a1'), none, none] [] τ (qI Q)) {a1 : Int32} {a2 : Int32} {a3 : Int32} {σ : rS} (F : w_solve_114 C Q B74 a1 a2 a3 σ) : wG C 8 m_solve 114 [some (.ref (co C)), some (.int a1), some (.int a2), some (.int a3)] [] σ (qI Q) := by
  obtain ⟨I, ⟨n0, hI0⟩, F0⟩ := F
  have key : ∀ n a1 a2 a3 σ, I n a1 a2 a3 σ → wG C 8 m_solve 114 [some (.ref (co C)), some (.int a1), some (.int a2), some (.int a3)] [] σ (qI Q) := by
    intro n
    induction n using Nat.strongRecOn with
    | _ n ih =>
      intro a1 a2 a3 σ hI
      have F := F0 n a1 a2 a3 σ hI
      clear hI hI0
      refine s_iln dX13_solve_114 rfl ?_
      refine s_aln dX13_solve_115 rfl ?_
      refine gf_542 dX13_solve_116 rfl ?_
      refine s_ii (t := 162) ((σ.1 70) ≤ a3) dX13_solve_119 rfl rfl (fun hc => ?_) (fun hc => ?_)
      · replace F := F.1 hc
        refine s_aln dX13_solve_162 rfl ?_
        refine s_iln dX13_solve_163 rfl ?_
        refine s_iln dX13_solve_164 rfl ?_
        refine k_644 dX13_solve_165 rfl (Nat.le_of_ble_eq_true rfl) (Nat.le_of_ble_eq_true rfl) F (fun r2 σ1 F => ?_)
        refine s_i (t := 179) (r2 = 0) dX13_solve_168 rfl rfl (fun hc => ?_) (fun hc => ?_)
        · replace F := F.1 hc
          refine s_aln dX13_solve_179 rfl ?_
          refine k_762 dX13_solve_180 rfl (Nat.le_of_ble_eq_true rfl) (Nat.le_of_ble_eq_true rfl) F (fun σ3 F => ?_)
          refine s_aln dX13_solve_183 rfl ?_
          refine s_iln dX13_solve_184 rfl ?_
          refine s_ic dX13_solve_185 ki_m1 ?_
          refine k_778 dX13_solve_186 rfl (Nat.le_of_ble_eq_true rfl) (Nat.le_of_ble_eq_true rfl) F (fun σ5 F => ?_)
          refine s_aln dX13_solve_189 rfl ?_
          refine s_ic dX13_solve_190 ki_4 ?_
          refine k_781 dX13_solve_191 rfl (Nat.le_of_ble_eq_true rfl) (Nat.le_of_ble_eq_true rfl) F (fun r8 σ7 F => ?_)
          refine s_in (t := 209) (r8 = 0) dX13_solve_194 rfl rfl (fun hc => ?_) (fun hc => ?_)
          · replace F := F.1 hc
            refine s_ic dX13_solve_209 ki_0 ?_
            exact s_k (t_solve_210 hC hB74 F) ⟨rfl, rfl, rfl, trivial⟩
          · replace F := F.2 hc
            refine s_aln dX13_solve_197 rfl ?_
            refine s_ic dX13_solve_198 ki_5 ?_
            refine k_781 dX13_solve_199 rfl (Nat.le_of_ble_eq_true rfl) (Nat.le_of_ble_eq_true rfl) F (fun r10 σ9 F => ?_)
            refine s_in (t := 209) (r10 = 0) dX13_solve_202 rfl rfl (fun hc => ?_) (fun hc => ?_)
            · replace F := F.1 hc
              refine s_ic dX13_solve_209 ki_0 ?_
              exact s_k (t_solve_210 hC hB74 F) ⟨rfl, rfl, rfl, trivial⟩
            · replace F := F.2 hc
              refine s_ic dX13_solve_205 ki_1 ?_
              refine s_goto (t := 210) dX13_solve_206 rfl ?_
              exact s_k (t_solve_210 hC hB74 F) ⟨rfl, rfl, rfl, trivial⟩
        · replace F := F.2 hc
          refine s_aln dX13_solve_171 rfl ?_
          refine k_790 dX13_solve_172 rfl (Nat.le_of_ble_eq_true rfl) (Nat.le_of_ble_eq_true rfl) F (fun r12 σ11 F => ?_)
          refine s_isn dX13_solve_175 (Nat.le_of_ble_eq_true rfl) rfl ?_
          show wG _ _ _ _ [some (.ref (co C)), some (.int a1), some (.int a2), some (.int r12)] _ _ _
          refine s_goto (t := 223) dX13_solve_176 rfl ?_
          exact s_k (t_solve_223 hC hB74 F) ⟨rfl, rfl, rfl, trivial⟩
      · replace F := F.2 hc
        refine s_iln dX13_solve_122 rfl ?_
        refine s_iln dX13_solve_123 rfl ?_
        refine s_ii (t := 136) (a3 = a2) dX13_solve_124 rfl rfl (fun hc => ?_) (fun hc => ?_)
        · replace F := F.1 hc
          exact s_k (t_solve_136 hC hB74 (fun a1' a2' a3' τ hb => by obtain ⟨k, hk, hI⟩ := hb; exact ih k hk a1' a2' a3' τ hI) F) ⟨rfl, rfl, rfl, rfl, trivial⟩
        · replace F := F.2 hc
          refine s_aln dX13_solve_127 rfl ?_
          refine s_iln dX13_solve_128 rfl ?_
          refine s_iln dX13_solve_129 rfl ?_
          refine k_651 dX13_solve_130 rfl (Nat.le_of_ble_eq_true rfl) (Nat.le_of_ble_eq_true rfl) F (fun r14 σ13 F => ?_)
          refine s_i (t := 156) (r14 = 0) dX13_solve_133 rfl rfl (fun hc => ?_) (fun hc => ?_)
          · replace F := F.1 hc
            refine s_incb dX13_solve_156 ki_1 rfl (Nat.le_of_ble_eq_true rfl) (fun v3_15 ev3_15 => ?_)
            replace F := F v3_15 ev3_15
            show wG _ _ _ _ [some (.ref (co C)), some (.int a1), some (.int a2), some (.int v3_15)] _ _ _
            refine s_goto (t := 114) dX13_solve_159 rfl ?_
            obtain ⟨k, hk, hI⟩ := F
            exact s_k (ih k hk _ _ _ _ hI) ⟨rfl, rfl, rfl, rfl, trivial⟩
          · replace F := F.2 hc
            exact s_k (t_solve_136 hC hB74 (fun a1' a2' a3' τ hb => by obtain ⟨k, hk, hI⟩ := hb; exact ih k hk a1' a2' a3' τ hI) F) ⟨rfl, rfl, rfl, rfl, trivial⟩
  exact key n0 a1 a2 a3 σ hI0

def w_solve_74 (C : rCx) (Q : Int32 → rS → Prop)  (a1 : Int32) (σ : rS) : Prop :=
  ∃ I : Nat → Int32 → rS → Prop, (∃ n, I n a1 σ) ∧ ∀ n a1 σ, I n a1 σ →
    ((σ.1 70) ≤ a1 →
      ∀ σ1, σ1 = siU σ 94 (1 : Int32) →
      Q (0 : Int32) σ1) ∧
    (¬ ((σ.1 70) ≤ a1) →
      inb a1 1000 ∧
      ∀ v2_2 : Int32, v2_2 = (σ.2.2.1 98 (a1).toNatClampNeg) →
      inb v2_2 1000 ∧
      ((σ.2.2.1 95 (v2_2).toNatClampNeg) = 0 →
        ∀ v1_3 : Int32, v1_3 = a1 + (1 : Int32) →
        ∃ k < n, I k v1_3 σ) ∧
      (¬ ((σ.2.2.1 95 (v2_2).toNatClampNeg) = 0) →
        inb v2_2 1000 ∧
        (¬ ((σ.2.2.1 96 (v2_2).toNatClampNeg) = 0) →
          ∀ v1_4 : Int32, v1_4 = a1 + (1 : Int32) →
          ∃ k < n, I k v1_4 σ) ∧
        ((σ.2.2.1 96 (v2_2).toNatClampNeg) = 0 →
          ∀ σ5, σ5 = siU σ 100 (0 : Int32) →
          w_solve_114 C Q (fun a1' τ => ∃ k < n, I k a1' τ) a1 v2_2 (0 : Int32) σ5)))
theorem t_solve_74 {C : rCx} (hC : cOK C) {Q : Int32 → rS → Prop}   {a1 : Int32} {σ : rS} (F : w_solve_74 C Q  a1 σ) : wG C 8 m_solve 74 [some (.ref (co C)), some (.int a1), none, none] [] σ (qI Q) := by
  obtain ⟨I, ⟨n0, hI0⟩, F0⟩ := F
  have key : ∀ n a1 σ, I n a1 σ → wG C 8 m_solve 74 [some (.ref (co C)), some (.int a1), none, none] [] σ (qI Q) := by
    intro n
    induction n using Nat.strongRecOn with
    | _ n ih =>
      intro a1 σ hI
      have F := F0 n a1 σ hI
      clear hI hI0
      refine s_iln dX13_solve_74 rfl ?_
      refine s_aln dX13_solve_75 rfl ?_
      refine gf_542 dX13_solve_76 rfl ?_
      refine s_ii (t := 236) ((σ.1 70) ≤ a1) dX13_solve_79 rfl rfl (fun hc => ?_) (fun hc => ?_)
      · replace F := F.1 hc
        refine s_aln dX13_solve_236 rfl ?_
        refine s_ic dX13_solve_237 ki_1 ?_
        refine pf_536 hC dX13_solve_238 rfl (nb_nar nb_1) (fun σ1 eσ1 => ?_)
        replace F := F σ1 eσ1
        refine s_ic dX13_solve_241 ki_0 ?_
        exact s_ri dX13_solve_242 rfl in_nar F
      · replace F := F.2 hc
        refine s_aln dX13_solve_82 rfl ?_
        refine gf_204 dX13_solve_83 rfl ?_
        refine s_iln dX13_solve_86 rfl ?_
        refine s_ald hC dX13_solve_87 rt_98 F.1 ?_
        replace F := F.2
        refine s_isnb dX13_solve_88 (Nat.le_of_ble_eq_true rfl) (fun v2_2 ev2_2 => ?_)
        replace F := F v2_2 ev2_2
        show wG _ _ _ _ [some (.ref (co C)), some (.int a1), some (.int v2_2), none] _ _ _
        refine s_aln dX13_solve_89 rfl ?_
        refine gf_195 dX13_solve_90 rfl ?_
        refine s_iln dX13_solve_93 rfl ?_
        refine s_zld hC dX13_solve_94 rt_95 F.1 ?_
        replace F := F.2
        refine s_i (t := 230) ((σ.2.2.1 95 (v2_2).toNatClampNeg) = 0) dX13_solve_95 rfl rfl (fun hc => ?_) (fun hc => ?_)
        · replace F := F.1 hc
          refine s_incb dX13_solve_230 ki_1 rfl (Nat.le_of_ble_eq_true rfl) (fun v1_3 ev1_3 => ?_)
          replace F := F v1_3 ev1_3
          show wG _ _ _ _ [some (.ref (co C)), some (.int v1_3), some (.int v2_2), none] _ _ _
          refine s_goto (t := 74) dX13_solve_233 rfl ?_
          obtain ⟨k, hk, hI⟩ := F
          exact s_k (ih k hk _ _ hI) ⟨rfl, rfl, trivial⟩
        · replace F := F.2 hc
          refine s_aln dX13_solve_98 rfl ?_
          refine gf_198 dX13_solve_99 rfl ?_
          refine s_iln dX13_solve_102 rfl ?_
          refine s_zld hC dX13_solve_103 rt_96 F.1 ?_
          replace F := F.2
          refine s_in (t := 230) ((σ.2.2.1 96 (v2_2).toNatClampNeg) = 0) dX13_solve_104 rfl rfl (fun hc => ?_) (fun hc => ?_)
          · replace F := F.1 hc
            refine s_incb dX13_solve_230 ki_1 rfl (Nat.le_of_ble_eq_true rfl) (fun v1_4 ev1_4 => ?_)
            replace F := F v1_4 ev1_4
            show wG _ _ _ _ [some (.ref (co C)), some (.int v1_4), some (.int v2_2), none] _ _ _
            refine s_goto (t := 74) dX13_solve_233 rfl ?_
            obtain ⟨k, hk, hI⟩ := F
            exact s_k (ih k hk _ _ hI) ⟨rfl, rfl, trivial⟩
          · replace F := F.2 hc
            refine s_aln dX13_solve_107 rfl ?_
            refine s_ic dX13_solve_108 ki_0 ?_
            refine pf_755 hC dX13_solve_109 rfl (fun σ5 eσ5 => ?_)
            replace F := F σ5 eσ5
            refine s_ic dX13_solve_112 ki_0 ?_
            refine s_isn dX13_solve_113 (Nat.le_of_ble_eq_true rfl) rfl ?_
            show wG _ _ _ _ [some (.ref (co C)), some (.int a1), some (.int v2_2), some (.int (0 : Int32))] _ _ _
            exact s_k (t_solve_114 hC (fun a1' τ hb => by obtain ⟨k, hk, hI⟩ := hb; exact ih k hk a1' τ hI) F) ⟨rfl, rfl, rfl, rfl, trivial⟩
  exact key n0 a1 σ hI0

def w_solve_36 (C : rCx) (Q : Int32 → rS → Prop)  (a1 : Int32) (σ : rS) : Prop :=
  ∃ I : Nat → Int32 → rS → Prop, (∃ n, I n a1 σ) ∧ ∀ n a1 σ, I n a1 σ →
    ((σ.1 70) ≤ a1 →
      w_solve_74 C Q  (0 : Int32) σ) ∧
    (¬ ((σ.1 70) ≤ a1) →
      inb a1 1000 ∧
      ((σ.2.2.1 95 (a1).toNatClampNeg) = 0 →
        ∀ v1_1 : Int32, v1_1 = a1 + (1 : Int32) →
        ∃ k < n, I k v1_1 σ) ∧
      (¬ ((σ.2.2.1 95 (a1).toNatClampNeg) = 0) →
        cI C 2 m_ringOf [.ref (co C), .int a1] σ (fun r3 σ2 =>
          (r3 ≤ (32 : Int32) →
            ∀ v1_4 : Int32, v1_4 = a1 + (1 : Int32) →
            ∃ k < n, I k v1_4 σ2) ∧
          (¬ (r3 ≤ (32 : Int32)) →
            Q (-2 : Int32) σ2))))
theorem t_solve_36 {C : rCx} (hC : cOK C) {Q : Int32 → rS → Prop}   {a1 : Int32} {σ : rS} (F : w_solve_36 C Q  a1 σ) : wG C 8 m_solve 36 [some (.ref (co C)), some (.int a1), none, none] [] σ (qI Q) := by
  obtain ⟨I, ⟨n0, hI0⟩, F0⟩ := F
  have key : ∀ n a1 σ, I n a1 σ → wG C 8 m_solve 36 [some (.ref (co C)), some (.int a1), none, none] [] σ (qI Q) := by
    intro n
    induction n using Nat.strongRecOn with
    | _ n ih =>
      intro a1 σ hI
      have F := F0 n a1 σ hI
      clear hI hI0
      refine s_iln dX13_solve_36 rfl ?_
      refine s_aln dX13_solve_37 rfl ?_
      refine gf_542 dX13_solve_38 rfl ?_
      refine s_ii (t := 72) ((σ.1 70) ≤ a1) dX13_solve_41 rfl rfl (fun hc => ?_) (fun hc => ?_)
      · replace F := F.1 hc
        refine s_ic dX13_solve_72 ki_0 ?_
        refine s_isn dX13_solve_73 (Nat.le_of_ble_eq_true rfl) rfl ?_
        show wG _ _ _ _ [some (.ref (co C)), some (.int (0 : Int32)), none, none] _ _ _
        exact s_k (t_solve_74 hC  F) ⟨rfl, rfl, trivial⟩
      · replace F := F.2 hc
        refine s_aln dX13_solve_44 rfl ?_
        refine gf_195 dX13_solve_45 rfl ?_
        refine s_iln dX13_solve_48 rfl ?_
        refine s_zld hC dX13_solve_49 rt_95 F.1 ?_
        replace F := F.2
        refine s_i (t := 66) ((σ.2.2.1 95 (a1).toNatClampNeg) = 0) dX13_solve_50 rfl rfl (fun hc => ?_) (fun hc => ?_)
        · replace F := F.1 hc
          refine s_incb dX13_solve_66 ki_1 rfl (Nat.le_of_ble_eq_true rfl) (fun v1_1 ev1_1 => ?_)
          replace F := F v1_1 ev1_1
          show wG _ _ _ _ [some (.ref (co C)), some (.int v1_1), none, none] _ _ _
          refine s_goto (t := 36) dX13_solve_69 rfl ?_
          obtain ⟨k, hk, hI⟩ := F
          exact s_k (ih k hk _ _ hI) ⟨rfl, rfl, trivial⟩
        · replace F := F.2 hc
          refine s_aln dX13_solve_53 rfl ?_
          refine s_iln dX13_solve_54 rfl ?_
          refine k_667 dX13_solve_55 rfl (Nat.le_of_ble_eq_true rfl) (Nat.le_of_ble_eq_true rfl) F (fun r3 σ2 F => ?_)
          refine s_bi dX13_solve_58 kb_32 ?_
          refine s_ii (t := 66) (r3 ≤ (32 : Int32)) dX13_solve_60 rfl rfl (fun hc => ?_) (fun hc => ?_)
          · replace F := F.1 hc
            refine s_incb dX13_solve_66 ki_1 rfl (Nat.le_of_ble_eq_true rfl) (fun v1_4 ev1_4 => ?_)
            replace F := F v1_4 ev1_4
            show wG _ _ _ _ [some (.ref (co C)), some (.int v1_4), none, none] _ _ _
            refine s_goto (t := 36) dX13_solve_69 rfl ?_
            obtain ⟨k, hk, hI⟩ := F
            exact s_k (ih k hk _ _ hI) ⟨rfl, rfl, trivial⟩
          · replace F := F.2 hc
            refine s_bi dX13_solve_63 kb_m2 ?_
            exact s_ri dX13_solve_65 rfl in_nar F
  exact key n0 a1 σ hI0

def w_solve_13 (C : rCx) (Q : Int32 → rS → Prop)  (s1 : Int32) (σ : rS) : Prop :=
  ∀ σ1, σ1 = siU σ 0 s1 →
  ((σ1.1 0) ≤ 0 →
    ∀ σ2, σ2 = siU σ1 94 (0 : Int32) →
    cV C 3 m_findOrder [.ref (co C)] σ2 (fun σ3 =>
      w_solve_36 C Q  (0 : Int32) σ3)) ∧
  (¬ ((σ1.1 0) ≤ 0) →
    Q (0 : Int32) σ1)
theorem t_solve_13 {C : rCx} (hC : cOK C) {Q : Int32 → rS → Prop}   {s1 : Int32} {σ : rS} (F : w_solve_13 C Q  s1 σ) : wG C 8 m_solve 13 [some (.ref (co C)), none, none, none] [.int s1, .ref (co C)] σ (qI Q) := by
  unfold w_solve_13 at F
  refine pf_1 hC dX13_solve_13 rfl (fun σ1 eσ1 => ?_)
  replace F := F σ1 eσ1
  refine s_aln dX13_solve_16 rfl ?_
  refine gf_1 dX13_solve_17 rfl ?_
  refine s_i (t := 25) ((σ1.1 0) ≤ 0) dX13_solve_20 rfl rfl (fun hc => ?_) (fun hc => ?_)
  · replace F := F.1 hc
    refine s_aln dX13_solve_25 rfl ?_
    refine s_ic dX13_solve_26 ki_0 ?_
    refine pf_536 hC dX13_solve_27 rfl (nb_nar nb_0) (fun σ2 eσ2 => ?_)
    replace F := F σ2 eσ2
    refine s_aln dX13_solve_30 rfl ?_
    refine k_787 dX13_solve_31 rfl (Nat.le_of_ble_eq_true rfl) (Nat.le_of_ble_eq_true rfl) F (fun σ3 F => ?_)
    refine s_ic dX13_solve_34 ki_0 ?_
    refine s_isn dX13_solve_35 (Nat.le_of_ble_eq_true rfl) rfl ?_
    show wG _ _ _ _ [some (.ref (co C)), some (.int (0 : Int32)), none, none] _ _ _
    exact s_k (t_solve_36 hC  F) ⟨rfl, rfl, trivial⟩
  · replace F := F.2 hc
    refine s_ic dX13_solve_23 ki_0 ?_
    exact s_ri dX13_solve_24 rfl in_nar F

def w_solve_0 (C : rCx) (Q : Int32 → rS → Prop)   (σ : rS) : Prop :=
  ((σ.1 69) = 0 →
    w_solve_13 C Q  (1 : Int32) σ) ∧
  (¬ ((σ.1 69) = 0) →
    w_solve_13 C Q  (0 : Int32) σ)
theorem t_solve_0 {C : rCx} (hC : cOK C) {Q : Int32 → rS → Prop}    {σ : rS} (F : w_solve_0 C Q   σ) : wG C 8 m_solve 0 [some (.ref (co C)), none, none, none] [] σ (qI Q) := by
  unfold w_solve_0 at F
  refine s_aln dX13_solve_0 rfl ?_
  refine s_aln dX13_solve_1 rfl ?_
  refine gf_533 dX13_solve_2 rfl ?_
  refine s_i (t := 12) ((σ.1 69) = 0) dX13_solve_5 rfl rfl (fun hc => ?_) (fun hc => ?_)
  · replace F := F.1 hc
    refine s_ic dX13_solve_12 ki_1 ?_
    exact s_k (t_solve_13 hC  F) ⟨rfl, trivial⟩
  · replace F := F.2 hc
    refine s_ic dX13_solve_8 ki_0 ?_
    refine s_goto (t := 13) dX13_solve_9 rfl ?_
    exact s_k (t_solve_13 hC  F) ⟨rfl, trivial⟩

theorem m_solve_run {C : rCx} (hC : cOK C) {Q : Int32 → rS → Prop}  {σ : rS} (F : w_solve_0 C Q  σ) : cI C 8 m_solve [.ref (co C)] σ Q := m_I (m_ent _ 3) (t_solve_0 hC F)

