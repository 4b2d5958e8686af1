/-! methods of the reference: takeName, take, cutTape, isRight, flaw, readNext, go, isAt, isNext, isWord, sign, open -/
theorem dX13_takeName_0 : decode cX13_takeName 0 = .ok (.iload_n 2, 1) := by decide +kernel
theorem dX13_takeName_1 : decode cX13_takeName 1 = .ok (.istore_n 3, 1) := by decide +kernel
theorem dX13_takeName_2 : decode cX13_takeName 2 = .ok (.aload_n 0, 1) := by decide +kernel
theorem dX13_takeName_3 : decode cX13_takeName 3 = .ok (.iload_n 3, 1) := by decide +kernel
theorem dX13_takeName_4 : decode cX13_takeName 4 = .ok (.invokevirtual 256, 3) := by decide +kernel
theorem dX13_takeName_7 : decode cX13_takeName 7 = .ok (.invokestatic 272, 3) := by decide +kernel
theorem dX13_takeName_10 : decode cX13_takeName 10 = .ok (.ifCond .ne 14, 3) := by decide +kernel
theorem dX13_takeName_13 : decode cX13_takeName 13 = .ok (.aload_n 0, 1) := by decide +kernel
theorem dX13_takeName_14 : decode cX13_takeName 14 = .ok (.iload_n 3, 1) := by decide +kernel
theorem dX13_takeName_15 : decode cX13_takeName 15 = .ok (.invokevirtual 256, 3) := by decide +kernel
theorem dX13_takeName_18 : decode cX13_takeName 18 = .ok (.invokestatic 275, 3) := by decide +kernel
theorem dX13_takeName_21 : decode cX13_takeName 21 = .ok (.ifCond .eq 111, 3) := by decide +kernel
theorem dX13_takeName_24 : decode cX13_takeName 24 = .ok (.iload_n 3, 1) := by decide +kernel
theorem dX13_takeName_25 : decode cX13_takeName 25 = .ok (.iload_n 2, 1) := by decide +kernel
theorem dX13_takeName_26 : decode cX13_takeName 26 = .ok (.isub, 1) := by decide +kernel
theorem dX13_takeName_27 : decode cX13_takeName 27 = .ok (.istore 4, 2) := by decide +kernel
theorem dX13_takeName_29 : decode cX13_takeName 29 = .ok (.aload_n 0, 1) := by decide +kernel
theorem dX13_takeName_30 : decode cX13_takeName 30 = .ok (.getfield 29, 3) := by decide +kernel
theorem dX13_takeName_33 : decode cX13_takeName 33 = .ok (.iload_n 1, 1) := by decide +kernel
theorem dX13_takeName_34 : decode cX13_takeName 34 = .ok (.iload 4, 2) := by decide +kernel
theorem dX13_takeName_36 : decode cX13_takeName 36 = .ok (.bipush 8, 2) := by decide +kernel
theorem dX13_takeName_38 : decode cX13_takeName 38 = .ok (.if_icmp .ge 28, 3) := by decide +kernel
theorem dX13_takeName_41 : decode cX13_takeName 41 = .ok (.aload_n 0, 1) := by decide +kernel
theorem dX13_takeName_42 : decode cX13_takeName 42 = .ok (.getfield 29, 3) := by decide +kernel
theorem dX13_takeName_45 : decode cX13_takeName 45 = .ok (.iload_n 1, 1) := by decide +kernel
theorem dX13_takeName_46 : decode cX13_takeName 46 = .ok (.laload, 1) := by decide +kernel
theorem dX13_takeName_47 : decode cX13_takeName 47 = .ok (.aload_n 0, 1) := by decide +kernel
theorem dX13_takeName_48 : decode cX13_takeName 48 = .ok (.iload_n 3, 1) := by decide +kernel
theorem dX13_takeName_49 : decode cX13_takeName 49 = .ok (.invokevirtual 256, 3) := by decide +kernel
theorem dX13_takeName_52 : decode cX13_takeName 52 = .ok (.i2l, 1) := by decide +kernel
theorem dX13_takeName_53 : decode cX13_takeName 53 = .ok (.bipush 56, 2) := by decide +kernel
theorem dX13_takeName_55 : decode cX13_takeName 55 = .ok (.bipush 8, 2) := by decide +kernel
theorem dX13_takeName_57 : decode cX13_takeName 57 = .ok (.iload 4, 2) := by decide +kernel
theorem dX13_takeName_59 : decode cX13_takeName 59 = .ok (.imul, 1) := by decide +kernel
theorem dX13_takeName_60 : decode cX13_takeName 60 = .ok (.isub, 1) := by decide +kernel
theorem dX13_takeName_61 : decode cX13_takeName 61 = .ok (.lshl, 1) := by decide +kernel
theorem dX13_takeName_62 : decode cX13_takeName 62 = .ok (.lor, 1) := by decide +kernel
theorem dX13_takeName_63 : decode cX13_takeName 63 = .ok (.goto 9, 3) := by decide +kernel
theorem dX13_takeName_66 : decode cX13_takeName 66 = .ok (.aload_n 0, 1) := by decide +kernel
theorem dX13_takeName_67 : decode cX13_takeName 67 = .ok (.getfield 29, 3) := by decide +kernel
theorem dX13_takeName_70 : decode cX13_takeName 70 = .ok (.iload_n 1, 1) := by decide +kernel
theorem dX13_takeName_71 : decode cX13_takeName 71 = .ok (.laload, 1) := by decide +kernel
theorem dX13_takeName_72 : decode cX13_takeName 72 = .ok (.lastore, 1) := by decide +kernel
theorem dX13_takeName_73 : decode cX13_takeName 73 = .ok (.aload_n 0, 1) := by decide +kernel
theorem dX13_takeName_74 : decode cX13_takeName 74 = .ok (.getfield 33, 3) := by decide +kernel
theorem dX13_takeName_77 : decode cX13_takeName 77 = .ok (.iload_n 1, 1) := by decide +kernel
theorem dX13_takeName_78 : decode cX13_takeName 78 = .ok (.iload 4, 2) := by decide +kernel
theorem dX13_takeName_80 : decode cX13_takeName 80 = .ok (.bipush 8, 2) := by decide +kernel
theorem dX13_takeName_82 : decode cX13_takeName 82 = .ok (.if_icmp .lt 37, 3) := by decide +kernel
theorem dX13_takeName_85 : decode cX13_takeName 85 = .ok (.iload 4, 2) := by decide +kernel
theorem dX13_takeName_87 : decode cX13_takeName 87 = .ok (.bipush 12, 2) := by decide +kernel
theorem dX13_takeName_89 : decode cX13_takeName 89 = .ok (.if_icmp .ge 30, 3) := by decide +kernel
theorem dX13_takeName_92 : decode cX13_takeName 92 = .ok (.aload_n 0, 1) := by decide +kernel
theorem dX13_takeName_93 : decode cX13_takeName 93 = .ok (.getfield 33, 3) := by decide +kernel
theorem dX13_takeName_96 : decode cX13_takeName 96 = .ok (.iload_n 1, 1) := by decide +kernel
theorem dX13_takeName_97 : decode cX13_takeName 97 = .ok (.iaload, 1) := by decide +kernel
theorem dX13_takeName_98 : decode cX13_takeName 98 = .ok (.aload_n 0, 1) := by decide +kernel
theorem dX13_takeName_99 : decode cX13_takeName 99 = .ok (.iload_n 3, 1) := by decide +kernel
theorem dX13_takeName_100 : decode cX13_takeName 100 = .ok (.invokevirtual 256, 3) := by decide +kernel
theorem dX13_takeName_103 : decode cX13_takeName 103 = .ok (.bipush 24, 2) := by decide +kernel
theorem dX13_takeName_105 : decode cX13_takeName 105 = .ok (.bipush 8, 2) := by decide +kernel
theorem dX13_takeName_107 : decode cX13_takeName 107 = .ok (.iload 4, 2) := by decide +kernel
theorem dX13_takeName_109 : decode cX13_takeName 109 = .ok (.bipush 8, 2) := by decide +kernel
theorem dX13_takeName_111 : decode cX13_takeName 111 = .ok (.isub, 1) := by decide +kernel
theorem dX13_takeName_112 : decode cX13_takeName 112 = .ok (.imul, 1) := by decide +kernel
theorem dX13_takeName_113 : decode cX13_takeName 113 = .ok (.isub, 1) := by decide +kernel
theorem dX13_takeName_114 : decode cX13_takeName 114 = .ok (.ishl, 1) := by decide +kernel
theorem dX13_takeName_115 : decode cX13_takeName 115 = .ok (.ior, 1) := by decide +kernel
theorem dX13_takeName_116 : decode cX13_takeName 116 = .ok (.goto 9, 3) := by decide +kernel
theorem dX13_takeName_119 : decode cX13_takeName 119 = .ok (.aload_n 0, 1) := by decide +kernel
theorem dX13_takeName_120 : decode cX13_takeName 120 = .ok (.getfield 33, 3) := by decide +kernel
theorem dX13_takeName_123 : decode cX13_takeName 123 = .ok (.iload_n 1, 1) := by decide +kernel
theorem dX13_takeName_124 : decode cX13_takeName 124 = .ok (.iaload, 1) := by decide +kernel
theorem dX13_takeName_125 : decode cX13_takeName 125 = .ok (.iastore, 1) := by decide +kernel
theorem dX13_takeName_126 : decode cX13_takeName 126 = .ok (.iinc 3 1, 3) := by decide +kernel
theorem dX13_takeName_129 : decode cX13_takeName 129 = .ok (.goto (-127), 3) := by decide +kernel
theorem dX13_takeName_132 : decode cX13_takeName 132 = .ok (.aload_n 0, 1) := by decide +kernel
theorem dX13_takeName_133 : decode cX13_takeName 133 = .ok (.getfield 26, 3) := by decide +kernel
theorem dX13_takeName_136 : decode cX13_takeName 136 = .ok (.iload_n 1, 1) := by decide +kernel
theorem dX13_takeName_137 : decode cX13_takeName 137 = .ok (.aload_n 0, 1) := by decide +kernel
theorem dX13_takeName_138 : decode cX13_takeName 138 = .ok (.getfield 33, 3) := by decide +kernel
theorem dX13_takeName_141 : decode cX13_takeName 141 = .ok (.iload_n 1, 1) := by decide +kernel
theorem dX13_takeName_142 : decode cX13_takeName 142 = .ok (.iaload, 1) := by decide +kernel
theorem dX13_takeName_143 : decode cX13_takeName 143 = .ok (.ifCond .ne 15, 3) := by decide +kernel
theorem dX13_takeName_146 : decode cX13_takeName 146 = .ok (.aload_n 0, 1) := by decide +kernel
theorem dX13_takeName_147 : decode cX13_takeName 147 = .ok (.getfield 29, 3) := by decide +kernel
theorem dX13_takeName_150 : decode cX13_takeName 150 = .ok (.iload_n 1, 1) := by decide +kernel
theorem dX13_takeName_151 : decode cX13_takeName 151 = .ok (.laload, 1) := by decide +kernel
theorem dX13_takeName_152 : decode cX13_takeName 152 = .ok (.invokestatic 278, 3) := by decide +kernel
theorem dX13_takeName_155 : decode cX13_takeName 155 = .ok (.goto 4, 3) := by decide +kernel
theorem dX13_takeName_158 : decode cX13_takeName 158 = .ok (.iconst 0, 1) := by decide +kernel
theorem dX13_takeName_159 : decode cX13_takeName 159 = .ok (.iastore, 1) := by decide +kernel
theorem dX13_takeName_160 : decode cX13_takeName 160 = .ok (.aload_n 0, 1) := by decide +kernel
theorem dX13_takeName_161 : decode cX13_takeName 161 = .ok (.getfield 19, 3) := by decide +kernel
theorem dX13_takeName_164 : decode cX13_takeName 164 = .ok (.iload_n 1, 1) := by decide +kernel
theorem dX13_takeName_165 : decode cX13_takeName 165 = .ok (.iload_n 3, 1) := by decide +kernel
theorem dX13_takeName_166 : decode cX13_takeName 166 = .ok (.iload_n 2, 1) := by decide +kernel
theorem dX13_takeName_167 : decode cX13_takeName 167 = .ok (.isub, 1) := by decide +kernel
theorem dX13_takeName_168 : decode cX13_takeName 168 = .ok (.bipush 12, 2) := by decide +kernel
theorem dX13_takeName_170 : decode cX13_takeName 170 = .ok (.if_icmp .le 7, 3) := by decide +kernel
theorem dX13_takeName_173 : decode cX13_takeName 173 = .ok (.iconst 4, 1) := by decide +kernel
theorem dX13_takeName_174 : decode cX13_takeName 174 = .ok (.goto 18, 3) := by decide +kernel
theorem dX13_takeName_177 : decode cX13_takeName 177 = .ok (.aload_n 0, 1) := by decide +kernel
theorem dX13_takeName_178 : decode cX13_takeName 178 = .ok (.getfield 26, 3) := by decide +kernel
theorem dX13_takeName_181 : decode cX13_takeName 181 = .ok (.iload_n 1, 1) := by decide +kernel
theorem dX13_takeName_182 : decode cX13_takeName 182 = .ok (.iaload, 1) := by decide +kernel
theorem dX13_takeName_183 : decode cX13_takeName 183 = .ok (.ifCond .le 8, 3) := by decide +kernel
theorem dX13_takeName_186 : decode cX13_takeName 186 = .ok (.bipush 6, 2) := by decide +kernel
theorem dX13_takeName_188 : decode cX13_takeName 188 = .ok (.goto 4, 3) := by decide +kernel
theorem dX13_takeName_191 : decode cX13_takeName 191 = .ok (.iconst 1, 1) := by decide +kernel
theorem dX13_takeName_192 : decode cX13_takeName 192 = .ok (.i2b, 1) := by decide +kernel
theorem dX13_takeName_193 : decode cX13_takeName 193 = .ok (.bastore, 1) := by decide +kernel
theorem dX13_takeName_194 : decode cX13_takeName 194 = .ok (.iload_n 3, 1) := by decide +kernel
theorem dX13_takeName_195 : decode cX13_takeName 195 = .ok (.ireturn, 1) := by decide +kernel
def w_takeName_125 (C : rCx) (Q : Int32 → rS → Prop) (B2 : Int32 → Int32 → Int32 → rS → Prop) (a1 : Int32) (a2 : Int32) (a3 : Int32) (s1 : Int32) (s2 : Int32) (σ : rS) : Prop :=
  inb s1 131074 ∧
  ∀ σ1, σ1 = riU σ 9 (s1).toNatClampNeg s2 →
  ∀ v3_2 : Int32, v3_2 = a3 + (1 : Int32) →
  B2 a1 a2 v3_2 σ1
theorem t_takeName_125 {C : rCx} (hC : cOK C) {Q : Int32 → rS → Prop} {B2 : Int32 → Int32 → Int32 → rS → Prop} (hB2 : ∀ a1' a2' a3' τ, B2 a1' a2' a3' τ → wG C 3 m_takeName 2 [some (.ref (co C)), some (.int a1'), some (.int a2'), some (.int a3'), none] [] τ (qI Q)) {a1 : Int32} {a2 : Int32} {a3 : Int32} {s1 : Int32} {s2 : Int32} {σ : rS} (F : w_takeName_125 C Q B2 a1 a2 a3 s1 s2 σ) : wG C 3 m_takeName 125 [some (.ref (co C)), some (.int a1), some (.int a2), some (.int a3), none] [.int s2, .int s1, .ref (cad C 9)] σ (qI Q) := by
  unfold w_takeName_125 at F
  refine s_astb hC dX13_takeName_125 rt_9 F.1 (fun σ1 eσ1 => ?_)
  replace F := F.2 σ1 eσ1
  refine s_incb dX13_takeName_126 ki_1 rfl (Nat.le_of_ble_eq_true rfl) (fun v3_2 ev3_2 => ?_)
  replace F := F v3_2 ev3_2
  refine s_goto (t := 2) dX13_takeName_129 rfl ?_
  exact s_k (hB2 _ _ _ _ F) ⟨rfl, rfl, rfl, rfl, trivial⟩

def w_takeName_119 (C : rCx) (Q : Int32 → rS → Prop) (B2 : Int32 → Int32 → Int32 → rS → Prop) (a1 : Int32) (a2 : Int32) (a3 : Int32) (s1 : Int32) (σ : rS) : Prop :=
  inb a1 131074 ∧
  w_takeName_125 C Q B2 a1 a2 a3 s1 (σ.2.2.1 9 (a1).toNatClampNeg) σ
theorem t_takeName_119 {C : rCx} (hC : cOK C) {Q : Int32 → rS → Prop} {B2 : Int32 → Int32 → Int32 → rS → Prop} (hB2 : ∀ a1' a2' a3' τ, B2 a1' a2' a3' τ → wG C 3 m_takeName 2 [some (.ref (co C)), some (.int a1'), some (.int a2'), some (.int a3'), none] [] τ (qI Q)) {a1 : Int32} {a2 : Int32} {a3 : Int32} {s1 : Int32} {σ : rS} (F : w_takeName_119 C Q B2 a1 a2 a3 s1 σ) : wG C 3 m_takeName 119 [some (.ref (co C)), some (.int a1), some (.int a2), some (.int a3), none] [.int s1, .ref (cad C 9)] σ (qI Q) := by
  unfold w_takeName_119 at F
  refine s_aln dX13_takeName_119 rfl ?_
  refine gf_33 dX13_takeName_120 rfl ?_
  refine s_iln dX13_takeName_123 rfl ?_
  refine s_ald hC dX13_takeName_124 rt_9 F.1 ?_
  replace F := F.2
  exact s_k (t_takeName_125 hC hB2 F) ⟨rfl, rfl, rfl, rfl, trivial⟩

def w_takeName_72 (C : rCx) (Q : Int32 → rS → Prop) (B2 : Int32 → Int32 → Int32 → rS → Prop) (a1 : Int32) (a2 : Int32) (a3 : Int32) (a4 : Int32) (s1 : Int32) (s2 : Int64) (σ : rS) : Prop :=
  inb s1 131074 ∧
  ∀ σ1, σ1 = rlU σ 8 (s1).toNatClampNeg s2 →
  (a4 < (8 : Int32) →
    w_takeName_119 C Q B2 a1 a2 a3 a1 σ1) ∧
  (¬ (a4 < (8 : Int32)) →
    ((12 : Int32) ≤ a4 →
      w_takeName_119 C Q B2 a1 a2 a3 a1 σ1) ∧
    (¬ ((12 : Int32) ≤ a4) →
      inb a1 131074 ∧
      cI C 0 m_byteAt [.ref (co C), .int a3] σ1 (fun r3 σ2 =>
        w_takeName_125 C Q B2 a1 a2 a3 a1 ((σ1.2.2.1 9 (a1).toNatClampNeg) ||| (r3 <<< (((24 : Int32) - ((8 : Int32) * (a4 - (8 : Int32)))) &&& 31))) σ2)))
theorem t_takeName_72 {C : rCx} (hC : cOK C) {Q : Int32 → rS → Prop} {B2 : Int32 → Int32 → Int32 → rS → Prop} (hB2 : ∀ a1' a2' a3' τ, B2 a1' a2' a3' τ → wG C 3 m_takeName 2 [some (.ref (co C)), some (.int a1'), some (.int a2'), some (.int a3'), none] [] τ (qI Q)) {a1 : Int32} {a2 : Int32} {a3 : Int32} {a4 : Int32} {s1 : Int32} {s2 : Int64} {σ : rS} (F : w_takeName_72 C Q B2 a1 a2 a3 a4 s1 s2 σ) : wG C 3 m_takeName 72 [some (.ref (co C)), some (.int a1), some (.int a2), some (.int a3), some (.int a4)] [.long s2, .int s1, .ref (cad C 8)] σ (qI Q) := by
  unfold w_takeName_72 at F
  refine s_lstb hC dX13_takeName_72 rt_8 F.1 (fun σ1 eσ1 => ?_)
  replace F := F.2 σ1 eσ1
  refine s_aln dX13_takeName_73 rfl ?_
  refine gf_33 dX13_takeName_74 rfl ?_
  refine s_iln dX13_takeName_77 rfl ?_
  refine s_il dX13_takeName_78 rfl ?_
  refine s_bi dX13_takeName_80 kb_8 ?_
  refine s_ii (t := 119) (a4 < (8 : Int32)) dX13_takeName_82 rfl rfl (fun hc => ?_) (fun hc => ?_)
  · replace F := F.1 hc
    exact s_k (t_takeName_119 hC hB2 F) ⟨rfl, rfl, rfl, rfl, trivial⟩
  · replace F := F.2 hc
    refine s_il dX13_takeName_85 rfl ?_
    refine s_bi dX13_takeName_87 kb_12 ?_
    refine s_ii (t := 119) ((12 : Int32) ≤ a4) dX13_takeName_89 rfl rfl (fun hc => ?_) (fun hc => ?_)
    · replace F := F.1 hc
      exact s_k (t_takeName_119 hC hB2 F) ⟨rfl, rfl, rfl, rfl, trivial⟩
    · replace F := F.2 hc
      refine s_aln dX13_takeName_92 rfl ?_
      refine gf_33 dX13_takeName_93 rfl ?_
      refine s_iln dX13_takeName_96 rfl ?_
      refine s_ald hC dX13_takeName_97 rt_9 F.1 ?_
      replace F := F.2
      refine s_aln dX13_takeName_98 rfl ?_
      refine s_iln dX13_takeName_99 rfl ?_
      refine k_256 dX13_takeName_100 rfl (Nat.le_of_ble_eq_true rfl) (Nat.le_of_ble_eq_true rfl) F (fun r3 σ2 F => ?_)
      refine s_bi dX13_takeName_103 kb_24 ?_
      refine s_bi dX13_takeName_105 kb_8 ?_
      refine s_il dX13_takeName_107 rfl ?_
      refine s_bi dX13_takeName_109 kb_8 ?_
      refine s_isub dX13_takeName_111 ?_
      refine s_imul dX13_takeName_112 ?_
      refine s_isub dX13_takeName_113 ?_
      refine s_ishl dX13_takeName_114 ?_
      refine s_ior dX13_takeName_115 ?_
      refine s_goto (t := 125) dX13_takeName_116 rfl ?_
      exact s_k (t_takeName_125 hC hB2 F) ⟨rfl, rfl, rfl, rfl, trivial⟩

def w_takeName_24 (C : rCx) (Q : Int32 → rS → Prop) (B2 : Int32 → Int32 → Int32 → rS → Prop) (a1 : Int32) (a2 : Int32) (a3 : Int32) (σ : rS) : Prop :=
  ∀ v4_1 : Int32, v4_1 = (a3 - a2) →
  ((8 : Int32) ≤ v4_1 →
    inb a1 131074 ∧
    w_takeName_72 C Q B2 a1 a2 a3 v4_1 a1 (σ.2.2.2 8 (a1).toNatClampNeg) σ) ∧
  (¬ ((8 : Int32) ≤ v4_1) →
    inb a1 131074 ∧
    cI C 0 m_byteAt [.ref (co C), .int a3] σ (fun r3 σ2 =>
      w_takeName_72 C Q B2 a1 a2 a3 v4_1 a1 ((σ.2.2.2 8 (a1).toNatClampNeg) ||| ((r3).toInt64 <<< ((((56 : Int32) - ((8 : Int32) * v4_1))).toInt64 &&& 63))) σ2))
theorem t_takeName_24 {C : rCx} (hC : cOK C) {Q : Int32 → rS → Prop} {B2 : Int32 → Int32 → Int32 → rS → Prop} (hB2 : ∀ a1' a2' a3' τ, B2 a1' a2' a3' τ → wG C 3 m_takeName 2 [some (.ref (co C)), some (.int a1'), some (.int a2'), some (.int a3'), none] [] τ (qI Q)) {a1 : Int32} {a2 : Int32} {a3 : Int32} {σ : rS} (F : w_takeName_24 C Q B2 a1 a2 a3 σ) : wG C 3 m_takeName 24 [some (.ref (co C)), some (.int a1), some (.int a2), some (.int a3), none] [] σ (qI Q) := by
  unfold w_takeName_24 at F
  refine s_iln dX13_takeName_24 rfl ?_
  refine s_iln dX13_takeName_25 rfl ?_
  refine s_isub dX13_takeName_26 ?_
  refine s_isb dX13_takeName_27 (Nat.le_of_ble_eq_true rfl) (fun v4_1 ev4_1 => ?_)
  replace F := F v4_1 ev4_1
  refine s_aln dX13_takeName_29 rfl ?_
  refine gf_29 dX13_takeName_30 rfl ?_
  refine s_iln dX13_takeName_33 rfl ?_
  refine s_il dX13_takeName_34 rfl ?_
  refine s_bi dX13_takeName_36 kb_8 ?_
  refine s_ii (t := 66) ((8 : Int32) ≤ v4_1) dX13_takeName_38 rfl rfl (fun hc => ?_) (fun hc => ?_)
  · replace F := F.1 hc
    refine s_aln dX13_takeName_66 rfl ?_
    refine gf_29 dX13_takeName_67 rfl ?_
    refine s_iln dX13_takeName_70 rfl ?_
    refine s_lld hC dX13_takeName_71 rt_8 F.1 ?_
    replace F := F.2
    exact s_k (t_takeName_72 hC hB2 F) ⟨rfl, rfl, rfl, rfl, rfl, trivial⟩
  · replace F := F.2 hc
    refine s_aln dX13_takeName_41 rfl ?_
    refine gf_29 dX13_takeName_42 rfl ?_
    refine s_iln dX13_takeName_45 rfl ?_
    refine s_lld hC dX13_takeName_46 rt_8 F.1 ?_
    replace F := F.2
    refine s_aln dX13_takeName_47 rfl ?_
    refine s_iln dX13_takeName_48 rfl ?_
    refine k_256 dX13_takeName_49 rfl (Nat.le_of_ble_eq_true rfl) (Nat.le_of_ble_eq_true rfl) F (fun r3 σ2 F => ?_)
    refine s_i2l dX13_takeName_52 ?_
    refine s_bi dX13_takeName_53 kb_56 ?_
    refine s_bi dX13_takeName_55 kb_8 ?_
    refine s_il dX13_takeName_57 rfl ?_
    refine s_imul dX13_takeName_59 ?_
    refine s_isub dX13_takeName_60 ?_
    refine s_lshl dX13_takeName_61 ?_
    refine s_lor dX13_takeName_62 ?_
    refine s_goto (t := 72) dX13_takeName_63 rfl ?_
    exact s_k (t_takeName_72 hC hB2 F) ⟨rfl, rfl, rfl, rfl, rfl, trivial⟩

def w_takeName_159 (C : rCx) (Q : Int32 → rS → Prop)  (a1 : Int32) (a2 : Int32) (a3 : Int32) (s1 : Int32) (s2 : Int32) (σ : rS) : Prop :=
  inb s1 131074 ∧
  ∀ σ1, σ1 = riU σ 7 (s1).toNatClampNeg s2 →
  ((a3 - a2) ≤ (12 : Int32) →
    inb a1 131074 ∧
    ((σ1.2.2.1 7 (a1).toNatClampNeg) ≤ 0 →
      inb a1 131074 ∧
      ∀ σ2, σ2 = riU σ1 5 (a1).toNatClampNeg (vp_nar .byte ((1 : Int32)).toInt8.toInt32) →
      Q a3 σ2) ∧
    (¬ ((σ1.2.2.1 7 (a1).toNatClampNeg) ≤ 0) →
      inb a1 131074 ∧
      ∀ σ3, σ3 = riU σ1 5 (a1).toNatClampNeg (vp_nar .byte ((6 : Int32)).toInt8.toInt32) →
      Q a3 σ3)) ∧
  (¬ ((a3 - a2) ≤ (12 : Int32)) →
    inb a1 131074 ∧
    ∀ σ4, σ4 = riU σ1 5 (a1).toNatClampNeg (vp_nar .byte ((4 : Int32)).toInt8.toInt32) →
    Q a3 σ4)
theorem t_takeName_159 {C : rCx} (hC : cOK C) {Q : Int32 → rS → Prop}   {a1 : Int32} {a2 : Int32} {a3 : Int32} {s1 : Int32} {s2 : Int32} {σ : rS} (F : w_takeName_159 C Q  a1 a2 a3 s1 s2 σ) : wG C 3 m_takeName 159 [some (.ref (co C)), some (.int a1), some (.int a2), some (.int a3), none] [.int s2, .int s1, .ref (cad C 7)] σ (qI Q) := by
  unfold w_takeName_159 at F
  refine s_astb hC dX13_takeName_159 rt_7 F.1 (fun σ1 eσ1 => ?_)
  replace F := F.2 σ1 eσ1
  refine s_aln dX13_takeName_160 rfl ?_
  refine gf_19 dX13_takeName_161 rfl ?_
  refine s_iln dX13_takeName_164 rfl ?_
  refine s_iln dX13_takeName_165 rfl ?_
  refine s_iln dX13_takeName_166 rfl ?_
  refine s_isub dX13_takeName_167 ?_
  refine s_bi dX13_takeName_168 kb_12 ?_
  refine s_ii (t := 177) ((a3 - a2) ≤ (12 : Int32)) dX13_takeName_170 rfl rfl (fun hc => ?_) (fun hc => ?_)
  · replace F := F.1 hc
    refine s_aln dX13_takeName_177 rfl ?_
    refine gf_26 dX13_takeName_178 rfl ?_
    refine s_iln dX13_takeName_181 rfl ?_
    refine s_ald hC dX13_takeName_182 rt_7 F.1 ?_
    replace F := F.2
    refine s_i (t := 191) ((σ1.2.2.1 7 (a1).toNatClampNeg) ≤ 0) dX13_takeName_183 rfl rfl (fun hc => ?_) (fun hc => ?_)
    · replace F := F.1 hc
      refine s_ic dX13_takeName_191 ki_1 ?_
      refine s_i2b dX13_takeName_192 ?_
      refine s_bstb hC dX13_takeName_193 rt_5 F.1 (fun σ2 eσ2 => ?_)
      replace F := F.2 σ2 eσ2
      refine s_iln dX13_takeName_194 rfl ?_
      exact s_ri dX13_takeName_195 rfl in_nar F
    · replace F := F.2 hc
      refine s_bi dX13_takeName_186 kb_6 ?_
      refine s_goto (t := 192) dX13_takeName_188 rfl ?_
      refine s_i2b dX13_takeName_192 ?_
      refine s_bstb hC dX13_takeName_193 rt_5 F.1 (fun σ3 eσ3 => ?_)
      replace F := F.2 σ3 eσ3
      refine s_iln dX13_takeName_194 rfl ?_
      exact s_ri dX13_takeName_195 rfl in_nar F
  · replace F := F.2 hc
    refine s_ic dX13_takeName_173 ki_4 ?_
    refine s_goto (t := 192) dX13_takeName_174 rfl ?_
    refine s_i2b dX13_takeName_192 ?_
    refine s_bstb hC dX13_takeName_193 rt_5 F.1 (fun σ4 eσ4 => ?_)
    replace F := F.2 σ4 eσ4
    refine s_iln dX13_takeName_194 rfl ?_
    exact s_ri dX13_takeName_195 rfl in_nar F

def w_takeName_2 (C : rCx) (Q : Int32 → rS → Prop)  (a1 : Int32) (a2 : Int32) (a3 : Int32) (σ : rS) : Prop :=
  ∃ I : Nat → Int32 → Int32 → Int32 → rS → Prop, (∃ n, I n a1 a2 a3 σ) ∧ ∀ n a1 a2 a3 σ, I n a1 a2 a3 σ →
    cI C 0 m_byteAt [.ref (co C), .int a3] σ (fun r2 σ1 =>
      cI C 0 m_isLetter [.int r2] σ1 (fun r4 σ3 =>
        (¬ (r4 = 0) →
          w_takeName_24 C Q (fun a1' a2' a3' τ => ∃ k < n, I k a1' a2' a3' τ) a1 a2 a3 σ3) ∧
        (r4 = 0 →
          cI C 0 m_byteAt [.ref (co C), .int a3] σ3 (fun r6 σ5 =>
            cI C 0 m_isDigit [.int r6] σ5 (fun r8 σ7 =>
              (r8 = 0 →
                inb a1 131074 ∧
                (¬ ((σ7.2.2.1 9 (a1).toNatClampNeg) = 0) →
                  w_takeName_159 C Q  a1 a2 a3 a1 (0 : Int32) σ7) ∧
                ((σ7.2.2.1 9 (a1).toNatClampNeg) = 0 →
                  inb a1 131074 ∧
                  cI C 2 m_wordOf [.long (σ7.2.2.2 8 (a1).toNatClampNeg)] σ7 (fun r10 σ9 =>
                    w_takeName_159 C Q  a1 a2 a3 a1 r10 σ9))) ∧
              (¬ (r8 = 0) →
                w_takeName_24 C Q (fun a1' a2' a3' τ => ∃ k < n, I k a1' a2' a3' τ) a1 a2 a3 σ7))))))
theorem t_takeName_2 {C : rCx} (hC : cOK C) {Q : Int32 → rS → Prop}   {a1 : Int32} {a2 : Int32} {a3 : Int32} {σ : rS} (F : w_takeName_2 C Q  a1 a2 a3 σ) : wG C 3 m_takeName 2 [some (.ref (co C)), some (.int a1), some (.int a2), some (.int a3), none] [] σ (qI Q) := by
  obtain ⟨I, ⟨n0, hI0⟩, F0⟩ := F
  have key : ∀ n a1 a2 a3 σ, I n a1 a2 a3 σ → wG C 3 m_takeName 2 [some (.ref (co C)), some (.int a1), some (.int a2), some (.int a3), none] [] σ (qI Q) := by
    intro n
    induction n using Nat.strongRecOn with
    | _ n ih =>
      intro a1 a2 a3 σ hI
      have F := F0 n a1 a2 a3 σ hI
      clear hI hI0
      refine s_aln dX13_takeName_2 rfl ?_
      refine s_iln dX13_takeName_3 rfl ?_
      refine k_256 dX13_takeName_4 rfl (Nat.le_of_ble_eq_true rfl) (Nat.le_of_ble_eq_true rfl) F (fun r2 σ1 F => ?_)
      refine k_272 dX13_takeName_7 rfl (Nat.le_of_ble_eq_true rfl) (Nat.le_of_ble_eq_true rfl) F (fun r4 σ3 F => ?_)
      refine s_in (t := 24) (r4 = 0) dX13_takeName_10 rfl rfl (fun hc => ?_) (fun hc => ?_)
      · replace F := F.1 hc
        exact s_k (t_takeName_24 hC (fun a1' a2' a3' τ hb => by obtain ⟨k, hk, hI⟩ := hb; exact ih k hk a1' a2' a3' τ hI) F) ⟨rfl, rfl, rfl, rfl, trivial⟩
      · replace F := F.2 hc
        refine s_aln dX13_takeName_13 rfl ?_
        refine s_iln dX13_takeName_14 rfl ?_
        refine k_256 dX13_takeName_15 rfl (Nat.le_of_ble_eq_true rfl) (Nat.le_of_ble_eq_true rfl) F (fun r6 σ5 F => ?_)
        refine k_275 dX13_takeName_18 rfl (Nat.le_of_ble_eq_true rfl) (Nat.le_of_ble_eq_true rfl) F (fun r8 σ7 F => ?_)
        refine s_i (t := 132) (r8 = 0) dX13_takeName_21 rfl rfl (fun hc => ?_) (fun hc => ?_)
        · replace F := F.1 hc
          refine s_aln dX13_takeName_132 rfl ?_
          refine gf_26 dX13_takeName_133 rfl ?_
          refine s_iln dX13_takeName_136 rfl ?_
          refine s_aln dX13_takeName_137 rfl ?_
          refine gf_33 dX13_takeName_138 rfl ?_
          refine s_iln dX13_takeName_141 rfl ?_
          refine s_ald hC dX13_takeName_142 rt_9 F.1 ?_
          replace F := F.2
          refine s_in (t := 158) ((σ7.2.2.1 9 (a1).toNatClampNeg) = 0) dX13_takeName_143 rfl rfl (fun hc => ?_) (fun hc => ?_)
          · replace F := F.1 hc
            refine s_ic dX13_takeName_158 ki_0 ?_
            exact s_k (t_takeName_159 hC  F) ⟨rfl, rfl, rfl, rfl, trivial⟩
          · replace F := F.2 hc
            refine s_aln dX13_takeName_146 rfl ?_
            refine gf_29 dX13_takeName_147 rfl ?_
            refine s_iln dX13_takeName_150 rfl ?_
            refine s_lld hC dX13_takeName_151 rt_8 F.1 ?_
            replace F := F.2
            refine k_278 dX13_takeName_152 rfl (Nat.le_of_ble_eq_true rfl) (Nat.le_of_ble_eq_true rfl) F (fun r10 σ9 F => ?_)
            refine s_goto (t := 159) dX13_takeName_155 rfl ?_
            exact s_k (t_takeName_159 hC  F) ⟨rfl, rfl, rfl, rfl, trivial⟩
        · replace F := F.2 hc
          exact s_k (t_takeName_24 hC (fun a1' a2' a3' τ hb => by obtain ⟨k, hk, hI⟩ := hb; exact ih k hk a1' a2' a3' τ hI) F) ⟨rfl, rfl, rfl, rfl, trivial⟩
  exact key n0 a1 a2 a3 σ hI0

def w_takeName_0 (C : rCx) (Q : Int32 → rS → Prop)  (a1 : Int32) (a2 : Int32) (σ : rS) : Prop :=
  w_takeName_2 C Q  a1 a2 a2 σ
theorem t_takeName_0 {C : rCx} (hC : cOK C) {Q : Int32 → rS → Prop}   {a1 : Int32} {a2 : Int32} {σ : rS} (F : w_takeName_0 C Q  a1 a2 σ) : wG C 3 m_takeName 0 [some (.ref (co C)), some (.int a1), some (.int a2), none, none] [] σ (qI Q) := by
  unfold w_takeName_0 at F
  refine s_iln dX13_takeName_0 rfl ?_
  refine s_isn dX13_takeName_1 (Nat.le_of_ble_eq_true rfl) rfl ?_
  exact s_k (t_takeName_2 hC  F) ⟨rfl, rfl, rfl, rfl, trivial⟩

theorem m_takeName_run {C : rCx} (hC : cOK C) {Q : Int32 → rS → Prop} {a1 : Int32} {a2 : Int32} {σ : rS} (F : w_takeName_0 C Q a1 a2 σ) : cI C 3 m_takeName [.ref (co C), .int a1, .int a2] σ Q := m_I (m_ent _ 2) (t_takeName_0 hC F)

theorem dX13_take_0 : decode cX13_take 0 = .ok (.aload_n 0, 1) := by decide +kernel
theorem dX13_take_1 : decode cX13_take 1 = .ok (.getfield 281, 3) := by decide +kernel
theorem dX13_take_4 : decode cX13_take 4 = .ok (.aload_n 0, 1) := by decide +kernel
theorem dX13_take_5 : decode cX13_take 5 = .ok (.getfield 284, 3) := by decide +kernel
theorem dX13_take_8 : decode cX13_take 8 = .ok (.iadd, 1) := by decide +kernel
theorem dX13_take_9 : decode cX13_take 9 = .ok (.istore_n 2, 1) := by decide +kernel
theorem dX13_take_10 : decode cX13_take 10 = .ok (.aload_n 0, 1) := by decide +kernel
theorem dX13_take_11 : decode cX13_take 11 = .ok (.getfield 22, 3) := by decide +kernel
theorem dX13_take_14 : decode cX13_take 14 = .ok (.iload_n 2, 1) := by decide +kernel
theorem dX13_take_15 : decode cX13_take 15 = .ok (.iload_n 1, 1) := by decide +kernel
theorem dX13_take_16 : decode cX13_take 16 = .ok (.iastore, 1) := by decide +kernel
theorem dX13_take_17 : decode cX13_take 17 = .ok (.aload_n 0, 1) := by decide +kernel
theorem dX13_take_18 : decode cX13_take 18 = .ok (.getfield 26, 3) := by decide +kernel
theorem dX13_take_21 : decode cX13_take 21 = .ok (.iload_n 2, 1) := by decide +kernel
theorem dX13_take_22 : decode cX13_take 22 = .ok (.iconst 0, 1) := by decide +kernel
theorem dX13_take_23 : decode cX13_take 23 = .ok (.iastore, 1) := by decide +kernel
theorem dX13_take_24 : decode cX13_take 24 = .ok (.aload_n 0, 1) := by decide +kernel
theorem dX13_take_25 : decode cX13_take 25 = .ok (.getfield 29, 3) := by decide +kernel
theorem dX13_take_28 : decode cX13_take 28 = .ok (.iload_n 2, 1) := by decide +kernel
theorem dX13_take_29 : decode cX13_take 29 = .ok (.lconst 0, 1) := by decide +kernel
theorem dX13_take_30 : decode cX13_take 30 = .ok (.lastore, 1) := by decide +kernel
theorem dX13_take_31 : decode cX13_take 31 = .ok (.aload_n 0, 1) := by decide +kernel
theorem dX13_take_32 : decode cX13_take 32 = .ok (.getfield 33, 3) := by decide +kernel
theorem dX13_take_35 : decode cX13_take 35 = .ok (.iload_n 2, 1) := by decide +kernel
theorem dX13_take_36 : decode cX13_take 36 = .ok (.iconst 0, 1) := by decide +kernel
theorem dX13_take_37 : decode cX13_take 37 = .ok (.iastore, 1) := by decide +kernel
theorem dX13_take_38 : decode cX13_take 38 = .ok (.aload_n 0, 1) := by decide +kernel
theorem dX13_take_39 : decode cX13_take 39 = .ok (.iload_n 1, 1) := by decide +kernel
theorem dX13_take_40 : decode cX13_take 40 = .ok (.invokevirtual 256, 3) := by decide +kernel
theorem dX13_take_43 : decode cX13_take 43 = .ok (.istore_n 3, 1) := by decide +kernel
theorem dX13_take_44 : decode cX13_take 44 = .ok (.iload_n 3, 1) := by decide +kernel
theorem dX13_take_45 : decode cX13_take 45 = .ok (.invokestatic 272, 3) := by decide +kernel
theorem dX13_take_48 : decode cX13_take 48 = .ok (.ifCond .eq 10, 3) := by decide +kernel
theorem dX13_take_51 : decode cX13_take 51 = .ok (.aload_n 0, 1) := by decide +kernel
theorem dX13_take_52 : decode cX13_take 52 = .ok (.iload_n 2, 1) := by decide +kernel
theorem dX13_take_53 : decode cX13_take 53 = .ok (.iload_n 1, 1) := by decide +kernel
theorem dX13_take_54 : decode cX13_take 54 = .ok (.invokevirtual 287, 3) := by decide +kernel
theorem dX13_take_57 : decode cX13_take 57 = .ok (.ireturn, 1) := by decide +kernel
theorem dX13_take_58 : decode cX13_take 58 = .ok (.iload_n 3, 1) := by decide +kernel
theorem dX13_take_59 : decode cX13_take 59 = .ok (.invokestatic 275, 3) := by decide +kernel
theorem dX13_take_62 : decode cX13_take 62 = .ok (.ifCond .eq 91, 3) := by decide +kernel
theorem dX13_take_65 : decode cX13_take 65 = .ok (.iload_n 1, 1) := by decide +kernel
theorem dX13_take_66 : decode cX13_take 66 = .ok (.istore 4, 2) := by decide +kernel
theorem dX13_take_68 : decode cX13_take 68 = .ok (.aload_n 0, 1) := by decide +kernel
theorem dX13_take_69 : decode cX13_take 69 = .ok (.iload 4, 2) := by decide +kernel
theorem dX13_take_71 : decode cX13_take 71 = .ok (.invokevirtual 256, 3) := by decide +kernel
theorem dX13_take_74 : decode cX13_take 74 = .ok (.invokestatic 275, 3) := by decide +kernel
theorem dX13_take_77 : decode cX13_take 77 = .ok (.ifCond .eq 52, 3) := by decide +kernel
theorem dX13_take_80 : decode cX13_take 80 = .ok (.aload_n 0, 1) := by decide +kernel
theorem dX13_take_81 : decode cX13_take 81 = .ok (.getfield 26, 3) := by decide +kernel
theorem dX13_take_84 : decode cX13_take 84 = .ok (.iload_n 2, 1) := by decide +kernel
theorem dX13_take_85 : decode cX13_take 85 = .ok (.iload 4, 2) := by decide +kernel
theorem dX13_take_87 : decode cX13_take 87 = .ok (.iload_n 1, 1) := by decide +kernel
theorem dX13_take_88 : decode cX13_take 88 = .ok (.isub, 1) := by decide +kernel
theorem dX13_take_89 : decode cX13_take 89 = .ok (.bipush 9, 2) := by decide +kernel
theorem dX13_take_91 : decode cX13_take 91 = .ok (.if_icmp .ge 25, 3) := by decide +kernel
theorem dX13_take_94 : decode cX13_take 94 = .ok (.bipush 10, 2) := by decide +kernel
theorem dX13_take_96 : decode cX13_take 96 = .ok (.aload_n 0, 1) := by decide +kernel
theorem dX13_take_97 : decode cX13_take 97 = .ok (.getfield 26, 3) := by decide +kernel
theorem dX13_take_100 : decode cX13_take 100 = .ok (.iload_n 2, 1) := by decide +kernel
theorem dX13_take_101 : decode cX13_take 101 = .ok (.iaload, 1) := by decide +kernel
theorem dX13_take_102 : decode cX13_take 102 = .ok (.imul, 1) := by decide +kernel
theorem dX13_take_103 : decode cX13_take 103 = .ok (.aload_n 0, 1) := by decide +kernel
theorem dX13_take_104 : decode cX13_take 104 = .ok (.iload 4, 2) := by decide +kernel
theorem dX13_take_106 : decode cX13_take 106 = .ok (.invokevirtual 256, 3) := by decide +kernel
theorem dX13_take_109 : decode cX13_take 109 = .ok (.iadd, 1) := by decide +kernel
theorem dX13_take_110 : decode cX13_take 110 = .ok (.bipush 48, 2) := by decide +kernel
theorem dX13_take_112 : decode cX13_take 112 = .ok (.isub, 1) := by decide +kernel
theorem dX13_take_113 : decode cX13_take 113 = .ok (.goto 9, 3) := by decide +kernel
theorem dX13_take_116 : decode cX13_take 116 = .ok (.aload_n 0, 1) := by decide +kernel
theorem dX13_take_117 : decode cX13_take 117 = .ok (.getfield 26, 3) := by decide +kernel
theorem dX13_take_120 : decode cX13_take 120 = .ok (.iload_n 2, 1) := by decide +kernel
theorem dX13_take_121 : decode cX13_take 121 = .ok (.iaload, 1) := by decide +kernel
theorem dX13_take_122 : decode cX13_take 122 = .ok (.iastore, 1) := by decide +kernel
theorem dX13_take_123 : decode cX13_take 123 = .ok (.iinc 4 1, 3) := by decide +kernel
theorem dX13_take_126 : decode cX13_take 126 = .ok (.goto (-58), 3) := by decide +kernel
theorem dX13_take_129 : decode cX13_take 129 = .ok (.aload_n 0, 1) := by decide +kernel
theorem dX13_take_130 : decode cX13_take 130 = .ok (.getfield 19, 3) := by decide +kernel
theorem dX13_take_133 : decode cX13_take 133 = .ok (.iload_n 2, 1) := by decide +kernel
theorem dX13_take_134 : decode cX13_take 134 = .ok (.iload 4, 2) := by decide +kernel
theorem dX13_take_136 : decode cX13_take 136 = .ok (.iload_n 1, 1) := by decide +kernel
theorem dX13_take_137 : decode cX13_take 137 = .ok (.isub, 1) := by decide +kernel
theorem dX13_take_138 : decode cX13_take 138 = .ok (.bipush 9, 2) := by decide +kernel
theorem dX13_take_140 : decode cX13_take 140 = .ok (.if_icmp .le 7, 3) := by decide +kernel
theorem dX13_take_143 : decode cX13_take 143 = .ok (.iconst 4, 1) := by decide +kernel
theorem dX13_take_144 : decode cX13_take 144 = .ok (.goto 4, 3) := by decide +kernel
theorem dX13_take_147 : decode cX13_take 147 = .ok (.iconst 2, 1) := by decide +kernel
theorem dX13_take_148 : decode cX13_take 148 = .ok (.i2b, 1) := by decide +kernel
theorem dX13_take_149 : decode cX13_take 149 = .ok (.bastore, 1) := by decide +kernel
theorem dX13_take_150 : decode cX13_take 150 = .ok (.iload 4, 2) := by decide +kernel
theorem dX13_take_152 : decode cX13_take 152 = .ok (.ireturn, 1) := by decide +kernel
theorem dX13_take_153 : decode cX13_take 153 = .ok (.aload_n 0, 1) := by decide +kernel
theorem dX13_take_154 : decode cX13_take 154 = .ok (.iload_n 1, 1) := by decide +kernel
theorem dX13_take_155 : decode cX13_take 155 = .ok (.iconst 1, 1) := by decide +kernel
theorem dX13_take_156 : decode cX13_take 156 = .ok (.iadd, 1) := by decide +kernel
theorem dX13_take_157 : decode cX13_take 157 = .ok (.invokevirtual 256, 3) := by decide +kernel
theorem dX13_take_160 : decode cX13_take 160 = .ok (.bipush 61, 2) := by decide +kernel
theorem dX13_take_162 : decode cX13_take 162 = .ok (.if_icmp .ne 31, 3) := by decide +kernel
theorem dX13_take_165 : decode cX13_take 165 = .ok (.iload_n 3, 1) := by decide +kernel
theorem dX13_take_166 : decode cX13_take 166 = .ok (.bipush 61, 2) := by decide +kernel
theorem dX13_take_168 : decode cX13_take 168 = .ok (.if_icmp .eq 21, 3) := by decide +kernel
theorem dX13_take_171 : decode cX13_take 171 = .ok (.iload_n 3, 1) := by decide +kernel
theorem dX13_take_172 : decode cX13_take 172 = .ok (.bipush 33, 2) := by decide +kernel
theorem dX13_take_174 : decode cX13_take 174 = .ok (.if_icmp .eq 15, 3) := by decide +kernel
theorem dX13_take_177 : decode cX13_take 177 = .ok (.iload_n 3, 1) := by decide +kernel
theorem dX13_take_178 : decode cX13_take 178 = .ok (.bipush 60, 2) := by decide +kernel
theorem dX13_take_180 : decode cX13_take 180 = .ok (.if_icmp .eq 9, 3) := by decide +kernel
theorem dX13_take_183 : decode cX13_take 183 = .ok (.iload_n 3, 1) := by decide +kernel
theorem dX13_take_184 : decode cX13_take 184 = .ok (.bipush 62, 2) := by decide +kernel
theorem dX13_take_186 : decode cX13_take 186 = .ok (.if_icmp .ne 7, 3) := by decide +kernel
theorem dX13_take_189 : decode cX13_take 189 = .ok (.iconst 1, 1) := by decide +kernel
theorem dX13_take_190 : decode cX13_take 190 = .ok (.goto 4, 3) := by decide +kernel
theorem dX13_take_193 : decode cX13_take 193 = .ok (.iconst 0, 1) := by decide +kernel
theorem dX13_take_194 : decode cX13_take 194 = .ok (.istore 4, 2) := by decide +kernel
theorem dX13_take_196 : decode cX13_take 196 = .ok (.aload_n 0, 1) := by decide +kernel
theorem dX13_take_197 : decode cX13_take 197 = .ok (.getfield 19, 3) := by decide +kernel
theorem dX13_take_200 : decode cX13_take 200 = .ok (.iload_n 2, 1) := by decide +kernel
theorem dX13_take_201 : decode cX13_take 201 = .ok (.iload_n 3, 1) := by decide +kernel
theorem dX13_take_202 : decode cX13_take 202 = .ok (.invokestatic 291, 3) := by decide +kernel
theorem dX13_take_205 : decode cX13_take 205 = .ok (.ifCond .eq 7, 3) := by decide +kernel
theorem dX13_take_208 : decode cX13_take 208 = .ok (.iconst 3, 1) := by decide +kernel
theorem dX13_take_209 : decode cX13_take 209 = .ok (.goto 4, 3) := by decide +kernel
theorem dX13_take_212 : decode cX13_take 212 = .ok (.iconst 4, 1) := by decide +kernel
theorem dX13_take_213 : decode cX13_take 213 = .ok (.i2b, 1) := by decide +kernel
theorem dX13_take_214 : decode cX13_take 214 = .ok (.bastore, 1) := by decide +kernel
theorem dX13_take_215 : decode cX13_take 215 = .ok (.aload_n 0, 1) := by decide +kernel
theorem dX13_take_216 : decode cX13_take 216 = .ok (.getfield 26, 3) := by decide +kernel
theorem dX13_take_219 : decode cX13_take 219 = .ok (.iload_n 2, 1) := by decide +kernel
theorem dX13_take_220 : decode cX13_take 220 = .ok (.iload 4, 2) := by decide +kernel
theorem dX13_take_222 : decode cX13_take 222 = .ok (.ifCond .ne 7, 3) := by decide +kernel
theorem dX13_take_225 : decode cX13_take 225 = .ok (.iload_n 3, 1) := by decide +kernel
theorem dX13_take_226 : decode cX13_take 226 = .ok (.goto 42, 3) := by decide +kernel
theorem dX13_take_229 : decode cX13_take 229 = .ok (.iload_n 3, 1) := by decide +kernel
theorem dX13_take_230 : decode cX13_take 230 = .ok (.bipush 61, 2) := by decide +kernel
theorem dX13_take_232 : decode cX13_take 232 = .ok (.if_icmp .ne 9, 3) := by decide +kernel
theorem dX13_take_235 : decode cX13_take 235 = .ok (.sipush 256, 3) := by decide +kernel
theorem dX13_take_238 : decode cX13_take 238 = .ok (.goto 30, 3) := by decide +kernel
theorem dX13_take_241 : decode cX13_take 241 = .ok (.iload_n 3, 1) := by decide +kernel
theorem dX13_take_242 : decode cX13_take 242 = .ok (.bipush 33, 2) := by decide +kernel
theorem dX13_take_244 : decode cX13_take 244 = .ok (.if_icmp .ne 9, 3) := by decide +kernel
theorem dX13_take_247 : decode cX13_take 247 = .ok (.sipush 257, 3) := by decide +kernel
theorem dX13_take_250 : decode cX13_take 250 = .ok (.goto 18, 3) := by decide +kernel
theorem dX13_take_253 : decode cX13_take 253 = .ok (.iload_n 3, 1) := by decide +kernel
theorem dX13_take_254 : decode cX13_take 254 = .ok (.bipush 60, 2) := by decide +kernel
theorem dX13_take_256 : decode cX13_take 256 = .ok (.if_icmp .ne 9, 3) := by decide +kernel
theorem dX13_take_259 : decode cX13_take 259 = .ok (.sipush 258, 3) := by decide +kernel
theorem dX13_take_262 : decode cX13_take 262 = .ok (.goto 6, 3) := by decide +kernel
theorem dX13_take_265 : decode cX13_take 265 = .ok (.sipush 259, 3) := by decide +kernel
theorem dX13_take_268 : decode cX13_take 268 = .ok (.iastore, 1) := by decide +kernel
theorem dX13_take_269 : decode cX13_take 269 = .ok (.iload_n 1, 1) := by decide +kernel
theorem dX13_take_270 : decode cX13_take 270 = .ok (.iload 4, 2) := by decide +kernel
theorem dX13_take_272 : decode cX13_take 272 = .ok (.ifCond .eq 7, 3) := by decide +kernel
theorem dX13_take_275 : decode cX13_take 275 = .ok (.iconst 2, 1) := by decide +kernel
theorem dX13_take_276 : decode cX13_take 276 = .ok (.goto 4, 3) := by decide +kernel
theorem dX13_take_279 : decode cX13_take 279 = .ok (.iconst 1, 1) := by decide +kernel
theorem dX13_take_280 : decode cX13_take 280 = .ok (.iadd, 1) := by decide +kernel
theorem dX13_take_281 : decode cX13_take 281 = .ok (.ireturn, 1) := by decide +kernel
def w_take_122 (C : rCx) (Q : Int32 → rS → Prop) (B68 : Int32 → Int32 → Int32 → rS → Prop) (a1 : Int32) (a2 : Int32) (a4 : Int32) (s1 : Int32) (s2 : Int32) (σ : rS) : Prop :=
  inb s1 131074 ∧
  ∀ σ1, σ1 = riU σ 7 (s1).toNatClampNeg s2 →
  ∀ v4_2 : Int32, v4_2 = a4 + (1 : Int32) →
  B68 a1 a2 v4_2 σ1
theorem t_take_122 {C : rCx} (hC : cOK C) {Q : Int32 → rS → Prop} {B68 : Int32 → Int32 → Int32 → rS → Prop} (hB68 : ∀ a1' a2' a4' τ, B68 a1' a2' a4' τ → wG C 4 m_take 68 [some (.ref (co C)), some (.int a1'), some (.int a2'), none, some (.int a4')] [] τ (qI Q)) {a1 : Int32} {a2 : Int32} {a4 : Int32} {s1 : Int32} {s2 : Int32} {σ : rS} (F : w_take_122 C Q B68 a1 a2 a4 s1 s2 σ) : wG C 4 m_take 122 [some (.ref (co C)), some (.int a1), some (.int a2), none, some (.int a4)] [.int s2, .int s1, .ref (cad C 7)] σ (qI Q) := by
  unfold w_take_122 at F
  refine s_astb hC dX13_take_122 rt_7 F.1 (fun σ1 eσ1 => ?_)
  replace F := F.2 σ1 eσ1
  refine s_incb dX13_take_123 ki_1 rfl (Nat.le_of_ble_eq_true rfl) (fun v4_2 ev4_2 => ?_)
  replace F := F v4_2 ev4_2
  refine s_goto (t := 68) dX13_take_126 rfl ?_
  exact s_k (hB68 _ _ _ _ F) ⟨rfl, rfl, rfl, rfl, trivial⟩

def w_take_68 (C : rCx) (Q : Int32 → rS → Prop)  (a1 : Int32) (a2 : Int32) (a4 : Int32) (σ : rS) : Prop :=
  ∃ I : Nat → Int32 → Int32 → Int32 → rS → Prop, (∃ n, I n a1 a2 a4 σ) ∧ ∀ n a1 a2 a4 σ, I n a1 a2 a4 σ →
    cI C 0 m_byteAt [.ref (co C), .int a4] σ (fun r2 σ1 =>
      cI C 0 m_isDigit [.int r2] σ1 (fun r4 σ3 =>
        (r4 = 0 →
          ((a4 - a1) ≤ (9 : Int32) →
            inb a2 131074 ∧
            ∀ σ5, σ5 = riU σ3 5 (a2).toNatClampNeg (vp_nar .byte ((2 : Int32)).toInt8.toInt32) →
            Q a4 σ5) ∧
          (¬ ((a4 - a1) ≤ (9 : Int32)) →
            inb a2 131074 ∧
            ∀ σ6, σ6 = riU σ3 5 (a2).toNatClampNeg (vp_nar .byte ((4 : Int32)).toInt8.toInt32) →
            Q a4 σ6)) ∧
        (¬ (r4 = 0) →
          ((9 : Int32) ≤ (a4 - a1) →
            inb a2 131074 ∧
            w_take_122 C Q (fun a1' a2' a4' τ => ∃ k < n, I k a1' a2' a4' τ) a1 a2 a4 a2 (σ3.2.2.1 7 (a2).toNatClampNeg) σ3) ∧
          (¬ ((9 : Int32) ≤ (a4 - a1)) →
            inb a2 131074 ∧
            cI C 0 m_byteAt [.ref (co C), .int a4] σ3 (fun r8 σ7 =>
              w_take_122 C Q (fun a1' a2' a4' τ => ∃ k < n, I k a1' a2' a4' τ) a1 a2 a4 a2 ((((10 : Int32) * (σ3.2.2.1 7 (a2).toNatClampNeg)) + r8) - (48 : Int32)) σ7)))))
theorem t_take_68 {C : rCx} (hC : cOK C) {Q : Int32 → rS → Prop}   {a1 : Int32} {a2 : Int32} {a4 : Int32} {σ : rS} (F : w_take_68 C Q  a1 a2 a4 σ) : wG C 4 m_take 68 [some (.ref (co C)), some (.int a1), some (.int a2), none, some (.int a4)] [] σ (qI Q) := by
  obtain ⟨I, ⟨n0, hI0⟩, F0⟩ := F
  have key : ∀ n a1 a2 a4 σ, I n a1 a2 a4 σ → wG C 4 m_take 68 [some (.ref (co C)), some (.int a1), some (.int a2), none, some (.int a4)] [] σ (qI Q) := by
    intro n
    induction n using Nat.strongRecOn with
    | _ n ih =>
      intro a1 a2 a4 σ hI
      have F := F0 n a1 a2 a4 σ hI
      clear hI hI0
      refine s_aln dX13_take_68 rfl ?_
      refine s_il dX13_take_69 rfl ?_
      refine k_256 dX13_take_71 rfl (Nat.le_of_ble_eq_true rfl) (Nat.le_of_ble_eq_true rfl) F (fun r2 σ1 F => ?_)
      refine k_275 dX13_take_74 rfl (Nat.le_of_ble_eq_true rfl) (Nat.le_of_ble_eq_true rfl) F (fun r4 σ3 F => ?_)
      refine s_i (t := 129) (r4 = 0) dX13_take_77 rfl rfl (fun hc => ?_) (fun hc => ?_)
      · replace F := F.1 hc
        refine s_aln dX13_take_129 rfl ?_
        refine gf_19 dX13_take_130 rfl ?_
        refine s_iln dX13_take_133 rfl ?_
        refine s_il dX13_take_134 rfl ?_
        refine s_iln dX13_take_136 rfl ?_
        refine s_isub dX13_take_137 ?_
        refine s_bi dX13_take_138 kb_9 ?_
        refine s_ii (t := 147) ((a4 - a1) ≤ (9 : Int32)) dX13_take_140 rfl rfl (fun hc => ?_) (fun hc => ?_)
        · replace F := F.1 hc
          refine s_ic dX13_take_147 ki_2 ?_
          refine s_i2b dX13_take_148 ?_
          refine s_bstb hC dX13_take_149 rt_5 F.1 (fun σ5 eσ5 => ?_)
          replace F := F.2 σ5 eσ5
          refine s_il dX13_take_150 rfl ?_
          exact s_ri dX13_take_152 rfl in_nar F
        · replace F := F.2 hc
          refine s_ic dX13_take_143 ki_4 ?_
          refine s_goto (t := 148) dX13_take_144 rfl ?_
          refine s_i2b dX13_take_148 ?_
          refine s_bstb hC dX13_take_149 rt_5 F.1 (fun σ6 eσ6 => ?_)
          replace F := F.2 σ6 eσ6
          refine s_il dX13_take_150 rfl ?_
          exact s_ri dX13_take_152 rfl in_nar F
      · replace F := F.2 hc
        refine s_aln dX13_take_80 rfl ?_
        refine gf_26 dX13_take_81 rfl ?_
        refine s_iln dX13_take_84 rfl ?_
        refine s_il dX13_take_85 rfl ?_
        refine s_iln dX13_take_87 rfl ?_
        refine s_isub dX13_take_88 ?_
        refine s_bi dX13_take_89 kb_9 ?_
        refine s_ii (t := 116) ((9 : Int32) ≤ (a4 - a1)) dX13_take_91 rfl rfl (fun hc => ?_) (fun hc => ?_)
        · replace F := F.1 hc
          refine s_aln dX13_take_116 rfl ?_
          refine gf_26 dX13_take_117 rfl ?_
          refine s_iln dX13_take_120 rfl ?_
          refine s_ald hC dX13_take_121 rt_7 F.1 ?_
          replace F := F.2
          exact s_k (t_take_122 hC (fun a1' a2' a4' τ hb => by obtain ⟨k, hk, hI⟩ := hb; exact ih k hk a1' a2' a4' τ hI) F) ⟨rfl, rfl, rfl, rfl, trivial⟩
        · replace F := F.2 hc
          refine s_bi dX13_take_94 kb_10 ?_
          refine s_aln dX13_take_96 rfl ?_
          refine gf_26 dX13_take_97 rfl ?_
          refine s_iln dX13_take_100 rfl ?_
          refine s_ald hC dX13_take_101 rt_7 F.1 ?_
          replace F := F.2
          refine s_imul dX13_take_102 ?_
          refine s_aln dX13_take_103 rfl ?_
          refine s_il dX13_take_104 rfl ?_
          refine k_256 dX13_take_106 rfl (Nat.le_of_ble_eq_true rfl) (Nat.le_of_ble_eq_true rfl) F (fun r8 σ7 F => ?_)
          refine s_iadd dX13_take_109 ?_
          refine s_bi dX13_take_110 kb_48 ?_
          refine s_isub dX13_take_112 ?_
          refine s_goto (t := 122) dX13_take_113 rfl ?_
          exact s_k (t_take_122 hC (fun a1' a2' a4' τ hb => by obtain ⟨k, hk, hI⟩ := hb; exact ih k hk a1' a2' a4' τ hI) F) ⟨rfl, rfl, rfl, rfl, trivial⟩
  exact key n0 a1 a2 a4 σ hI0

def w_take_268 (C : rCx) (Q : Int32 → rS → Prop)  (a1 : Int32) (a4 : Int32) (s1 : Int32) (s2 : Int32) (σ : rS) : Prop :=
  inb s1 131074 ∧
  ∀ σ1, σ1 = riU σ 7 (s1).toNatClampNeg s2 →
  (a4 = 0 →
    Q (a1 + (1 : Int32)) σ1) ∧
  (¬ (a4 = 0) →
    Q (a1 + (2 : Int32)) σ1)
theorem t_take_268 {C : rCx} (hC : cOK C) {Q : Int32 → rS → Prop}   {a1 : Int32} {a4 : Int32} {s1 : Int32} {s2 : Int32} {σ : rS} (F : w_take_268 C Q  a1 a4 s1 s2 σ) : wG C 4 m_take 268 [some (.ref (co C)), some (.int a1), none, none, some (.int a4)] [.int s2, .int s1, .ref (cad C 7)] σ (qI Q) := by
  unfold w_take_268 at F
  refine s_astb hC dX13_take_268 rt_7 F.1 (fun σ1 eσ1 => ?_)
  replace F := F.2 σ1 eσ1
  refine s_iln dX13_take_269 rfl ?_
  refine s_il dX13_take_270 rfl ?_
  refine s_i (t := 279) (a4 = 0) dX13_take_272 rfl rfl (fun hc => ?_) (fun hc => ?_)
  · replace F := F.1 hc
    refine s_ic dX13_take_279 ki_1 ?_
    refine s_iadd dX13_take_280 ?_
    exact s_ri dX13_take_281 rfl in_nar F
  · replace F := F.2 hc
    refine s_ic dX13_take_275 ki_2 ?_
    refine s_goto (t := 280) dX13_take_276 rfl ?_
    refine s_iadd dX13_take_280 ?_
    exact s_ri dX13_take_281 rfl in_nar F

def w_take_213 (C : rCx) (Q : Int32 → rS → Prop)  (a1 : Int32) (a2 : Int32) (a3 : Int32) (a4 : Int32) (s1 : Int32) (s2 : Int32) (σ : rS) : Prop :=
  inb s1 131074 ∧
  ∀ σ1, σ1 = riU σ 5 (s1).toNatClampNeg (vp_nar .byte (s2).toInt8.toInt32) →
  (¬ (a4 = 0) →
    (¬ (a3 = (61 : Int32)) →
      (¬ (a3 = (33 : Int32)) →
        (¬ (a3 = (60 : Int32)) →
          w_take_268 C Q  a1 a4 a2 (259 : Int32) σ1) ∧
        (a3 = (60 : Int32) →
          w_take_268 C Q  a1 a4 a2 (258 : Int32) σ1)) ∧
      (a3 = (33 : Int32) →
        w_take_268 C Q  a1 a4 a2 (257 : Int32) σ1)) ∧
    (a3 = (61 : Int32) →
      w_take_268 C Q  a1 a4 a2 (256 : Int32) σ1)) ∧
  (a4 = 0 →
    w_take_268 C Q  a1 a4 a2 a3 σ1)
theorem t_take_213 {C : rCx} (hC : cOK C) {Q : Int32 → rS → Prop}   {a1 : Int32} {a2 : Int32} {a3 : Int32} {a4 : Int32} {s1 : Int32} {s2 : Int32} {σ : rS} (F : w_take_213 C Q  a1 a2 a3 a4 s1 s2 σ) : wG C 4 m_take 213 [some (.ref (co C)), some (.int a1), some (.int a2), some (.int a3), some (.int a4)] [.int s2, .int s1, .ref (cad C 5)] σ (qI Q) := by
  unfold w_take_213 at F
  refine s_i2b dX13_take_213 ?_
  refine s_bstb hC dX13_take_214 rt_5 F.1 (fun σ1 eσ1 => ?_)
  replace F := F.2 σ1 eσ1
  refine s_aln dX13_take_215 rfl ?_
  refine gf_26 dX13_take_216 rfl ?_
  refine s_iln dX13_take_219 rfl ?_
  refine s_il dX13_take_220 rfl ?_
  refine s_in (t := 229) (a4 = 0) dX13_take_222 rfl rfl (fun hc => ?_) (fun hc => ?_)
  · replace F := F.1 hc
    refine s_iln dX13_take_229 rfl ?_
    refine s_bi dX13_take_230 kb_61 ?_
    refine s_iin (t := 241) (a3 = (61 : Int32)) dX13_take_232 rfl rfl (fun hc => ?_) (fun hc => ?_)
    · replace F := F.1 hc
      refine s_iln dX13_take_241 rfl ?_
      refine s_bi dX13_take_242 kb_33 ?_
      refine s_iin (t := 253) (a3 = (33 : Int32)) dX13_take_244 rfl rfl (fun hc => ?_) (fun hc => ?_)
      · replace F := F.1 hc
        refine s_iln dX13_take_253 rfl ?_
        refine s_bi dX13_take_254 kb_60 ?_
        refine s_iin (t := 265) (a3 = (60 : Int32)) dX13_take_256 rfl rfl (fun hc => ?_) (fun hc => ?_)
        · replace F := F.1 hc
          refine s_si dX13_take_265 ks_259 ?_
          exact s_k (t_take_268 hC  F) ⟨rfl, rfl, rfl, trivial⟩
        · replace F := F.2 hc
          refine s_si dX13_take_259 ks_258 ?_
          refine s_goto (t := 268) dX13_take_262 rfl ?_
          exact s_k (t_take_268 hC  F) ⟨rfl, rfl, rfl, trivial⟩
      · replace F := F.2 hc
        refine s_si dX13_take_247 ks_257 ?_
        refine s_goto (t := 268) dX13_take_250 rfl ?_
        exact s_k (t_take_268 hC  F) ⟨rfl, rfl, rfl, trivial⟩
    · replace F := F.2 hc
      refine s_si dX13_take_235 ks_256 ?_
      refine s_goto (t := 268) dX13_take_238 rfl ?_
      exact s_k (t_take_268 hC  F) ⟨rfl, rfl, rfl, trivial⟩
  · replace F := F.2 hc
    refine s_iln dX13_take_225 rfl ?_
    refine s_goto (t := 268) dX13_take_226 rfl ?_
    exact s_k (t_take_268 hC  F) ⟨rfl, rfl, rfl, trivial⟩

def w_take_194 (C : rCx) (Q : Int32 → rS → Prop)  (a1 : Int32) (a2 : Int32) (a3 : Int32) (s0 : Int32) (σ : rS) : Prop :=
  cI C 0 m_isSign [.int a3] σ (fun r2 σ1 =>
    (r2 = 0 →
      w_take_213 C Q  a1 a2 a3 s0 a2 (4 : Int32) σ1) ∧
    (¬ (r2 = 0) →
      w_take_213 C Q  a1 a2 a3 s0 a2 (3 : Int32) σ1))
theorem t_take_194 {C : rCx} (hC : cOK C) {Q : Int32 → rS → Prop}   {a1 : Int32} {a2 : Int32} {a3 : Int32} {s0 : Int32} {σ : rS} (F : w_take_194 C Q  a1 a2 a3 s0 σ) : wG C 4 m_take 194 [some (.ref (co C)), some (.int a1), some (.int a2), some (.int a3), none] [.int s0] σ (qI Q) := by
  unfold w_take_194 at F
  refine s_is dX13_take_194 (Nat.le_of_ble_eq_true rfl) rfl ?_
  refine s_aln dX13_take_196 rfl ?_
  refine gf_19 dX13_take_197 rfl ?_
  refine s_iln dX13_take_200 rfl ?_
  refine s_iln dX13_take_201 rfl ?_
  refine k_291 dX13_take_202 rfl (Nat.le_of_ble_eq_true rfl) (Nat.le_of_ble_eq_true rfl) F (fun r2 σ1 F => ?_)
  refine s_i (t := 212) (r2 = 0) dX13_take_205 rfl rfl (fun hc => ?_) (fun hc => ?_)
  · replace F := F.1 hc
    refine s_ic dX13_take_212 ki_4 ?_
    exact s_k (t_take_213 hC  F) ⟨rfl, rfl, rfl, rfl, rfl, trivial⟩
  · replace F := F.2 hc
    refine s_ic dX13_take_208 ki_3 ?_
    refine s_goto (t := 213) dX13_take_209 rfl ?_
    exact s_k (t_take_213 hC  F) ⟨rfl, rfl, rfl, rfl, rfl, trivial⟩

def w_take_0 (C : rCx) (Q : Int32 → rS → Prop)  (a1 : Int32) (σ : rS) : Prop :=
  ∀ v2_1 : Int32, v2_1 = ((σ.1 3) + (σ.1 4)) →
  inb v2_1 131074 ∧
  ∀ σ2, σ2 = riU σ 6 (v2_1).toNatClampNeg a1 →
  inb v2_1 131074 ∧
  ∀ σ3, σ3 = riU σ2 7 (v2_1).toNatClampNeg (0 : Int32) →
  inb v2_1 131074 ∧
  ∀ σ4, σ4 = rlU σ3 8 (v2_1).toNatClampNeg (0 : Int64) →
  inb v2_1 131074 ∧
  ∀ σ5, σ5 = riU σ4 9 (v2_1).toNatClampNeg (0 : Int32) →
  cI C 0 m_byteAt [.ref (co C), .int a1] σ5 (fun r7 σ6 =>
    cI C 0 m_isLetter [.int r7] σ6 (fun r9 σ8 =>
      (r9 = 0 →
        cI C 0 m_isDigit [.int r7] σ8 (fun r11 σ10 =>
          (r11 = 0 →
            cI C 0 m_byteAt [.ref (co C), .int (a1 + (1 : Int32))] σ10 (fun r13 σ12 =>
              (¬ (r13 = (61 : Int32)) →
                w_take_194 C Q  a1 v2_1 r7 (0 : Int32) σ12) ∧
              (r13 = (61 : Int32) →
                (r7 = (61 : Int32) →
                  w_take_194 C Q  a1 v2_1 r7 (1 : Int32) σ12) ∧
                (¬ (r7 = (61 : Int32)) →
                  (r7 = (33 : Int32) →
                    w_take_194 C Q  a1 v2_1 r7 (1 : Int32) σ12) ∧
                  (¬ (r7 = (33 : Int32)) →
                    (r7 = (60 : Int32) →
                      w_take_194 C Q  a1 v2_1 r7 (1 : Int32) σ12) ∧
                    (¬ (r7 = (60 : Int32)) →
                      (¬ (r7 = (62 : Int32)) →
                        w_take_194 C Q  a1 v2_1 r7 (0 : Int32) σ12) ∧
                      (r7 = (62 : Int32) →
                        w_take_194 C Q  a1 v2_1 r7 (1 : Int32) σ12))))))) ∧
          (¬ (r11 = 0) →
            w_take_68 C Q  a1 v2_1 a1 σ10))) ∧
      (¬ (r9 = 0) →
        cI C 3 m_takeName [.ref (co C), .int v2_1, .int a1] σ8 (fun r15 σ14 =>
          Q r15 σ14))))
theorem t_take_0 {C : rCx} (hC : cOK C) {Q : Int32 → rS → Prop}   {a1 : Int32} {σ : rS} (F : w_take_0 C Q  a1 σ) : wG C 4 m_take 0 [some (.ref (co C)), some (.int a1), none, none, none] [] σ (qI Q) := by
  unfold w_take_0 at F
  refine s_aln dX13_take_0 rfl ?_
  refine gf_281 dX13_take_1 rfl ?_
  refine s_aln dX13_take_4 rfl ?_
  refine gf_284 dX13_take_5 rfl ?_
  refine s_iadd dX13_take_8 ?_
  refine s_isnb dX13_take_9 (Nat.le_of_ble_eq_true rfl) (fun v2_1 ev2_1 => ?_)
  replace F := F v2_1 ev2_1
  refine s_aln dX13_take_10 rfl ?_
  refine gf_22 dX13_take_11 rfl ?_
  refine s_iln dX13_take_14 rfl ?_
  refine s_iln dX13_take_15 rfl ?_
  refine s_astb hC dX13_take_16 rt_6 F.1 (fun σ2 eσ2 => ?_)
  replace F := F.2 σ2 eσ2
  refine s_aln dX13_take_17 rfl ?_
  refine gf_26 dX13_take_18 rfl ?_
  refine s_iln dX13_take_21 rfl ?_
  refine s_ic dX13_take_22 ki_0 ?_
  refine s_astb hC dX13_take_23 rt_7 F.1 (fun σ3 eσ3 => ?_)
  replace F := F.2 σ3 eσ3
  refine s_aln dX13_take_24 rfl ?_
  refine gf_29 dX13_take_25 rfl ?_
  refine s_iln dX13_take_28 rfl ?_
  refine s_lc dX13_take_29 kl_0 ?_
  refine s_lstb hC dX13_take_30 rt_8 F.1 (fun σ4 eσ4 => ?_)
  replace F := F.2 σ4 eσ4
  refine s_aln dX13_take_31 rfl ?_
  refine gf_33 dX13_take_32 rfl ?_
  refine s_iln dX13_take_35 rfl ?_
  refine s_ic dX13_take_36 ki_0 ?_
  refine s_astb hC dX13_take_37 rt_9 F.1 (fun σ5 eσ5 => ?_)
  replace F := F.2 σ5 eσ5
  refine s_aln dX13_take_38 rfl ?_
  refine s_iln dX13_take_39 rfl ?_
  refine k_256 dX13_take_40 rfl (Nat.le_of_ble_eq_true rfl) (Nat.le_of_ble_eq_true rfl) F (fun r7 σ6 F => ?_)
  refine s_isn dX13_take_43 (Nat.le_of_ble_eq_true rfl) rfl ?_
  refine s_iln dX13_take_44 rfl ?_
  refine k_272 dX13_take_45 rfl (Nat.le_of_ble_eq_true rfl) (Nat.le_of_ble_eq_true rfl) F (fun r9 σ8 F => ?_)
  refine s_i (t := 58) (r9 = 0) dX13_take_48 rfl rfl (fun hc => ?_) (fun hc => ?_)
  · replace F := F.1 hc
    refine s_iln dX13_take_58 rfl ?_
    refine k_275 dX13_take_59 rfl (Nat.le_of_ble_eq_true rfl) (Nat.le_of_ble_eq_true rfl) F (fun r11 σ10 F => ?_)
    refine s_i (t := 153) (r11 = 0) dX13_take_62 rfl rfl (fun hc => ?_) (fun hc => ?_)
    · replace F := F.1 hc
      refine s_aln dX13_take_153 rfl ?_
      refine s_iln dX13_take_154 rfl ?_
      refine s_ic dX13_take_155 ki_1 ?_
      refine s_iadd dX13_take_156 ?_
      refine k_256 dX13_take_157 rfl (Nat.le_of_ble_eq_true rfl) (Nat.le_of_ble_eq_true rfl) F (fun r13 σ12 F => ?_)
      refine s_bi dX13_take_160 kb_61 ?_
      refine s_iin (t := 193) (r13 = (61 : Int32)) dX13_take_162 rfl rfl (fun hc => ?_) (fun hc => ?_)
      · replace F := F.1 hc
        refine s_ic dX13_take_193 ki_0 ?_
        exact s_k (t_take_194 hC  F) ⟨rfl, rfl, rfl, rfl, trivial⟩
      · replace F := F.2 hc
        refine s_iln dX13_take_165 rfl ?_
        refine s_bi dX13_take_166 kb_61 ?_
        refine s_ii (t := 189) (r7 = (61 : Int32)) dX13_take_168 rfl rfl (fun hc => ?_) (fun hc => ?_)
        · replace F := F.1 hc
          refine s_ic dX13_take_189 ki_1 ?_
          refine s_goto (t := 194) dX13_take_190 rfl ?_
          exact s_k (t_take_194 hC  F) ⟨rfl, rfl, rfl, rfl, trivial⟩
        · replace F := F.2 hc
          refine s_iln dX13_take_171 rfl ?_
          refine s_bi dX13_take_172 kb_33 ?_
          refine s_ii (t := 189) (r7 = (33 : Int32)) dX13_take_174 rfl rfl (fun hc => ?_) (fun hc => ?_)
          · replace F := F.1 hc
            refine s_ic dX13_take_189 ki_1 ?_
            refine s_goto (t := 194) dX13_take_190 rfl ?_
            exact s_k (t_take_194 hC  F) ⟨rfl, rfl, rfl, rfl, trivial⟩
          · replace F := F.2 hc
            refine s_iln dX13_take_177 rfl ?_
            refine s_bi dX13_take_178 kb_60 ?_
            refine s_ii (t := 189) (r7 = (60 : Int32)) dX13_take_180 rfl rfl (fun hc => ?_) (fun hc => ?_)
            · replace F := F.1 hc
              refine s_ic dX13_take_189 ki_1 ?_
              refine s_goto (t := 194) dX13_take_190 rfl ?_
              exact s_k (t_take_194 hC  F) ⟨rfl, rfl, rfl, rfl, trivial⟩
            · replace F := F.2 hc
              refine s_iln dX13_take_183 rfl ?_
              refine s_bi dX13_take_184 kb_62 ?_
              refine s_iin (t := 193) (r7 = (62 : Int32)) dX13_take_186 rfl rfl (fun hc => ?_) (fun hc => ?_)
              · replace F := F.1 hc
                refine s_ic dX13_take_193 ki_0 ?_
                exact s_k (t_take_194 hC  F) ⟨rfl, rfl, rfl, rfl, trivial⟩
              · replace F := F.2 hc
                refine s_ic dX13_take_189 ki_1 ?_
                refine s_goto (t := 194) dX13_take_190 rfl ?_
                exact s_k (t_take_194 hC  F) ⟨rfl, rfl, rfl, rfl, trivial⟩
    · replace F := F.2 hc
      refine s_iln dX13_take_65 rfl ?_
      refine s_is dX13_take_66 (Nat.le_of_ble_eq_true rfl) rfl ?_
      exact s_k (t_take_68 hC  F) ⟨rfl, rfl, rfl, rfl, trivial⟩
  · replace F := F.2 hc
    refine s_aln dX13_take_51 rfl ?_
    refine s_iln dX13_take_52 rfl ?_
    refine s_iln dX13_take_53 rfl ?_
    refine k_287 dX13_take_54 rfl (Nat.le_of_ble_eq_true rfl) (Nat.le_of_ble_eq_true rfl) F (fun r15 σ14 F => ?_)
    exact s_ri dX13_take_57 rfl in_nar F

theorem m_take_run {C : rCx} (hC : cOK C) {Q : Int32 → rS → Prop} {a1 : Int32} {σ : rS} (F : w_take_0 C Q a1 σ) : cI C 4 m_take [.ref (co C), .int a1] σ Q := m_I (m_ent _ 3) (t_take_0 hC F)

theorem dX13_cutTape_0 : decode cX13_cutTape 0 = .ok (.aload_n 0, 1) := by decide +kernel
theorem dX13_cutTape_1 : decode cX13_cutTape 1 = .ok (.iconst 0, 1) := by decide +kernel
theorem dX13_cutTape_2 : decode cX13_cutTape 2 = .ok (.putfield 284, 3) := by decide +kernel
theorem dX13_cutTape_5 : decode cX13_cutTape 5 = .ok (.aload_n 0, 1) := by decide +kernel
theorem dX13_cutTape_6 : decode cX13_cutTape 6 = .ok (.iconst 0, 1) := by decide +kernel
theorem dX13_cutTape_7 : decode cX13_cutTape 7 = .ok (.invokevirtual 294, 3) := by decide +kernel
theorem dX13_cutTape_10 : decode cX13_cutTape 10 = .ok (.istore_n 1, 1) := by decide +kernel
theorem dX13_cutTape_11 : decode cX13_cutTape 11 = .ok (.iconst 0, 1) := by decide +kernel
theorem dX13_cutTape_12 : decode cX13_cutTape 12 = .ok (.istore_n 2, 1) := by decide +kernel
theorem dX13_cutTape_13 : decode cX13_cutTape 13 = .ok (.iload_n 1, 1) := by decide +kernel
theorem dX13_cutTape_14 : decode cX13_cutTape 14 = .ok (.aload_n 0, 1) := by decide +kernel
theorem dX13_cutTape_15 : decode cX13_cutTape 15 = .ok (.getfield 253, 3) := by decide +kernel
theorem dX13_cutTape_18 : decode cX13_cutTape 18 = .ok (.if_icmp .ge 54, 3) := by decide +kernel
theorem dX13_cutTape_21 : decode cX13_cutTape 21 = .ok (.iload_n 2, 1) := by decide +kernel
theorem dX13_cutTape_22 : decode cX13_cutTape 22 = .ok (.ifCond .ne 50, 3) := by decide +kernel
theorem dX13_cutTape_25 : decode cX13_cutTape 25 = .ok (.aload_n 0, 1) := by decide +kernel
theorem dX13_cutTape_26 : decode cX13_cutTape 26 = .ok (.aload_n 0, 1) := by decide +kernel
theorem dX13_cutTape_27 : decode cX13_cutTape 27 = .ok (.iload_n 1, 1) := by decide +kernel
theorem dX13_cutTape_28 : decode cX13_cutTape 28 = .ok (.invokevirtual 297, 3) := by decide +kernel
theorem dX13_cutTape_31 : decode cX13_cutTape 31 = .ok (.invokevirtual 294, 3) := by decide +kernel
theorem dX13_cutTape_34 : decode cX13_cutTape 34 = .ok (.istore_n 1, 1) := by decide +kernel
theorem dX13_cutTape_35 : decode cX13_cutTape 35 = .ok (.aload_n 0, 1) := by decide +kernel
theorem dX13_cutTape_36 : decode cX13_cutTape 36 = .ok (.getfield 19, 3) := by decide +kernel
theorem dX13_cutTape_39 : decode cX13_cutTape 39 = .ok (.aload_n 0, 1) := by decide +kernel
theorem dX13_cutTape_40 : decode cX13_cutTape 40 = .ok (.getfield 281, 3) := by decide +kernel
theorem dX13_cutTape_43 : decode cX13_cutTape 43 = .ok (.aload_n 0, 1) := by decide +kernel
theorem dX13_cutTape_44 : decode cX13_cutTape 44 = .ok (.getfield 284, 3) := by decide +kernel
theorem dX13_cutTape_47 : decode cX13_cutTape 47 = .ok (.iadd, 1) := by decide +kernel
theorem dX13_cutTape_48 : decode cX13_cutTape 48 = .ok (.baload, 1) := by decide +kernel
theorem dX13_cutTape_49 : decode cX13_cutTape 49 = .ok (.iconst 4, 1) := by decide +kernel
theorem dX13_cutTape_50 : decode cX13_cutTape 50 = .ok (.if_icmp .ne 7, 3) := by decide +kernel
theorem dX13_cutTape_53 : decode cX13_cutTape 53 = .ok (.iconst 1, 1) := by decide +kernel
theorem dX13_cutTape_54 : decode cX13_cutTape 54 = .ok (.goto 4, 3) := by decide +kernel
theorem dX13_cutTape_57 : decode cX13_cutTape 57 = .ok (.iconst 0, 1) := by decide +kernel
theorem dX13_cutTape_58 : decode cX13_cutTape 58 = .ok (.istore_n 2, 1) := by decide +kernel
theorem dX13_cutTape_59 : decode cX13_cutTape 59 = .ok (.aload_n 0, 1) := by decide +kernel
theorem dX13_cutTape_60 : decode cX13_cutTape 60 = .ok (.dup, 1) := by decide +kernel
theorem dX13_cutTape_61 : decode cX13_cutTape 61 = .ok (.getfield 284, 3) := by decide +kernel
theorem dX13_cutTape_64 : decode cX13_cutTape 64 = .ok (.iconst 1, 1) := by decide +kernel
theorem dX13_cutTape_65 : decode cX13_cutTape 65 = .ok (.iadd, 1) := by decide +kernel
theorem dX13_cutTape_66 : decode cX13_cutTape 66 = .ok (.putfield 284, 3) := by decide +kernel
theorem dX13_cutTape_69 : decode cX13_cutTape 69 = .ok (.goto (-56), 3) := by decide +kernel
theorem dX13_cutTape_72 : decode cX13_cutTape 72 = .ok (.aload_n 0, 1) := by decide +kernel
theorem dX13_cutTape_73 : decode cX13_cutTape 73 = .ok (.getfield 19, 3) := by decide +kernel
theorem dX13_cutTape_76 : decode cX13_cutTape 76 = .ok (.aload_n 0, 1) := by decide +kernel
theorem dX13_cutTape_77 : decode cX13_cutTape 77 = .ok (.getfield 281, 3) := by decide +kernel
theorem dX13_cutTape_80 : decode cX13_cutTape 80 = .ok (.aload_n 0, 1) := by decide +kernel
theorem dX13_cutTape_81 : decode cX13_cutTape 81 = .ok (.getfield 284, 3) := by decide +kernel
theorem dX13_cutTape_84 : decode cX13_cutTape 84 = .ok (.iadd, 1) := by decide +kernel
theorem dX13_cutTape_85 : decode cX13_cutTape 85 = .ok (.iconst 5, 1) := by decide +kernel
theorem dX13_cutTape_86 : decode cX13_cutTape 86 = .ok (.bastore, 1) := by decide +kernel
theorem dX13_cutTape_87 : decode cX13_cutTape 87 = .ok (.aload_n 0, 1) := by decide +kernel
theorem dX13_cutTape_88 : decode cX13_cutTape 88 = .ok (.getfield 22, 3) := by decide +kernel
theorem dX13_cutTape_91 : decode cX13_cutTape 91 = .ok (.aload_n 0, 1) := by decide +kernel
theorem dX13_cutTape_92 : decode cX13_cutTape 92 = .ok (.getfield 281, 3) := by decide +kernel
theorem dX13_cutTape_95 : decode cX13_cutTape 95 = .ok (.aload_n 0, 1) := by decide +kernel
theorem dX13_cutTape_96 : decode cX13_cutTape 96 = .ok (.getfield 284, 3) := by decide +kernel
theorem dX13_cutTape_99 : decode cX13_cutTape 99 = .ok (.iadd, 1) := by decide +kernel
theorem dX13_cutTape_100 : decode cX13_cutTape 100 = .ok (.aload_n 0, 1) := by decide +kernel
theorem dX13_cutTape_101 : decode cX13_cutTape 101 = .ok (.getfield 253, 3) := by decide +kernel
theorem dX13_cutTape_104 : decode cX13_cutTape 104 = .ok (.iastore, 1) := by decide +kernel
theorem dX13_cutTape_105 : decode cX13_cutTape 105 = .ok (.aload_n 0, 1) := by decide +kernel
theorem dX13_cutTape_106 : decode cX13_cutTape 106 = .ok (.getfield 26, 3) := by decide +kernel
theorem dX13_cutTape_109 : decode cX13_cutTape 109 = .ok (.aload_n 0, 1) := by decide +kernel
theorem dX13_cutTape_110 : decode cX13_cutTape 110 = .ok (.getfield 281, 3) := by decide +kernel
theorem dX13_cutTape_113 : decode cX13_cutTape 113 = .ok (.aload_n 0, 1) := by decide +kernel
theorem dX13_cutTape_114 : decode cX13_cutTape 114 = .ok (.getfield 284, 3) := by decide +kernel
theorem dX13_cutTape_117 : decode cX13_cutTape 117 = .ok (.iadd, 1) := by decide +kernel
theorem dX13_cutTape_118 : decode cX13_cutTape 118 = .ok (.iconst 0, 1) := by decide +kernel
theorem dX13_cutTape_119 : decode cX13_cutTape 119 = .ok (.iastore, 1) := by decide +kernel
theorem dX13_cutTape_120 : decode cX13_cutTape 120 = .ok (.return_, 1) := by decide +kernel
def w_cutTape_58 (C : rCx) (Q : rS → Prop) (B13 : Int32 → Int32 → rS → Prop) (a1 : Int32) (s0 : Int32) (σ : rS) : Prop :=
  ∀ σ1, σ1 = siU σ 4 ((σ.1 4) + (1 : Int32)) →
  B13 a1 s0 σ1
theorem t_cutTape_58 {C : rCx} (hC : cOK C) {Q : rS → Prop} {B13 : Int32 → Int32 → rS → Prop} (hB13 : ∀ a1' a2' τ, B13 a1' a2' τ → wG C 5 m_cutTape 13 [some (.ref (co C)), some (.int a1'), some (.int a2')] [] τ (qV Q)) {a1 : Int32} {s0 : Int32} {σ : rS} (F : w_cutTape_58 C Q B13 a1 s0 σ) : wG C 5 m_cutTape 58 [some (.ref (co C)), some (.int a1), none] [.int s0] σ (qV Q) := by
  unfold w_cutTape_58 at F
  refine s_isn dX13_cutTape_58 (Nat.le_of_ble_eq_true rfl) rfl ?_
  refine s_aln dX13_cutTape_59 rfl ?_
  refine s_dup dX13_cutTape_60 rfl ?_
  refine gf_284 dX13_cutTape_61 rfl ?_
  refine s_ic dX13_cutTape_64 ki_1 ?_
  refine s_iadd dX13_cutTape_65 ?_
  refine pf_284 hC dX13_cutTape_66 rfl (fun σ1 eσ1 => ?_)
  replace F := F σ1 eσ1
  refine s_goto (t := 13) dX13_cutTape_69 rfl ?_
  exact s_k (hB13 _ _ _ F) ⟨rfl, rfl, rfl, trivial⟩

def w_cutTape_72 (C : rCx) (Q : rS → Prop)   (σ : rS) : Prop :=
  inb ((σ.1 3) + (σ.1 4)) 131074 ∧
  ∀ σ1, σ1 = riU σ 5 (((σ.1 3) + (σ.1 4))).toNatClampNeg (vp_nar .byte (5 : Int32)) →
  inb ((σ1.1 3) + (σ1.1 4)) 131074 ∧
  ∀ σ2, σ2 = riU σ1 6 (((σ1.1 3) + (σ1.1 4))).toNatClampNeg (σ1.1 2) →
  inb ((σ2.1 3) + (σ2.1 4)) 131074 ∧
  ∀ σ3, σ3 = riU σ2 7 (((σ2.1 3) + (σ2.1 4))).toNatClampNeg (0 : Int32) →
  Q σ3
theorem t_cutTape_72 {C : rCx} (hC : cOK C) {Q : rS → Prop}    {σ : rS} (F : w_cutTape_72 C Q   σ) : wG C 5 m_cutTape 72 [some (.ref (co C)), none, none] [] σ (qV Q) := by
  unfold w_cutTape_72 at F
  refine s_aln dX13_cutTape_72 rfl ?_
  refine gf_19 dX13_cutTape_73 rfl ?_
  refine s_aln dX13_cutTape_76 rfl ?_
  refine gf_281 dX13_cutTape_77 rfl ?_
  refine s_aln dX13_cutTape_80 rfl ?_
  refine gf_284 dX13_cutTape_81 rfl ?_
  refine s_iadd dX13_cutTape_84 ?_
  refine s_ic dX13_cutTape_85 ki_5 ?_
  refine s_bstb hC dX13_cutTape_86 rt_5 F.1 (fun σ1 eσ1 => ?_)
  replace F := F.2 σ1 eσ1
  refine s_aln dX13_cutTape_87 rfl ?_
  refine gf_22 dX13_cutTape_88 rfl ?_
  refine s_aln dX13_cutTape_91 rfl ?_
  refine gf_281 dX13_cutTape_92 rfl ?_
  refine s_aln dX13_cutTape_95 rfl ?_
  refine gf_284 dX13_cutTape_96 rfl ?_
  refine s_iadd dX13_cutTape_99 ?_
  refine s_aln dX13_cutTape_100 rfl ?_
  refine gf_253 dX13_cutTape_101 rfl ?_
  refine s_astb hC dX13_cutTape_104 rt_6 F.1 (fun σ2 eσ2 => ?_)
  replace F := F.2 σ2 eσ2
  refine s_aln dX13_cutTape_105 rfl ?_
  refine gf_26 dX13_cutTape_106 rfl ?_
  refine s_aln dX13_cutTape_109 rfl ?_
  refine gf_281 dX13_cutTape_110 rfl ?_
  refine s_aln dX13_cutTape_113 rfl ?_
  refine gf_284 dX13_cutTape_114 rfl ?_
  refine s_iadd dX13_cutTape_117 ?_
  refine s_ic dX13_cutTape_118 ki_0 ?_
  refine s_astb hC dX13_cutTape_119 rt_7 F.1 (fun σ3 eσ3 => ?_)
  replace F := F.2 σ3 eσ3
  exact s_rv dX13_cutTape_120 rfl F

def w_cutTape_13 (C : rCx) (Q : rS → Prop)  (a1 : Int32) (a2 : Int32) (σ : rS) : Prop :=
  ∃ I : Nat → Int32 → Int32 → rS → Prop, (∃ n, I n a1 a2 σ) ∧ ∀ n a1 a2 σ, I n a1 a2 σ →
    ((σ.1 2) ≤ a1 →
      w_cutTape_72 C Q   σ) ∧
    (¬ ((σ.1 2) ≤ a1) →
      (¬ (a2 = 0) →
        w_cutTape_72 C Q   σ) ∧
      (a2 = 0 →
        cI C 4 m_take [.ref (co C), .int a1] σ (fun r2 σ1 =>
          cI C 1 m_skip [.ref (co C), .int r2] σ1 (fun r4 σ3 =>
            inb ((σ3.1 3) + (σ3.1 4)) 131074 ∧
            (¬ ((σ3.2.2.1 5 (((σ3.1 3) + (σ3.1 4))).toNatClampNeg) = (4 : Int32)) →
              w_cutTape_58 C Q (fun a1' a2' τ => ∃ k < n, I k a1' a2' τ) r4 (0 : Int32) σ3) ∧
            ((σ3.2.2.1 5 (((σ3.1 3) + (σ3.1 4))).toNatClampNeg) = (4 : Int32) →
              w_cutTape_58 C Q (fun a1' a2' τ => ∃ k < n, I k a1' a2' τ) r4 (1 : Int32) σ3)))))
theorem t_cutTape_13 {C : rCx} (hC : cOK C) {Q : rS → Prop}   {a1 : Int32} {a2 : Int32} {σ : rS} (F : w_cutTape_13 C Q  a1 a2 σ) : wG C 5 m_cutTape 13 [some (.ref (co C)), some (.int a1), some (.int a2)] [] σ (qV Q) := by
  obtain ⟨I, ⟨n0, hI0⟩, F0⟩ := F
  have key : ∀ n a1 a2 σ, I n a1 a2 σ → wG C 5 m_cutTape 13 [some (.ref (co C)), some (.int a1), some (.int a2)] [] σ (qV Q) := by
    intro n
    induction n using Nat.strongRecOn with
    | _ n ih =>
      intro a1 a2 σ hI
      have F := F0 n a1 a2 σ hI
      clear hI hI0
      refine s_iln dX13_cutTape_13 rfl ?_
      refine s_aln dX13_cutTape_14 rfl ?_
      refine gf_253 dX13_cutTape_15 rfl ?_
      refine s_ii (t := 72) ((σ.1 2) ≤ a1) dX13_cutTape_18 rfl rfl (fun hc => ?_) (fun hc => ?_)
      · replace F := F.1 hc
        exact s_k (t_cutTape_72 hC  F) ⟨rfl, trivial⟩
      · replace F := F.2 hc
        refine s_iln dX13_cutTape_21 rfl ?_
        refine s_in (t := 72) (a2 = 0) dX13_cutTape_22 rfl rfl (fun hc => ?_) (fun hc => ?_)
        · replace F := F.1 hc
          exact s_k (t_cutTape_72 hC  F) ⟨rfl, trivial⟩
        · replace F := F.2 hc
          refine s_aln dX13_cutTape_25 rfl ?_
          refine s_aln dX13_cutTape_26 rfl ?_
          refine s_iln dX13_cutTape_27 rfl ?_
          refine k_297 dX13_cutTape_28 rfl (Nat.le_of_ble_eq_true rfl) (Nat.le_of_ble_eq_true rfl) F (fun r2 σ1 F => ?_)
          refine k_294 dX13_cutTape_31 rfl (Nat.le_of_ble_eq_true rfl) (Nat.le_of_ble_eq_true rfl) F (fun r4 σ3 F => ?_)
          refine s_isn dX13_cutTape_34 (Nat.le_of_ble_eq_true rfl) rfl ?_
          refine s_aln dX13_cutTape_35 rfl ?_
          refine gf_19 dX13_cutTape_36 rfl ?_
          refine s_aln dX13_cutTape_39 rfl ?_
          refine gf_281 dX13_cutTape_40 rfl ?_
          refine s_aln dX13_cutTape_43 rfl ?_
          refine gf_284 dX13_cutTape_44 rfl ?_
          refine s_iadd dX13_cutTape_47 ?_
          refine s_bld hC dX13_cutTape_48 rt_5 F.1 ?_
          replace F := F.2
          refine s_ic dX13_cutTape_49 ki_4 ?_
          refine s_iin (t := 57) ((σ3.2.2.1 5 (((σ3.1 3) + (σ3.1 4))).toNatClampNeg) = (4 : Int32)) dX13_cutTape_50 rfl rfl (fun hc => ?_) (fun hc => ?_)
          · replace F := F.1 hc
            refine s_ic dX13_cutTape_57 ki_0 ?_
            exact s_k (t_cutTape_58 hC (fun a1' a2' τ hb => by obtain ⟨k, hk, hI⟩ := hb; exact ih k hk a1' a2' τ hI) F) ⟨rfl, rfl, trivial⟩
          · replace F := F.2 hc
            refine s_ic dX13_cutTape_53 ki_1 ?_
            refine s_goto (t := 58) dX13_cutTape_54 rfl ?_
            exact s_k (t_cutTape_58 hC (fun a1' a2' τ hb => by obtain ⟨k, hk, hI⟩ := hb; exact ih k hk a1' a2' τ hI) F) ⟨rfl, rfl, trivial⟩
  exact key n0 a1 a2 σ hI0

def w_cutTape_0 (C : rCx) (Q : rS → Prop)   (σ : rS) : Prop :=
  ∀ σ1, σ1 = siU σ 4 (0 : Int32) →
  cI C 1 m_skip [.ref (co C), .int (0 : Int32)] σ1 (fun r3 σ2 =>
    w_cutTape_13 C Q  r3 (0 : Int32) σ2)
theorem t_cutTape_0 {C : rCx} (hC : cOK C) {Q : rS → Prop}    {σ : rS} (F : w_cutTape_0 C Q   σ) : wG C 5 m_cutTape 0 [some (.ref (co C)), none, none] [] σ (qV Q) := by
  unfold w_cutTape_0 at F
  refine s_aln dX13_cutTape_0 rfl ?_
  refine s_ic dX13_cutTape_1 ki_0 ?_
  refine pf_284 hC dX13_cutTape_2 rfl (fun σ1 eσ1 => ?_)
  replace F := F σ1 eσ1
  refine s_aln dX13_cutTape_5 rfl ?_
  refine s_ic dX13_cutTape_6 ki_0 ?_
  refine k_294 dX13_cutTape_7 rfl (Nat.le_of_ble_eq_true rfl) (Nat.le_of_ble_eq_true rfl) F (fun r3 σ2 F => ?_)
  refine s_isn dX13_cutTape_10 (Nat.le_of_ble_eq_true rfl) rfl ?_
  refine s_ic dX13_cutTape_11 ki_0 ?_
  refine s_isn dX13_cutTape_12 (Nat.le_of_ble_eq_true rfl) rfl ?_
  exact s_k (t_cutTape_13 hC  F) ⟨rfl, rfl, rfl, trivial⟩

theorem m_cutTape_run {C : rCx} (hC : cOK C) {Q : rS → Prop}  {σ : rS} (F : w_cutTape_0 C Q  σ) : cV C 5 m_cutTape [.ref (co C)] σ Q := m_V (m_ent _ 2) (t_cutTape_0 hC F)

theorem dX13_isRight_0 : decode cX13_isRight 0 = .ok (.aload_n 0, 1) := by decide +kernel
theorem dX13_isRight_1 : decode cX13_isRight 1 = .ok (.getfield 300, 3) := by decide +kernel
theorem dX13_isRight_4 : decode cX13_isRight 4 = .ok (.ifCond .ne 7, 3) := by decide +kernel
theorem dX13_isRight_7 : decode cX13_isRight 7 = .ok (.iconst 1, 1) := by decide +kernel
theorem dX13_isRight_8 : decode cX13_isRight 8 = .ok (.goto 4, 3) := by decide +kernel
theorem dX13_isRight_11 : decode cX13_isRight 11 = .ok (.iconst 0, 1) := by decide +kernel
theorem dX13_isRight_12 : decode cX13_isRight 12 = .ok (.ireturn, 1) := by decide +kernel
def w_isRight_0 (C : rCx) (Q : Int32 → rS → Prop)   (σ : rS) : Prop :=
  (¬ ((σ.1 11) = 0) →
    Q (0 : Int32) σ) ∧
  ((σ.1 11) = 0 →
    Q (1 : Int32) σ)
theorem t_isRight_0 {C : rCx} (hC : cOK C) {Q : Int32 → rS → Prop}    {σ : rS} (F : w_isRight_0 C Q   σ) : wG C 0 m_isRight 0 [some (.ref (co C))] [] σ (qI Q) := by
  unfold w_isRight_0 at F
  refine s_aln dX13_isRight_0 rfl ?_
  refine gf_300 dX13_isRight_1 rfl ?_
  refine s_in (t := 11) ((σ.1 11) = 0) dX13_isRight_4 rfl rfl (fun hc => ?_) (fun hc => ?_)
  · replace F := F.1 hc
    refine s_ic dX13_isRight_11 ki_0 ?_
    exact s_ri dX13_isRight_12 rfl (nb_nar nb_0) F
  · replace F := F.2 hc
    refine s_ic dX13_isRight_7 ki_1 ?_
    refine s_goto (t := 12) dX13_isRight_8 rfl ?_
    exact s_ri dX13_isRight_12 rfl (nb_nar nb_1) F

theorem m_isRight_run {C : rCx} (hC : cOK C) {Q : Int32 → rS → Prop}  {σ : rS} (F : w_isRight_0 C Q  σ) : cI C 0 m_isRight [.ref (co C)] σ Q := m_I (m_ent _ 0) (t_isRight_0 hC F)

theorem dX13_flaw_0 : decode cX13_flaw 0 = .ok (.aload_n 0, 1) := by decide +kernel
theorem dX13_flaw_1 : decode cX13_flaw 1 = .ok (.getfield 300, 3) := by decide +kernel
theorem dX13_flaw_4 : decode cX13_flaw 4 = .ok (.ifCond .ne 32, 3) := by decide +kernel
theorem dX13_flaw_7 : decode cX13_flaw 7 = .ok (.aload_n 0, 1) := by decide +kernel
theorem dX13_flaw_8 : decode cX13_flaw 8 = .ok (.aload_n 0, 1) := by decide +kernel
theorem dX13_flaw_9 : decode cX13_flaw 9 = .ok (.getfield 19, 3) := by decide +kernel
theorem dX13_flaw_12 : decode cX13_flaw 12 = .ok (.iload_n 2, 1) := by decide +kernel
theorem dX13_flaw_13 : decode cX13_flaw 13 = .ok (.baload, 1) := by decide +kernel
theorem dX13_flaw_14 : decode cX13_flaw 14 = .ok (.iconst 4, 1) := by decide +kernel
theorem dX13_flaw_15 : decode cX13_flaw 15 = .ok (.if_icmp .ne 7, 3) := by decide +kernel
theorem dX13_flaw_18 : decode cX13_flaw 18 = .ok (.iconst 1, 1) := by decide +kernel
theorem dX13_flaw_19 : decode cX13_flaw 19 = .ok (.goto 4, 3) := by decide +kernel
theorem dX13_flaw_22 : decode cX13_flaw 22 = .ok (.iload_n 1, 1) := by decide +kernel
theorem dX13_flaw_23 : decode cX13_flaw 23 = .ok (.putfield 300, 3) := by decide +kernel
theorem dX13_flaw_26 : decode cX13_flaw 26 = .ok (.aload_n 0, 1) := by decide +kernel
theorem dX13_flaw_27 : decode cX13_flaw 27 = .ok (.aload_n 0, 1) := by decide +kernel
theorem dX13_flaw_28 : decode cX13_flaw 28 = .ok (.getfield 22, 3) := by decide +kernel
theorem dX13_flaw_31 : decode cX13_flaw 31 = .ok (.iload_n 2, 1) := by decide +kernel
theorem dX13_flaw_32 : decode cX13_flaw 32 = .ok (.iaload, 1) := by decide +kernel
theorem dX13_flaw_33 : decode cX13_flaw 33 = .ok (.putfield 303, 3) := by decide +kernel
theorem dX13_flaw_36 : decode cX13_flaw 36 = .ok (.return_, 1) := by decide +kernel
def w_flaw_23 (C : rCx) (Q : rS → Prop)  (a2 : Int32) (s1 : Int32) (σ : rS) : Prop :=
  ∀ σ1, σ1 = siU σ 11 s1 →
  inb a2 131074 ∧
  ∀ σ2, σ2 = siU σ1 12 (σ1.2.2.1 6 (a2).toNatClampNeg) →
  Q σ2
theorem t_flaw_23 {C : rCx} (hC : cOK C) {Q : rS → Prop}   {a2 : Int32} {s1 : Int32} {σ : rS} (F : w_flaw_23 C Q  a2 s1 σ) : wG C 0 m_flaw 23 [some (.ref (co C)), none, some (.int a2)] [.int s1, .ref (co C)] σ (qV Q) := by
  unfold w_flaw_23 at F
  refine pf_300 hC dX13_flaw_23 rfl (fun σ1 eσ1 => ?_)
  replace F := F σ1 eσ1
  refine s_aln dX13_flaw_26 rfl ?_
  refine s_aln dX13_flaw_27 rfl ?_
  refine gf_22 dX13_flaw_28 rfl ?_
  refine s_iln dX13_flaw_31 rfl ?_
  refine s_ald hC dX13_flaw_32 rt_6 F.1 ?_
  replace F := F.2
  refine pf_303 hC dX13_flaw_33 rfl (fun σ2 eσ2 => ?_)
  replace F := F σ2 eσ2
  exact s_rv dX13_flaw_36 rfl F

def w_flaw_0 (C : rCx) (Q : rS → Prop)  (a1 : Int32) (a2 : Int32) (σ : rS) : Prop :=
  (¬ ((σ.1 11) = 0) →
    Q σ) ∧
  ((σ.1 11) = 0 →
    inb a2 131074 ∧
    (¬ ((σ.2.2.1 5 (a2).toNatClampNeg) = (4 : Int32)) →
      w_flaw_23 C Q  a2 a1 σ) ∧
    ((σ.2.2.1 5 (a2).toNatClampNeg) = (4 : Int32) →
      w_flaw_23 C Q  a2 (1 : Int32) σ))
theorem t_flaw_0 {C : rCx} (hC : cOK C) {Q : rS → Prop}   {a1 : Int32} {a2 : Int32} {σ : rS} (F : w_flaw_0 C Q  a1 a2 σ) : wG C 0 m_flaw 0 [some (.ref (co C)), some (.int a1), some (.int a2)] [] σ (qV Q) := by
  unfold w_flaw_0 at F
  refine s_aln dX13_flaw_0 rfl ?_
  refine gf_300 dX13_flaw_1 rfl ?_
  refine s_in (t := 36) ((σ.1 11) = 0) dX13_flaw_4 rfl rfl (fun hc => ?_) (fun hc => ?_)
  · replace F := F.1 hc
    exact s_rv dX13_flaw_36 rfl F
  · replace F := F.2 hc
    refine s_aln dX13_flaw_7 rfl ?_
    refine s_aln dX13_flaw_8 rfl ?_
    refine gf_19 dX13_flaw_9 rfl ?_
    refine s_iln dX13_flaw_12 rfl ?_
    refine s_bld hC dX13_flaw_13 rt_5 F.1 ?_
    replace F := F.2
    refine s_ic dX13_flaw_14 ki_4 ?_
    refine s_iin (t := 22) ((σ.2.2.1 5 (a2).toNatClampNeg) = (4 : Int32)) dX13_flaw_15 rfl rfl (fun hc => ?_) (fun hc => ?_)
    · replace F := F.1 hc
      refine s_iln dX13_flaw_22 rfl ?_
      exact s_k (t_flaw_23 hC  F) ⟨rfl, rfl, trivial⟩
    · replace F := F.2 hc
      refine s_ic dX13_flaw_18 ki_1 ?_
      refine s_goto (t := 23) dX13_flaw_19 rfl ?_
      exact s_k (t_flaw_23 hC  F) ⟨rfl, rfl, trivial⟩

theorem m_flaw_run {C : rCx} (hC : cOK C) {Q : rS → Prop} {a1 : Int32} {a2 : Int32} {σ : rS} (F : w_flaw_0 C Q a1 a2 σ) : cV C 0 m_flaw [.ref (co C), .int a1, .int a2] σ Q := m_V (m_ent _ 0) (t_flaw_0 hC F)

theorem dX13_readNext_0 : decode cX13_readNext 0 = .ok (.aload_n 0, 1) := by decide +kernel
theorem dX13_readNext_1 : decode cX13_readNext 1 = .ok (.getfield 19, 3) := by decide +kernel
theorem dX13_readNext_4 : decode cX13_readNext 4 = .ok (.aload_n 0, 1) := by decide +kernel
theorem dX13_readNext_5 : decode cX13_readNext 5 = .ok (.getfield 306, 3) := by decide +kernel
theorem dX13_readNext_8 : decode cX13_readNext 8 = .ok (.baload, 1) := by decide +kernel
theorem dX13_readNext_9 : decode cX13_readNext 9 = .ok (.iconst 4, 1) := by decide +kernel
theorem dX13_readNext_10 : decode cX13_readNext 10 = .ok (.if_icmp .ne 12, 3) := by decide +kernel
theorem dX13_readNext_13 : decode cX13_readNext 13 = .ok (.aload_n 0, 1) := by decide +kernel
theorem dX13_readNext_14 : decode cX13_readNext 14 = .ok (.iconst 1, 1) := by decide +kernel
theorem dX13_readNext_15 : decode cX13_readNext 15 = .ok (.aload_n 0, 1) := by decide +kernel
theorem dX13_readNext_16 : decode cX13_readNext 16 = .ok (.getfield 306, 3) := by decide +kernel
theorem dX13_readNext_19 : decode cX13_readNext 19 = .ok (.invokevirtual 312, 3) := by decide +kernel
theorem dX13_readNext_22 : decode cX13_readNext 22 = .ok (.return_, 1) := by decide +kernel
def w_readNext_0 (C : rCx) (Q : rS → Prop)   (σ : rS) : Prop :=
  inb (σ.1 10) 131074 ∧
  (¬ ((σ.2.2.1 5 ((σ.1 10)).toNatClampNeg) = (4 : Int32)) →
    Q σ) ∧
  ((σ.2.2.1 5 ((σ.1 10)).toNatClampNeg) = (4 : Int32) →
    cV C 0 m_flaw [.ref (co C), .int (1 : Int32), .int (σ.1 10)] σ (fun σ1 =>
      Q σ1))
theorem t_readNext_0 {C : rCx} (hC : cOK C) {Q : rS → Prop}    {σ : rS} (F : w_readNext_0 C Q   σ) : wG C 1 m_readNext 0 [some (.ref (co C))] [] σ (qV Q) := by
  unfold w_readNext_0 at F
  refine s_aln dX13_readNext_0 rfl ?_
  refine gf_19 dX13_readNext_1 rfl ?_
  refine s_aln dX13_readNext_4 rfl ?_
  refine gf_306 dX13_readNext_5 rfl ?_
  refine s_bld hC dX13_readNext_8 rt_5 F.1 ?_
  replace F := F.2
  refine s_ic dX13_readNext_9 ki_4 ?_
  refine s_iin (t := 22) ((σ.2.2.1 5 ((σ.1 10)).toNatClampNeg) = (4 : Int32)) dX13_readNext_10 rfl rfl (fun hc => ?_) (fun hc => ?_)
  · replace F := F.1 hc
    exact s_rv dX13_readNext_22 rfl F
  · replace F := F.2 hc
    refine s_aln dX13_readNext_13 rfl ?_
    refine s_ic dX13_readNext_14 ki_1 ?_
    refine s_aln dX13_readNext_15 rfl ?_
    refine gf_306 dX13_readNext_16 rfl ?_
    refine k_312 dX13_readNext_19 rfl (Nat.le_of_ble_eq_true rfl) (Nat.le_of_ble_eq_true rfl) F (fun σ1 F => ?_)
    exact s_rv dX13_readNext_22 rfl F

theorem m_readNext_run {C : rCx} (hC : cOK C) {Q : rS → Prop}  {σ : rS} (F : w_readNext_0 C Q  σ) : cV C 1 m_readNext [.ref (co C)] σ Q := m_V (m_ent _ 0) (t_readNext_0 hC F)

theorem dX13_go_0 : decode cX13_go 0 = .ok (.aload_n 0, 1) := by decide +kernel
theorem dX13_go_1 : decode cX13_go 1 = .ok (.getfield 300, 3) := by decide +kernel
theorem dX13_go_4 : decode cX13_go 4 = .ok (.ifCond .ne 17, 3) := by decide +kernel
theorem dX13_go_7 : decode cX13_go 7 = .ok (.aload_n 0, 1) := by decide +kernel
theorem dX13_go_8 : decode cX13_go 8 = .ok (.dup, 1) := by decide +kernel
theorem dX13_go_9 : decode cX13_go 9 = .ok (.getfield 306, 3) := by decide +kernel
theorem dX13_go_12 : decode cX13_go 12 = .ok (.iconst 1, 1) := by decide +kernel
theorem dX13_go_13 : decode cX13_go 13 = .ok (.iadd, 1) := by decide +kernel
theorem dX13_go_14 : decode cX13_go 14 = .ok (.putfield 306, 3) := by decide +kernel
theorem dX13_go_17 : decode cX13_go 17 = .ok (.aload_n 0, 1) := by decide +kernel
theorem dX13_go_18 : decode cX13_go 18 = .ok (.invokevirtual 309, 3) := by decide +kernel
theorem dX13_go_21 : decode cX13_go 21 = .ok (.return_, 1) := by decide +kernel
def w_go_0 (C : rCx) (Q : rS → Prop)   (σ : rS) : Prop :=
  (¬ ((σ.1 11) = 0) →
    Q σ) ∧
  ((σ.1 11) = 0 →
    ∀ σ1, σ1 = siU σ 10 ((σ.1 10) + (1 : Int32)) →
    cV C 1 m_readNext [.ref (co C)] σ1 (fun σ2 =>
      Q σ2))
theorem t_go_0 {C : rCx} (hC : cOK C) {Q : rS → Prop}    {σ : rS} (F : w_go_0 C Q   σ) : wG C 2 m_go 0 [some (.ref (co C))] [] σ (qV Q) := by
  unfold w_go_0 at F
  refine s_aln dX13_go_0 rfl ?_
  refine gf_300 dX13_go_1 rfl ?_
  refine s_in (t := 21) ((σ.1 11) = 0) dX13_go_4 rfl rfl (fun hc => ?_) (fun hc => ?_)
  · replace F := F.1 hc
    exact s_rv dX13_go_21 rfl F
  · replace F := F.2 hc
    refine s_aln dX13_go_7 rfl ?_
    refine s_dup dX13_go_8 rfl ?_
    refine gf_306 dX13_go_9 rfl ?_
    refine s_ic dX13_go_12 ki_1 ?_
    refine s_iadd dX13_go_13 ?_
    refine pf_306 hC dX13_go_14 rfl (fun σ1 eσ1 => ?_)
    replace F := F σ1 eσ1
    refine s_aln dX13_go_17 rfl ?_
    refine k_309 dX13_go_18 rfl (Nat.le_of_ble_eq_true rfl) (Nat.le_of_ble_eq_true rfl) F (fun σ2 F => ?_)
    exact s_rv dX13_go_21 rfl F

theorem m_go_run {C : rCx} (hC : cOK C) {Q : rS → Prop}  {σ : rS} (F : w_go_0 C Q  σ) : cV C 2 m_go [.ref (co C)] σ Q := m_V (m_ent _ 0) (t_go_0 hC F)

theorem dX13_isAt_0 : decode cX13_isAt 0 = .ok (.aload_n 0, 1) := by decide +kernel
theorem dX13_isAt_1 : decode cX13_isAt 1 = .ok (.getfield 19, 3) := by decide +kernel
theorem dX13_isAt_4 : decode cX13_isAt 4 = .ok (.aload_n 0, 1) := by decide +kernel
theorem dX13_isAt_5 : decode cX13_isAt 5 = .ok (.getfield 306, 3) := by decide +kernel
theorem dX13_isAt_8 : decode cX13_isAt 8 = .ok (.baload, 1) := by decide +kernel
theorem dX13_isAt_9 : decode cX13_isAt 9 = .ok (.iconst 3, 1) := by decide +kernel
theorem dX13_isAt_10 : decode cX13_isAt 10 = .ok (.if_icmp .ne 20, 3) := by decide +kernel
theorem dX13_isAt_13 : decode cX13_isAt 13 = .ok (.aload_n 0, 1) := by decide +kernel
theorem dX13_isAt_14 : decode cX13_isAt 14 = .ok (.getfield 26, 3) := by decide +kernel
theorem dX13_isAt_17 : decode cX13_isAt 17 = .ok (.aload_n 0, 1) := by decide +kernel
theorem dX13_isAt_18 : decode cX13_isAt 18 = .ok (.getfield 306, 3) := by decide +kernel
theorem dX13_isAt_21 : decode cX13_isAt 21 = .ok (.iaload, 1) := by decide +kernel
theorem dX13_isAt_22 : decode cX13_isAt 22 = .ok (.iload_n 1, 1) := by decide +kernel
theorem dX13_isAt_23 : decode cX13_isAt 23 = .ok (.if_icmp .ne 7, 3) := by decide +kernel
theorem dX13_isAt_26 : decode cX13_isAt 26 = .ok (.iconst 1, 1) := by decide +kernel
theorem dX13_isAt_27 : decode cX13_isAt 27 = .ok (.goto 4, 3) := by decide +kernel
theorem dX13_isAt_30 : decode cX13_isAt 30 = .ok (.iconst 0, 1) := by decide +kernel
theorem dX13_isAt_31 : decode cX13_isAt 31 = .ok (.ireturn, 1) := by decide +kernel
def w_isAt_0 (C : rCx) (Q : Int32 → rS → Prop)  (a1 : Int32) (σ : rS) : Prop :=
  inb (σ.1 10) 131074 ∧
  (¬ ((σ.2.2.1 5 ((σ.1 10)).toNatClampNeg) = (3 : Int32)) →
    Q (0 : Int32) σ) ∧
  ((σ.2.2.1 5 ((σ.1 10)).toNatClampNeg) = (3 : Int32) →
    inb (σ.1 10) 131074 ∧
    (¬ ((σ.2.2.1 7 ((σ.1 10)).toNatClampNeg) = a1) →
      Q (0 : Int32) σ) ∧
    ((σ.2.2.1 7 ((σ.1 10)).toNatClampNeg) = a1 →
      Q (1 : Int32) σ))
theorem t_isAt_0 {C : rCx} (hC : cOK C) {Q : Int32 → rS → Prop}   {a1 : Int32} {σ : rS} (F : w_isAt_0 C Q  a1 σ) : wG C 0 m_isAt 0 [some (.ref (co C)), some (.int a1)] [] σ (qI Q) := by
  unfold w_isAt_0 at F
  refine s_aln dX13_isAt_0 rfl ?_
  refine gf_19 dX13_isAt_1 rfl ?_
  refine s_aln dX13_isAt_4 rfl ?_
  refine gf_306 dX13_isAt_5 rfl ?_
  refine s_bld hC dX13_isAt_8 rt_5 F.1 ?_
  replace F := F.2
  refine s_ic dX13_isAt_9 ki_3 ?_
  refine s_iin (t := 30) ((σ.2.2.1 5 ((σ.1 10)).toNatClampNeg) = (3 : Int32)) dX13_isAt_10 rfl rfl (fun hc => ?_) (fun hc => ?_)
  · replace F := F.1 hc
    refine s_ic dX13_isAt_30 ki_0 ?_
    exact s_ri dX13_isAt_31 rfl (nb_nar nb_0) F
  · replace F := F.2 hc
    refine s_aln dX13_isAt_13 rfl ?_
    refine gf_26 dX13_isAt_14 rfl ?_
    refine s_aln dX13_isAt_17 rfl ?_
    refine gf_306 dX13_isAt_18 rfl ?_
    refine s_ald hC dX13_isAt_21 rt_7 F.1 ?_
    replace F := F.2
    refine s_iln dX13_isAt_22 rfl ?_
    refine s_iin (t := 30) ((σ.2.2.1 7 ((σ.1 10)).toNatClampNeg) = a1) dX13_isAt_23 rfl rfl (fun hc => ?_) (fun hc => ?_)
    · replace F := F.1 hc
      refine s_ic dX13_isAt_30 ki_0 ?_
      exact s_ri dX13_isAt_31 rfl (nb_nar nb_0) F
    · replace F := F.2 hc
      refine s_ic dX13_isAt_26 ki_1 ?_
      refine s_goto (t := 31) dX13_isAt_27 rfl ?_
      exact s_ri dX13_isAt_31 rfl (nb_nar nb_1) F

theorem m_isAt_run {C : rCx} (hC : cOK C) {Q : Int32 → rS → Prop} {a1 : Int32} {σ : rS} (F : w_isAt_0 C Q a1 σ) : cI C 0 m_isAt [.ref (co C), .int a1] σ Q := m_I (m_ent _ 0) (t_isAt_0 hC F)

theorem dX13_isNext_0 : decode cX13_isNext 0 = .ok (.aload_n 0, 1) := by decide +kernel
theorem dX13_isNext_1 : decode cX13_isNext 1 = .ok (.getfield 19, 3) := by decide +kernel
theorem dX13_isNext_4 : decode cX13_isNext 4 = .ok (.aload_n 0, 1) := by decide +kernel
theorem dX13_isNext_5 : decode cX13_isNext 5 = .ok (.getfield 306, 3) := by decide +kernel
theorem dX13_isNext_8 : decode cX13_isNext 8 = .ok (.iconst 1, 1) := by decide +kernel
theorem dX13_isNext_9 : decode cX13_isNext 9 = .ok (.iadd, 1) := by decide +kernel
theorem dX13_isNext_10 : decode cX13_isNext 10 = .ok (.baload, 1) := by decide +kernel
theorem dX13_isNext_11 : decode cX13_isNext 11 = .ok (.iconst 3, 1) := by decide +kernel
theorem dX13_isNext_12 : decode cX13_isNext 12 = .ok (.if_icmp .ne 22, 3) := by decide +kernel
theorem dX13_isNext_15 : decode cX13_isNext 15 = .ok (.aload_n 0, 1) := by decide +kernel
theorem dX13_isNext_16 : decode cX13_isNext 16 = .ok (.getfield 26, 3) := by decide +kernel
theorem dX13_isNext_19 : decode cX13_isNext 19 = .ok (.aload_n 0, 1) := by decide +kernel
theorem dX13_isNext_20 : decode cX13_isNext 20 = .ok (.getfield 306, 3) := by decide +kernel
theorem dX13_isNext_23 : decode cX13_isNext 23 = .ok (.iconst 1, 1) := by decide +kernel
theorem dX13_isNext_24 : decode cX13_isNext 24 = .ok (.iadd, 1) := by decide +kernel
theorem dX13_isNext_25 : decode cX13_isNext 25 = .ok (.iaload, 1) := by decide +kernel
theorem dX13_isNext_26 : decode cX13_isNext 26 = .ok (.iload_n 1, 1) := by decide +kernel
theorem dX13_isNext_27 : decode cX13_isNext 27 = .ok (.if_icmp .ne 7, 3) := by decide +kernel
theorem dX13_isNext_30 : decode cX13_isNext 30 = .ok (.iconst 1, 1) := by decide +kernel
theorem dX13_isNext_31 : decode cX13_isNext 31 = .ok (.goto 4, 3) := by decide +kernel
theorem dX13_isNext_34 : decode cX13_isNext 34 = .ok (.iconst 0, 1) := by decide +kernel
theorem dX13_isNext_35 : decode cX13_isNext 35 = .ok (.ireturn, 1) := by decide +kernel
def w_isNext_0 (C : rCx) (Q : Int32 → rS → Prop)  (a1 : Int32) (σ : rS) : Prop :=
  inb ((σ.1 10) + (1 : Int32)) 131074 ∧
  (¬ ((σ.2.2.1 5 (((σ.1 10) + (1 : Int32))).toNatClampNeg) = (3 : Int32)) →
    Q (0 : Int32) σ) ∧
  ((σ.2.2.1 5 (((σ.1 10) + (1 : Int32))).toNatClampNeg) = (3 : Int32) →
    inb ((σ.1 10) + (1 : Int32)) 131074 ∧
    (¬ ((σ.2.2.1 7 (((σ.1 10) + (1 : Int32))).toNatClampNeg) = a1) →
      Q (0 : Int32) σ) ∧
    ((σ.2.2.1 7 (((σ.1 10) + (1 : Int32))).toNatClampNeg) = a1 →
      Q (1 : Int32) σ))
theorem t_isNext_0 {C : rCx} (hC : cOK C) {Q : Int32 → rS → Prop}   {a1 : Int32} {σ : rS} (F : w_isNext_0 C Q  a1 σ) : wG C 0 m_isNext 0 [some (.ref (co C)), some (.int a1)] [] σ (qI Q) := by
  unfold w_isNext_0 at F
  refine s_aln dX13_isNext_0 rfl ?_
  refine gf_19 dX13_isNext_1 rfl ?_
  refine s_aln dX13_isNext_4 rfl ?_
  refine gf_306 dX13_isNext_5 rfl ?_
  refine s_ic dX13_isNext_8 ki_1 ?_
  refine s_iadd dX13_isNext_9 ?_
  refine s_bld hC dX13_isNext_10 rt_5 F.1 ?_
  replace F := F.2
  refine s_ic dX13_isNext_11 ki_3 ?_
  refine s_iin (t := 34) ((σ.2.2.1 5 (((σ.1 10) + (1 : Int32))).toNatClampNeg) = (3 : Int32)) dX13_isNext_12 rfl rfl (fun hc => ?_) (fun hc => ?_)
  · replace F := F.1 hc
    refine s_ic dX13_isNext_34 ki_0 ?_
    exact s_ri dX13_isNext_35 rfl (nb_nar nb_0) F
  · replace F := F.2 hc
    refine s_aln dX13_isNext_15 rfl ?_
    refine gf_26 dX13_isNext_16 rfl ?_
    refine s_aln dX13_isNext_19 rfl ?_
    refine gf_306 dX13_isNext_20 rfl ?_
    refine s_ic dX13_isNext_23 ki_1 ?_
    refine s_iadd dX13_isNext_24 ?_
    refine s_ald hC dX13_isNext_25 rt_7 F.1 ?_
    replace F := F.2
    refine s_iln dX13_isNext_26 rfl ?_
    refine s_iin (t := 34) ((σ.2.2.1 7 (((σ.1 10) + (1 : Int32))).toNatClampNeg) = a1) dX13_isNext_27 rfl rfl (fun hc => ?_) (fun hc => ?_)
    · replace F := F.1 hc
      refine s_ic dX13_isNext_34 ki_0 ?_
      exact s_ri dX13_isNext_35 rfl (nb_nar nb_0) F
    · replace F := F.2 hc
      refine s_ic dX13_isNext_30 ki_1 ?_
      refine s_goto (t := 35) dX13_isNext_31 rfl ?_
      exact s_ri dX13_isNext_35 rfl (nb_nar nb_1) F

theorem m_isNext_run {C : rCx} (hC : cOK C) {Q : Int32 → rS → Prop} {a1 : Int32} {σ : rS} (F : w_isNext_0 C Q a1 σ) : cI C 0 m_isNext [.ref (co C), .int a1] σ Q := m_I (m_ent _ 0) (t_isNext_0 hC F)

theorem dX13_isWord_0 : decode cX13_isWord 0 = .ok (.aload_n 0, 1) := by decide +kernel
theorem dX13_isWord_1 : decode cX13_isWord 1 = .ok (.getfield 19, 3) := by decide +kernel
theorem dX13_isWord_4 : decode cX13_isWord 4 = .ok (.aload_n 0, 1) := by decide +kernel
theorem dX13_isWord_5 : decode cX13_isWord 5 = .ok (.getfield 306, 3) := by decide +kernel
theorem dX13_isWord_8 : decode cX13_isWord 8 = .ok (.baload, 1) := by decide +kernel
theorem dX13_isWord_9 : decode cX13_isWord 9 = .ok (.bipush 6, 2) := by decide +kernel
theorem dX13_isWord_11 : decode cX13_isWord 11 = .ok (.if_icmp .ne 20, 3) := by decide +kernel
theorem dX13_isWord_14 : decode cX13_isWord 14 = .ok (.aload_n 0, 1) := by decide +kernel
theorem dX13_isWord_15 : decode cX13_isWord 15 = .ok (.getfield 26, 3) := by decide +kernel
theorem dX13_isWord_18 : decode cX13_isWord 18 = .ok (.aload_n 0, 1) := by decide +kernel
theorem dX13_isWord_19 : decode cX13_isWord 19 = .ok (.getfield 306, 3) := by decide +kernel
theorem dX13_isWord_22 : decode cX13_isWord 22 = .ok (.iaload, 1) := by decide +kernel
theorem dX13_isWord_23 : decode cX13_isWord 23 = .ok (.iload_n 1, 1) := by decide +kernel
theorem dX13_isWord_24 : decode cX13_isWord 24 = .ok (.if_icmp .ne 7, 3) := by decide +kernel
theorem dX13_isWord_27 : decode cX13_isWord 27 = .ok (.iconst 1, 1) := by decide +kernel
theorem dX13_isWord_28 : decode cX13_isWord 28 = .ok (.goto 4, 3) := by decide +kernel
theorem dX13_isWord_31 : decode cX13_isWord 31 = .ok (.iconst 0, 1) := by decide +kernel
theorem dX13_isWord_32 : decode cX13_isWord 32 = .ok (.ireturn, 1) := by decide +kernel
def w_isWord_0 (C : rCx) (Q : Int32 → rS → Prop)  (a1 : Int32) (σ : rS) : Prop :=
  inb (σ.1 10) 131074 ∧
  (¬ ((σ.2.2.1 5 ((σ.1 10)).toNatClampNeg) = (6 : Int32)) →
    Q (0 : Int32) σ) ∧
  ((σ.2.2.1 5 ((σ.1 10)).toNatClampNeg) = (6 : Int32) →
    inb (σ.1 10) 131074 ∧
    (¬ ((σ.2.2.1 7 ((σ.1 10)).toNatClampNeg) = a1) →
      Q (0 : Int32) σ) ∧
    ((σ.2.2.1 7 ((σ.1 10)).toNatClampNeg) = a1 →
      Q (1 : Int32) σ))
theorem t_isWord_0 {C : rCx} (hC : cOK C) {Q : Int32 → rS → Prop}   {a1 : Int32} {σ : rS} (F : w_isWord_0 C Q  a1 σ) : wG C 0 m_isWord 0 [some (.ref (co C)), some (.int a1)] [] σ (qI Q) := by
  unfold w_isWord_0 at F
  refine s_aln dX13_isWord_0 rfl ?_
  refine gf_19 dX13_isWord_1 rfl ?_
  refine s_aln dX13_isWord_4 rfl ?_
  refine gf_306 dX13_isWord_5 rfl ?_
  refine s_bld hC dX13_isWord_8 rt_5 F.1 ?_
  replace F := F.2
  refine s_bi dX13_isWord_9 kb_6 ?_
  refine s_iin (t := 31) ((σ.2.2.1 5 ((σ.1 10)).toNatClampNeg) = (6 : Int32)) dX13_isWord_11 rfl rfl (fun hc => ?_) (fun hc => ?_)
  · replace F := F.1 hc
    refine s_ic dX13_isWord_31 ki_0 ?_
    exact s_ri dX13_isWord_32 rfl (nb_nar nb_0) F
  · replace F := F.2 hc
    refine s_aln dX13_isWord_14 rfl ?_
    refine gf_26 dX13_isWord_15 rfl ?_
    refine s_aln dX13_isWord_18 rfl ?_
    refine gf_306 dX13_isWord_19 rfl ?_
    refine s_ald hC dX13_isWord_22 rt_7 F.1 ?_
    replace F := F.2
    refine s_iln dX13_isWord_23 rfl ?_
    refine s_iin (t := 31) ((σ.2.2.1 7 ((σ.1 10)).toNatClampNeg) = a1) dX13_isWord_24 rfl rfl (fun hc => ?_) (fun hc => ?_)
    · replace F := F.1 hc
      refine s_ic dX13_isWord_31 ki_0 ?_
      exact s_ri dX13_isWord_32 rfl (nb_nar nb_0) F
    · replace F := F.2 hc
      refine s_ic dX13_isWord_27 ki_1 ?_
      refine s_goto (t := 32) dX13_isWord_28 rfl ?_
      exact s_ri dX13_isWord_32 rfl (nb_nar nb_1) F

theorem m_isWord_run {C : rCx} (hC : cOK C) {Q : Int32 → rS → Prop} {a1 : Int32} {σ : rS} (F : w_isWord_0 C Q a1 σ) : cI C 0 m_isWord [.ref (co C), .int a1] σ Q := m_I (m_ent _ 0) (t_isWord_0 hC F)

theorem dX13_sign_0 : decode cX13_sign 0 = .ok (.aload_n 0, 1) := by decide +kernel
theorem dX13_sign_1 : decode cX13_sign 1 = .ok (.iload_n 1, 1) := by decide +kernel
theorem dX13_sign_2 : decode cX13_sign 2 = .ok (.invokevirtual 316, 3) := by decide +kernel
theorem dX13_sign_5 : decode cX13_sign 5 = .ok (.ifCond .eq 10, 3) := by decide +kernel
theorem dX13_sign_8 : decode cX13_sign 8 = .ok (.aload_n 0, 1) := by decide +kernel
theorem dX13_sign_9 : decode cX13_sign 9 = .ok (.invokevirtual 319, 3) := by decide +kernel
theorem dX13_sign_12 : decode cX13_sign 12 = .ok (.goto 12, 3) := by decide +kernel
theorem dX13_sign_15 : decode cX13_sign 15 = .ok (.aload_n 0, 1) := by decide +kernel
theorem dX13_sign_16 : decode cX13_sign 16 = .ok (.iconst 2, 1) := by decide +kernel
theorem dX13_sign_17 : decode cX13_sign 17 = .ok (.aload_n 0, 1) := by decide +kernel
theorem dX13_sign_18 : decode cX13_sign 18 = .ok (.getfield 306, 3) := by decide +kernel
theorem dX13_sign_21 : decode cX13_sign 21 = .ok (.invokevirtual 312, 3) := by decide +kernel
theorem dX13_sign_24 : decode cX13_sign 24 = .ok (.return_, 1) := by decide +kernel
def w_sign_0 (C : rCx) (Q : rS → Prop)  (a1 : Int32) (σ : rS) : Prop :=
  cI C 0 m_isAt [.ref (co C), .int a1] σ (fun r2 σ1 =>
    (r2 = 0 →
      cV C 0 m_flaw [.ref (co C), .int (2 : Int32), .int (σ1.1 10)] σ1 (fun σ3 =>
        Q σ3)) ∧
    (¬ (r2 = 0) →
      cV C 2 m_go [.ref (co C)] σ1 (fun σ5 =>
        Q σ5)))
theorem t_sign_0 {C : rCx} (hC : cOK C) {Q : rS → Prop}   {a1 : Int32} {σ : rS} (F : w_sign_0 C Q  a1 σ) : wG C 3 m_sign 0 [some (.ref (co C)), some (.int a1)] [] σ (qV Q) := by
  unfold w_sign_0 at F
  refine s_aln dX13_sign_0 rfl ?_
  refine s_iln dX13_sign_1 rfl ?_
  refine k_316 dX13_sign_2 rfl (Nat.le_of_ble_eq_true rfl) (Nat.le_of_ble_eq_true rfl) F (fun r2 σ1 F => ?_)
  refine s_i (t := 15) (r2 = 0) dX13_sign_5 rfl rfl (fun hc => ?_) (fun hc => ?_)
  · replace F := F.1 hc
    refine s_aln dX13_sign_15 rfl ?_
    refine s_ic dX13_sign_16 ki_2 ?_
    refine s_aln dX13_sign_17 rfl ?_
    refine gf_306 dX13_sign_18 rfl ?_
    refine k_312 dX13_sign_21 rfl (Nat.le_of_ble_eq_true rfl) (Nat.le_of_ble_eq_true rfl) F (fun σ3 F => ?_)
    exact s_rv dX13_sign_24 rfl F
  · replace F := F.2 hc
    refine s_aln dX13_sign_8 rfl ?_
    refine k_319 dX13_sign_9 rfl (Nat.le_of_ble_eq_true rfl) (Nat.le_of_ble_eq_true rfl) F (fun σ5 F => ?_)
    refine s_goto (t := 24) dX13_sign_12 rfl ?_
    exact s_rv dX13_sign_24 rfl F

theorem m_sign_run {C : rCx} (hC : cOK C) {Q : rS → Prop} {a1 : Int32} {σ : rS} (F : w_sign_0 C Q a1 σ) : cV C 3 m_sign [.ref (co C), .int a1] σ Q := m_V (m_ent _ 0) (t_sign_0 hC F)

theorem dX13_open_0 : decode cX13_open 0 = .ok (.aload_n 0, 1) := by decide +kernel
theorem dX13_open_1 : decode cX13_open 1 = .ok (.iload_n 1, 1) := by decide +kernel
theorem dX13_open_2 : decode cX13_open 2 = .ok (.invokevirtual 316, 3) := by decide +kernel
theorem dX13_open_5 : decode cX13_open 5 = .ok (.ifCond .ne 15, 3) := by decide +kernel
theorem dX13_open_8 : decode cX13_open 8 = .ok (.aload_n 0, 1) := by decide +kernel
theorem dX13_open_9 : decode cX13_open 9 = .ok (.iconst 2, 1) := by decide +kernel
theorem dX13_open_10 : decode cX13_open 10 = .ok (.aload_n 0, 1) := by decide +kernel
theorem dX13_open_11 : decode cX13_open 11 = .ok (.getfield 306, 3) := by decide +kernel
theorem dX13_open_14 : decode cX13_open 14 = .ok (.invokevirtual 312, 3) := by decide +kernel
theorem dX13_open_17 : decode cX13_open 17 = .ok (.goto 21, 3) := by decide +kernel
theorem dX13_open_20 : decode cX13_open 20 = .ok (.aload_n 0, 1) := by decide +kernel
theorem dX13_open_21 : decode cX13_open 21 = .ok (.getfield 322, 3) := by decide +kernel
theorem dX13_open_24 : decode cX13_open 24 = .ok (.bipush 40, 2) := by decide +kernel
theorem dX13_open_26 : decode cX13_open 26 = .ok (.if_icmp .ne 12, 3) := by decide +kernel
theorem dX13_open_29 : decode cX13_open 29 = .ok (.aload_n 0, 1) := by decide +kernel
theorem dX13_open_30 : decode cX13_open 30 = .ok (.iconst 3, 1) := by decide +kernel
theorem dX13_open_31 : decode cX13_open 31 = .ok (.aload_n 0, 1) := by decide +kernel
theorem dX13_open_32 : decode cX13_open 32 = .ok (.getfield 306, 3) := by decide +kernel
theorem dX13_open_35 : decode cX13_open 35 = .ok (.invokevirtual 312, 3) := by decide +kernel
theorem dX13_open_38 : decode cX13_open 38 = .ok (.aload_n 0, 1) := by decide +kernel
theorem dX13_open_39 : decode cX13_open 39 = .ok (.dup, 1) := by decide +kernel
theorem dX13_open_40 : decode cX13_open 40 = .ok (.getfield 322, 3) := by decide +kernel
theorem dX13_open_43 : decode cX13_open 43 = .ok (.aload_n 0, 1) := by decide +kernel
theorem dX13_open_44 : decode cX13_open 44 = .ok (.invokevirtual 325, 3) := by decide +kernel
theorem dX13_open_47 : decode cX13_open 47 = .ok (.ifCond .eq 7, 3) := by decide +kernel
theorem dX13_open_50 : decode cX13_open 50 = .ok (.iconst 1, 1) := by decide +kernel
theorem dX13_open_51 : decode cX13_open 51 = .ok (.goto 4, 3) := by decide +kernel
theorem dX13_open_54 : decode cX13_open 54 = .ok (.iconst 0, 1) := by decide +kernel
theorem dX13_open_55 : decode cX13_open 55 = .ok (.iadd, 1) := by decide +kernel
theorem dX13_open_56 : decode cX13_open 56 = .ok (.putfield 322, 3) := by decide +kernel
theorem dX13_open_59 : decode cX13_open 59 = .ok (.aload_n 0, 1) := by decide +kernel
theorem dX13_open_60 : decode cX13_open 60 = .ok (.invokevirtual 319, 3) := by decide +kernel
theorem dX13_open_63 : decode cX13_open 63 = .ok (.return_, 1) := by decide +kernel
def w_open_55 (C : rCx) (Q : rS → Prop)  (s1 : Int32) (s2 : Int32) (σ : rS) : Prop :=
  ∀ σ1, σ1 = siU σ 13 (s1 + s2) →
  cV C 2 m_go [.ref (co C)] σ1 (fun σ2 =>
    Q σ2)
theorem t_open_55 {C : rCx} (hC : cOK C) {Q : rS → Prop}   {s1 : Int32} {s2 : Int32} {σ : rS} (F : w_open_55 C Q  s1 s2 σ) : wG C 3 m_open 55 [some (.ref (co C)), none] [.int s2, .int s1, .ref (co C)] σ (qV Q) := by
  unfold w_open_55 at F
  refine s_iadd dX13_open_55 ?_
  refine pf_322 hC dX13_open_56 rfl (fun σ1 eσ1 => ?_)
  replace F := F σ1 eσ1
  refine s_aln dX13_open_59 rfl ?_
  refine k_319 dX13_open_60 rfl (Nat.le_of_ble_eq_true rfl) (Nat.le_of_ble_eq_true rfl) F (fun σ2 F => ?_)
  exact s_rv dX13_open_63 rfl F

def w_open_38 (C : rCx) (Q : rS → Prop)   (σ : rS) : Prop :=
  cI C 0 m_isRight [.ref (co C)] σ (fun r2 σ1 =>
    (r2 = 0 →
      w_open_55 C Q  (σ.1 13) (0 : Int32) σ1) ∧
    (¬ (r2 = 0) →
      w_open_55 C Q  (σ.1 13) (1 : Int32) σ1))
theorem t_open_38 {C : rCx} (hC : cOK C) {Q : rS → Prop}    {σ : rS} (F : w_open_38 C Q   σ) : wG C 3 m_open 38 [some (.ref (co C)), none] [] σ (qV Q) := by
  unfold w_open_38 at F
  refine s_aln dX13_open_38 rfl ?_
  refine s_dup dX13_open_39 rfl ?_
  refine gf_322 dX13_open_40 rfl ?_
  refine s_aln dX13_open_43 rfl ?_
  refine k_325 dX13_open_44 rfl (Nat.le_of_ble_eq_true rfl) (Nat.le_of_ble_eq_true rfl) F (fun r2 σ1 F => ?_)
  refine s_i (t := 54) (r2 = 0) dX13_open_47 rfl rfl (fun hc => ?_) (fun hc => ?_)
  · replace F := F.1 hc
    refine s_ic dX13_open_54 ki_0 ?_
    exact s_k (t_open_55 hC  F) ⟨rfl, trivial⟩
  · replace F := F.2 hc
    refine s_ic dX13_open_50 ki_1 ?_
    refine s_goto (t := 55) dX13_open_51 rfl ?_
    exact s_k (t_open_55 hC  F) ⟨rfl, trivial⟩

def w_open_0 (C : rCx) (Q : rS → Prop)  (a1 : Int32) (σ : rS) : Prop :=
  cI C 0 m_isAt [.ref (co C), .int a1] σ (fun r2 σ1 =>
    (¬ (r2 = 0) →
      (¬ ((σ1.1 13) = (40 : Int32)) →
        w_open_38 C Q   σ1) ∧
      ((σ1.1 13) = (40 : Int32) →
        cV C 0 m_flaw [.ref (co C), .int (3 : Int32), .int (σ1.1 10)] σ1 (fun σ3 =>
          w_open_38 C Q   σ3))) ∧
    (r2 = 0 →
      cV C 0 m_flaw [.ref (co C), .int (2 : Int32), .int (σ1.1 10)] σ1 (fun σ5 =>
        w_open_38 C Q   σ5)))
theorem t_open_0 {C : rCx} (hC : cOK C) {Q : rS → Prop}   {a1 : Int32} {σ : rS} (F : w_open_0 C Q  a1 σ) : wG C 3 m_open 0 [some (.ref (co C)), some (.int a1)] [] σ (qV Q) := by
  unfold w_open_0 at F
  refine s_aln dX13_open_0 rfl ?_
  refine s_iln dX13_open_1 rfl ?_
  refine k_316 dX13_open_2 rfl (Nat.le_of_ble_eq_true rfl) (Nat.le_of_ble_eq_true rfl) F (fun r2 σ1 F => ?_)
  refine s_in (t := 20) (r2 = 0) dX13_open_5 rfl rfl (fun hc => ?_) (fun hc => ?_)
  · replace F := F.1 hc
    refine s_aln dX13_open_20 rfl ?_
    refine gf_322 dX13_open_21 rfl ?_
    refine s_bi dX13_open_24 kb_40 ?_
    refine s_iin (t := 38) ((σ1.1 13) = (40 : Int32)) dX13_open_26 rfl rfl (fun hc => ?_) (fun hc => ?_)
    · replace F := F.1 hc
      exact s_k (t_open_38 hC  F) ⟨rfl, trivial⟩
    · replace F := F.2 hc
      refine s_aln dX13_open_29 rfl ?_
      refine s_ic dX13_open_30 ki_3 ?_
      refine s_aln dX13_open_31 rfl ?_
      refine gf_306 dX13_open_32 rfl ?_
      refine k_312 dX13_open_35 rfl (Nat.le_of_ble_eq_true rfl) (Nat.le_of_ble_eq_true rfl) F (fun σ3 F => ?_)
      exact s_k (t_open_38 hC  F) ⟨rfl, trivial⟩
  · replace F := F.2 hc
    refine s_aln dX13_open_8 rfl ?_
    refine s_ic dX13_open_9 ki_2 ?_
    refine s_aln dX13_open_10 rfl ?_
    refine gf_306 dX13_open_11 rfl ?_
    refine k_312 dX13_open_14 rfl (Nat.le_of_ble_eq_true rfl) (Nat.le_of_ble_eq_true rfl) F (fun σ5 F => ?_)
    refine s_goto (t := 38) dX13_open_17 rfl ?_
    exact s_k (t_open_38 hC  F) ⟨rfl, trivial⟩

theorem m_open_run {C : rCx} (hC : cOK C) {Q : rS → Prop} {a1 : Int32} {σ : rS} (F : w_open_0 C Q a1 σ) : cV C 3 m_open [.ref (co C), .int a1] σ Q := m_V (m_ent _ 0) (t_open_0 hC F)

