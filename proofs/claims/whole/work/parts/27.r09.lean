/-! methods of the reference: endingNumber, addNext, expand, isTaken, leads, findReach -/
theorem dX13_endingNumber_0 : decode cX13_endingNumber 0 = .ok (.iconst 0, 1) := by decide +kernel
theorem dX13_endingNumber_1 : decode cX13_endingNumber 1 = .ok (.istore_n 1, 1) := by decide +kernel
theorem dX13_endingNumber_2 : decode cX13_endingNumber 2 = .ok (.iload_n 1, 1) := by decide +kernel
theorem dX13_endingNumber_3 : decode cX13_endingNumber 3 = .ok (.aload_n 0, 1) := by decide +kernel
theorem dX13_endingNumber_4 : decode cX13_endingNumber 4 = .ok (.getfield 545, 3) := by decide +kernel
theorem dX13_endingNumber_7 : decode cX13_endingNumber 7 = .ok (.if_icmp .ge 83, 3) := by decide +kernel
theorem dX13_endingNumber_10 : decode cX13_endingNumber 10 = .ok (.aload_n 0, 1) := by decide +kernel
theorem dX13_endingNumber_11 : decode cX13_endingNumber 11 = .ok (.getfield 148, 3) := by decide +kernel
theorem dX13_endingNumber_14 : decode cX13_endingNumber 14 = .ok (.bipush 35, 2) := by decide +kernel
theorem dX13_endingNumber_16 : decode cX13_endingNumber 16 = .ok (.iload_n 1, 1) := by decide +kernel
theorem dX13_endingNumber_17 : decode cX13_endingNumber 17 = .ok (.imul, 1) := by decide +kernel
theorem dX13_endingNumber_18 : decode cX13_endingNumber 18 = .ok (.iaload, 1) := by decide +kernel
theorem dX13_endingNumber_19 : decode cX13_endingNumber 19 = .ok (.aload_n 0, 1) := by decide +kernel
theorem dX13_endingNumber_20 : decode cX13_endingNumber 20 = .ok (.getfield 554, 3) := by decide +kernel
theorem dX13_endingNumber_23 : decode cX13_endingNumber 23 = .ok (.if_icmp .ne 7, 3) := by decide +kernel
theorem dX13_endingNumber_26 : decode cX13_endingNumber 26 = .ok (.iconst 1, 1) := by decide +kernel
theorem dX13_endingNumber_27 : decode cX13_endingNumber 27 = .ok (.goto 4, 3) := by decide +kernel
theorem dX13_endingNumber_30 : decode cX13_endingNumber 30 = .ok (.iconst 0, 1) := by decide +kernel
theorem dX13_endingNumber_31 : decode cX13_endingNumber 31 = .ok (.istore_n 2, 1) := by decide +kernel
theorem dX13_endingNumber_32 : decode cX13_endingNumber 32 = .ok (.iconst 0, 1) := by decide +kernel
theorem dX13_endingNumber_33 : decode cX13_endingNumber 33 = .ok (.istore_n 3, 1) := by decide +kernel
theorem dX13_endingNumber_34 : decode cX13_endingNumber 34 = .ok (.iload_n 3, 1) := by decide +kernel
theorem dX13_endingNumber_35 : decode cX13_endingNumber 35 = .ok (.bipush 34, 2) := by decide +kernel
theorem dX13_endingNumber_37 : decode cX13_endingNumber 37 = .ok (.if_icmp .ge 41, 3) := by decide +kernel
theorem dX13_endingNumber_40 : decode cX13_endingNumber 40 = .ok (.iload_n 2, 1) := by decide +kernel
theorem dX13_endingNumber_41 : decode cX13_endingNumber 41 = .ok (.ifCond .eq 37, 3) := by decide +kernel
theorem dX13_endingNumber_44 : decode cX13_endingNumber 44 = .ok (.aload_n 0, 1) := by decide +kernel
theorem dX13_endingNumber_45 : decode cX13_endingNumber 45 = .ok (.getfield 148, 3) := by decide +kernel
theorem dX13_endingNumber_48 : decode cX13_endingNumber 48 = .ok (.bipush 35, 2) := by decide +kernel
theorem dX13_endingNumber_50 : decode cX13_endingNumber 50 = .ok (.iload_n 1, 1) := by decide +kernel
theorem dX13_endingNumber_51 : decode cX13_endingNumber 51 = .ok (.imul, 1) := by decide +kernel
theorem dX13_endingNumber_52 : decode cX13_endingNumber 52 = .ok (.iconst 1, 1) := by decide +kernel
theorem dX13_endingNumber_53 : decode cX13_endingNumber 53 = .ok (.iadd, 1) := by decide +kernel
theorem dX13_endingNumber_54 : decode cX13_endingNumber 54 = .ok (.iload_n 3, 1) := by decide +kernel
theorem dX13_endingNumber_55 : decode cX13_endingNumber 55 = .ok (.iadd, 1) := by decide +kernel
theorem dX13_endingNumber_56 : decode cX13_endingNumber 56 = .ok (.iaload, 1) := by decide +kernel
theorem dX13_endingNumber_57 : decode cX13_endingNumber 57 = .ok (.aload_n 0, 1) := by decide +kernel
theorem dX13_endingNumber_58 : decode cX13_endingNumber 58 = .ok (.getfield 122, 3) := by decide +kernel
theorem dX13_endingNumber_61 : decode cX13_endingNumber 61 = .ok (.iload_n 3, 1) := by decide +kernel
theorem dX13_endingNumber_62 : decode cX13_endingNumber 62 = .ok (.iaload, 1) := by decide +kernel
theorem dX13_endingNumber_63 : decode cX13_endingNumber 63 = .ok (.if_icmp .ne 7, 3) := by decide +kernel
theorem dX13_endingNumber_66 : decode cX13_endingNumber 66 = .ok (.iconst 1, 1) := by decide +kernel
theorem dX13_endingNumber_67 : decode cX13_endingNumber 67 = .ok (.goto 4, 3) := by decide +kernel
theorem dX13_endingNumber_70 : decode cX13_endingNumber 70 = .ok (.iconst 0, 1) := by decide +kernel
theorem dX13_endingNumber_71 : decode cX13_endingNumber 71 = .ok (.istore_n 2, 1) := by decide +kernel
theorem dX13_endingNumber_72 : decode cX13_endingNumber 72 = .ok (.iinc 3 1, 3) := by decide +kernel
theorem dX13_endingNumber_75 : decode cX13_endingNumber 75 = .ok (.goto (-41), 3) := by decide +kernel
theorem dX13_endingNumber_78 : decode cX13_endingNumber 78 = .ok (.iload_n 2, 1) := by decide +kernel
theorem dX13_endingNumber_79 : decode cX13_endingNumber 79 = .ok (.ifCond .eq 5, 3) := by decide +kernel
theorem dX13_endingNumber_82 : decode cX13_endingNumber 82 = .ok (.iload_n 1, 1) := by decide +kernel
theorem dX13_endingNumber_83 : decode cX13_endingNumber 83 = .ok (.ireturn, 1) := by decide +kernel
theorem dX13_endingNumber_84 : decode cX13_endingNumber 84 = .ok (.iinc 1 1, 3) := by decide +kernel
theorem dX13_endingNumber_87 : decode cX13_endingNumber 87 = .ok (.goto (-85), 3) := by decide +kernel
theorem dX13_endingNumber_90 : decode cX13_endingNumber 90 = .ok (.aload_n 0, 1) := by decide +kernel
theorem dX13_endingNumber_91 : decode cX13_endingNumber 91 = .ok (.getfield 545, 3) := by decide +kernel
theorem dX13_endingNumber_94 : decode cX13_endingNumber 94 = .ok (.sipush 1000, 3) := by decide +kernel
theorem dX13_endingNumber_97 : decode cX13_endingNumber 97 = .ok (.if_icmp .ne 5, 3) := by decide +kernel
theorem dX13_endingNumber_100 : decode cX13_endingNumber 100 = .ok (.iconst (-1), 1) := by decide +kernel
theorem dX13_endingNumber_101 : decode cX13_endingNumber 101 = .ok (.ireturn, 1) := by decide +kernel
theorem dX13_endingNumber_102 : decode cX13_endingNumber 102 = .ok (.aload_n 0, 1) := by decide +kernel
theorem dX13_endingNumber_103 : decode cX13_endingNumber 103 = .ok (.getfield 148, 3) := by decide +kernel
theorem dX13_endingNumber_106 : decode cX13_endingNumber 106 = .ok (.bipush 35, 2) := by decide +kernel
theorem dX13_endingNumber_108 : decode cX13_endingNumber 108 = .ok (.aload_n 0, 1) := by decide +kernel
theorem dX13_endingNumber_109 : decode cX13_endingNumber 109 = .ok (.getfield 545, 3) := by decide +kernel
theorem dX13_endingNumber_112 : decode cX13_endingNumber 112 = .ok (.imul, 1) := by decide +kernel
theorem dX13_endingNumber_113 : decode cX13_endingNumber 113 = .ok (.aload_n 0, 1) := by decide +kernel
theorem dX13_endingNumber_114 : decode cX13_endingNumber 114 = .ok (.getfield 554, 3) := by decide +kernel
theorem dX13_endingNumber_117 : decode cX13_endingNumber 117 = .ok (.iastore, 1) := by decide +kernel
theorem dX13_endingNumber_118 : decode cX13_endingNumber 118 = .ok (.iconst 0, 1) := by decide +kernel
theorem dX13_endingNumber_119 : decode cX13_endingNumber 119 = .ok (.istore_n 1, 1) := by decide +kernel
theorem dX13_endingNumber_120 : decode cX13_endingNumber 120 = .ok (.iload_n 1, 1) := by decide +kernel
theorem dX13_endingNumber_121 : decode cX13_endingNumber 121 = .ok (.bipush 34, 2) := by decide +kernel
theorem dX13_endingNumber_123 : decode cX13_endingNumber 123 = .ok (.if_icmp .ge 31, 3) := by decide +kernel
theorem dX13_endingNumber_126 : decode cX13_endingNumber 126 = .ok (.aload_n 0, 1) := by decide +kernel
theorem dX13_endingNumber_127 : decode cX13_endingNumber 127 = .ok (.getfield 148, 3) := by decide +kernel
theorem dX13_endingNumber_130 : decode cX13_endingNumber 130 = .ok (.bipush 35, 2) := by decide +kernel
theorem dX13_endingNumber_132 : decode cX13_endingNumber 132 = .ok (.aload_n 0, 1) := by decide +kernel
theorem dX13_endingNumber_133 : decode cX13_endingNumber 133 = .ok (.getfield 545, 3) := by decide +kernel
theorem dX13_endingNumber_136 : decode cX13_endingNumber 136 = .ok (.imul, 1) := by decide +kernel
theorem dX13_endingNumber_137 : decode cX13_endingNumber 137 = .ok (.iconst 1, 1) := by decide +kernel
theorem dX13_endingNumber_138 : decode cX13_endingNumber 138 = .ok (.iadd, 1) := by decide +kernel
theorem dX13_endingNumber_139 : decode cX13_endingNumber 139 = .ok (.iload_n 1, 1) := by decide +kernel
theorem dX13_endingNumber_140 : decode cX13_endingNumber 140 = .ok (.iadd, 1) := by decide +kernel
theorem dX13_endingNumber_141 : decode cX13_endingNumber 141 = .ok (.aload_n 0, 1) := by decide +kernel
theorem dX13_endingNumber_142 : decode cX13_endingNumber 142 = .ok (.getfield 122, 3) := by decide +kernel
theorem dX13_endingNumber_145 : decode cX13_endingNumber 145 = .ok (.iload_n 1, 1) := by decide +kernel
theorem dX13_endingNumber_146 : decode cX13_endingNumber 146 = .ok (.iaload, 1) := by decide +kernel
theorem dX13_endingNumber_147 : decode cX13_endingNumber 147 = .ok (.iastore, 1) := by decide +kernel
theorem dX13_endingNumber_148 : decode cX13_endingNumber 148 = .ok (.iinc 1 1, 3) := by decide +kernel
theorem dX13_endingNumber_151 : decode cX13_endingNumber 151 = .ok (.goto (-31), 3) := by decide +kernel
theorem dX13_endingNumber_154 : decode cX13_endingNumber 154 = .ok (.aload_n 0, 1) := by decide +kernel
theorem dX13_endingNumber_155 : decode cX13_endingNumber 155 = .ok (.dup, 1) := by decide +kernel
theorem dX13_endingNumber_156 : decode cX13_endingNumber 156 = .ok (.getfield 545, 3) := by decide +kernel
theorem dX13_endingNumber_159 : decode cX13_endingNumber 159 = .ok (.iconst 1, 1) := by decide +kernel
theorem dX13_endingNumber_160 : decode cX13_endingNumber 160 = .ok (.iadd, 1) := by decide +kernel
theorem dX13_endingNumber_161 : decode cX13_endingNumber 161 = .ok (.putfield 545, 3) := by decide +kernel
theorem dX13_endingNumber_164 : decode cX13_endingNumber 164 = .ok (.aload_n 0, 1) := by decide +kernel
theorem dX13_endingNumber_165 : decode cX13_endingNumber 165 = .ok (.getfield 545, 3) := by decide +kernel
theorem dX13_endingNumber_168 : decode cX13_endingNumber 168 = .ok (.iconst 1, 1) := by decide +kernel
theorem dX13_endingNumber_169 : decode cX13_endingNumber 169 = .ok (.isub, 1) := by decide +kernel
theorem dX13_endingNumber_170 : decode cX13_endingNumber 170 = .ok (.ireturn, 1) := by decide +kernel
def w_endingNumber_71 (C : rCx) (Q : Int32 → rS → Prop) (B2 : Int32 → rS → Prop) (B34 : Int32 → Int32 → Int32 → rS → Prop) (a1 : Int32) (a3 : Int32) (s0 : Int32) (σ : rS) : Prop :=
  ∀ v3_1 : Int32, v3_1 = a3 + (1 : Int32) →
  B34 a1 s0 v3_1 σ
theorem t_endingNumber_71 {C : rCx} (hC : cOK C) {Q : Int32 → rS → Prop} {B2 : Int32 → rS → Prop} {B34 : Int32 → Int32 → Int32 → rS → Prop} (hB2 : ∀ a1' τ, B2 a1' τ → wG C 0 m_endingNumber 2 [some (.ref (co C)), some (.int a1'), none, none] [] τ (qI Q)) (hB34 : ∀ a1' a2' a3' τ, B34 a1' a2' a3' τ → wG C 0 m_endingNumber 34 [some (.ref (co C)), some (.int a1'), some (.int a2'), some (.int a3')] [] τ (qI Q)) {a1 : Int32} {a3 : Int32} {s0 : Int32} {σ : rS} (F : w_endingNumber_71 C Q B2 B34 a1 a3 s0 σ) : wG C 0 m_endingNumber 71 [some (.ref (co C)), some (.int a1), none, some (.int a3)] [.int s0] σ (qI Q) := by
  unfold w_endingNumber_71 at F
  refine s_isn dX13_endingNumber_71 (Nat.le_of_ble_eq_true rfl) rfl ?_
  refine s_incb dX13_endingNumber_72 ki_1 rfl (Nat.le_of_ble_eq_true rfl) (fun v3_1 ev3_1 => ?_)
  replace F := F v3_1 ev3_1
  refine s_goto (t := 34) dX13_endingNumber_75 rfl ?_
  exact s_k (hB34 _ _ _ _ F) ⟨rfl, rfl, rfl, rfl, trivial⟩

def w_endingNumber_78 (C : rCx) (Q : Int32 → rS → Prop) (B2 : Int32 → rS → Prop) (a1 : Int32) (a2 : Int32) (σ : rS) : Prop :=
  (a2 = 0 →
    ∀ v1_1 : Int32, v1_1 = a1 + (1 : Int32) →
    B2 v1_1 σ) ∧
  (¬ (a2 = 0) →
    Q a1 σ)
theorem t_endingNumber_78 {C : rCx} (hC : cOK C) {Q : Int32 → rS → Prop} {B2 : Int32 → rS → Prop} (hB2 : ∀ a1' τ, B2 a1' τ → wG C 0 m_endingNumber 2 [some (.ref (co C)), some (.int a1'), none, none] [] τ (qI Q)) {a1 : Int32} {a2 : Int32} {σ : rS} (F : w_endingNumber_78 C Q B2 a1 a2 σ) : wG C 0 m_endingNumber 78 [some (.ref (co C)), some (.int a1), some (.int a2), none] [] σ (qI Q) := by
  unfold w_endingNumber_78 at F
  refine s_iln dX13_endingNumber_78 rfl ?_
  refine s_i (t := 84) (a2 = 0) dX13_endingNumber_79 rfl rfl (fun hc => ?_) (fun hc => ?_)
  · replace F := F.1 hc
    refine s_incb dX13_endingNumber_84 ki_1 rfl (Nat.le_of_ble_eq_true rfl) (fun v1_1 ev1_1 => ?_)
    replace F := F v1_1 ev1_1
    refine s_goto (t := 2) dX13_endingNumber_87 rfl ?_
    exact s_k (hB2 _ _ F) ⟨rfl, rfl, trivial⟩
  · replace F := F.2 hc
    refine s_iln dX13_endingNumber_82 rfl ?_
    exact s_ri dX13_endingNumber_83 rfl in_nar F

def w_endingNumber_34 (C : rCx) (Q : Int32 → rS → Prop) (B2 : Int32 → rS → Prop) (a1 : Int32) (a2 : Int32) (a3 : Int32) (σ : rS) : Prop :=
  ∃ I : Nat → Int32 → Int32 → Int32 → rS → Prop, (∃ n, I n a1 a2 a3 σ) ∧ ∀ n a1 a2 a3 σ, I n a1 a2 a3 σ →
    ((34 : Int32) ≤ a3 →
      w_endingNumber_78 C Q B2 a1 a2 σ) ∧
    (¬ ((34 : Int32) ≤ a3) →
      (a2 = 0 →
        w_endingNumber_78 C Q B2 a1 a2 σ) ∧
      (¬ (a2 = 0) →
        inb ((((35 : Int32) * a1) + (1 : Int32)) + a3) 35000 ∧
        inb a3 34 ∧
        (¬ ((σ.2.2.1 75 (((((35 : Int32) * a1) + (1 : Int32)) + a3)).toNatClampNeg) = (σ.2.2.1 57 (a3).toNatClampNeg)) →
          w_endingNumber_71 C Q B2 (fun a1' a2' a3' τ => ∃ k < n, I k a1' a2' a3' τ) a1 a3 (0 : Int32) σ) ∧
        ((σ.2.2.1 75 (((((35 : Int32) * a1) + (1 : Int32)) + a3)).toNatClampNeg) = (σ.2.2.1 57 (a3).toNatClampNeg) →
          w_endingNumber_71 C Q B2 (fun a1' a2' a3' τ => ∃ k < n, I k a1' a2' a3' τ) a1 a3 (1 : Int32) σ)))
theorem t_endingNumber_34 {C : rCx} (hC : cOK C) {Q : Int32 → rS → Prop} {B2 : Int32 → rS → Prop} (hB2 : ∀ a1' τ, B2 a1' τ → wG C 0 m_endingNumber 2 [some (.ref (co C)), some (.int a1'), none, none] [] τ (qI Q)) {a1 : Int32} {a2 : Int32} {a3 : Int32} {σ : rS} (F : w_endingNumber_34 C Q B2 a1 a2 a3 σ) : wG C 0 m_endingNumber 34 [some (.ref (co C)), some (.int a1), some (.int a2), some (.int a3)] [] σ (qI Q) := by
  obtain ⟨I, ⟨n0, hI0⟩, F0⟩ := F
  have key : ∀ n a1 a2 a3 σ, I n a1 a2 a3 σ → wG C 0 m_endingNumber 34 [some (.ref (co C)), some (.int a1), some (.int a2), some (.int a3)] [] σ (qI Q) := by
    intro n
    induction n using Nat.strongRecOn with
    | _ n ih =>
      intro a1 a2 a3 σ hI
      have F := F0 n a1 a2 a3 σ hI
      clear hI hI0
      refine s_iln dX13_endingNumber_34 rfl ?_
      refine s_bi dX13_endingNumber_35 kb_34 ?_
      refine s_ii (t := 78) ((34 : Int32) ≤ a3) dX13_endingNumber_37 rfl rfl (fun hc => ?_) (fun hc => ?_)
      · replace F := F.1 hc
        exact s_k (t_endingNumber_78 hC hB2 F) ⟨rfl, rfl, rfl, trivial⟩
      · replace F := F.2 hc
        refine s_iln dX13_endingNumber_40 rfl ?_
        refine s_i (t := 78) (a2 = 0) dX13_endingNumber_41 rfl rfl (fun hc => ?_) (fun hc => ?_)
        · replace F := F.1 hc
          exact s_k (t_endingNumber_78 hC hB2 F) ⟨rfl, rfl, rfl, trivial⟩
        · replace F := F.2 hc
          refine s_aln dX13_endingNumber_44 rfl ?_
          refine gf_148 dX13_endingNumber_45 rfl ?_
          refine s_bi dX13_endingNumber_48 kb_35 ?_
          refine s_iln dX13_endingNumber_50 rfl ?_
          refine s_imul dX13_endingNumber_51 ?_
          refine s_ic dX13_endingNumber_52 ki_1 ?_
          refine s_iadd dX13_endingNumber_53 ?_
          refine s_iln dX13_endingNumber_54 rfl ?_
          refine s_iadd dX13_endingNumber_55 ?_
          refine s_ald hC dX13_endingNumber_56 rt_75 F.1 ?_
          replace F := F.2
          refine s_aln dX13_endingNumber_57 rfl ?_
          refine gf_122 dX13_endingNumber_58 rfl ?_
          refine s_iln dX13_endingNumber_61 rfl ?_
          refine s_ald hC dX13_endingNumber_62 rt_57 F.1 ?_
          replace F := F.2
          refine s_iin (t := 70) ((σ.2.2.1 75 (((((35 : Int32) * a1) + (1 : Int32)) + a3)).toNatClampNeg) = (σ.2.2.1 57 (a3).toNatClampNeg)) dX13_endingNumber_63 rfl rfl (fun hc => ?_) (fun hc => ?_)
          · replace F := F.1 hc
            refine s_ic dX13_endingNumber_70 ki_0 ?_
            exact s_k (t_endingNumber_71 hC hB2 (fun a1' a2' a3' τ hb => by obtain ⟨k, hk, hI⟩ := hb; exact ih k hk a1' a2' a3' τ hI) F) ⟨rfl, rfl, rfl, trivial⟩
          · replace F := F.2 hc
            refine s_ic dX13_endingNumber_66 ki_1 ?_
            refine s_goto (t := 71) dX13_endingNumber_67 rfl ?_
            exact s_k (t_endingNumber_71 hC hB2 (fun a1' a2' a3' τ hb => by obtain ⟨k, hk, hI⟩ := hb; exact ih k hk a1' a2' a3' τ hI) F) ⟨rfl, rfl, rfl, trivial⟩
  exact key n0 a1 a2 a3 σ hI0

def w_endingNumber_31 (C : rCx) (Q : Int32 → rS → Prop) (B2 : Int32 → rS → Prop) (a1 : Int32) (s0 : Int32) (σ : rS) : Prop :=
  w_endingNumber_34 C Q B2 a1 s0 (0 : Int32) σ
theorem t_endingNumber_31 {C : rCx} (hC : cOK C) {Q : Int32 → rS → Prop} {B2 : Int32 → rS → Prop} (hB2 : ∀ a1' τ, B2 a1' τ → wG C 0 m_endingNumber 2 [some (.ref (co C)), some (.int a1'), none, none] [] τ (qI Q)) {a1 : Int32} {s0 : Int32} {σ : rS} (F : w_endingNumber_31 C Q B2 a1 s0 σ) : wG C 0 m_endingNumber 31 [some (.ref (co C)), some (.int a1), none, none] [.int s0] σ (qI Q) := by
  unfold w_endingNumber_31 at F
  refine s_isn dX13_endingNumber_31 (Nat.le_of_ble_eq_true rfl) rfl ?_
  refine s_ic dX13_endingNumber_32 ki_0 ?_
  refine s_isn dX13_endingNumber_33 (Nat.le_of_ble_eq_true rfl) rfl ?_
  exact s_k (t_endingNumber_34 hC hB2 F) ⟨rfl, rfl, rfl, rfl, trivial⟩

def w_endingNumber_120 (C : rCx) (Q : Int32 → rS → Prop)  (a1 : Int32) (σ : rS) : Prop :=
  ∃ I : Nat → Int32 → rS → Prop, (∃ n, I n a1 σ) ∧ ∀ n a1 σ, I n a1 σ →
    ((34 : Int32) ≤ a1 →
      ∀ σ1, σ1 = siU σ 71 ((σ.1 71) + (1 : Int32)) →
      Q ((σ1.1 71) - (1 : Int32)) σ1) ∧
    (¬ ((34 : Int32) ≤ a1) →
      inb a1 34 ∧
      inb ((((35 : Int32) * (σ.1 71)) + (1 : Int32)) + a1) 35000 ∧
      ∀ σ2, σ2 = riU σ 75 (((((35 : Int32) * (σ.1 71)) + (1 : Int32)) + a1)).toNatClampNeg (σ.2.2.1 57 (a1).toNatClampNeg) →
      ∀ v1_3 : Int32, v1_3 = a1 + (1 : Int32) →
      ∃ k < n, I k v1_3 σ2)
theorem t_endingNumber_120 {C : rCx} (hC : cOK C) {Q : Int32 → rS → Prop}   {a1 : Int32} {σ : rS} (F : w_endingNumber_120 C Q  a1 σ) : wG C 0 m_endingNumber 120 [some (.ref (co C)), some (.int a1), none, none] [] σ (qI Q) := by
  obtain ⟨I, ⟨n0, hI0⟩, F0⟩ := F
  have key : ∀ n a1 σ, I n a1 σ → wG C 0 m_endingNumber 120 [some (.ref (co C)), some (.int a1), none, none] [] σ (qI Q) := by
    intro n
    induction n using Nat.strongRecOn with
    | _ n ih =>
      intro a1 σ hI
      have F := F0 n a1 σ hI
      clear hI hI0
      refine s_iln dX13_endingNumber_120 rfl ?_
      refine s_bi dX13_endingNumber_121 kb_34 ?_
      refine s_ii (t := 154) ((34 : Int32) ≤ a1) dX13_endingNumber_123 rfl rfl (fun hc => ?_) (fun hc => ?_)
      · replace F := F.1 hc
        refine s_aln dX13_endingNumber_154 rfl ?_
        refine s_dup dX13_endingNumber_155 rfl ?_
        refine gf_545 dX13_endingNumber_156 rfl ?_
        refine s_ic dX13_endingNumber_159 ki_1 ?_
        refine s_iadd dX13_endingNumber_160 ?_
        refine pf_545 hC dX13_endingNumber_161 rfl (fun σ1 eσ1 => ?_)
        replace F := F σ1 eσ1
        refine s_aln dX13_endingNumber_164 rfl ?_
        refine gf_545 dX13_endingNumber_165 rfl ?_
        refine s_ic dX13_endingNumber_168 ki_1 ?_
        refine s_isub dX13_endingNumber_169 ?_
        exact s_ri dX13_endingNumber_170 rfl in_nar F
      · replace F := F.2 hc
        refine s_aln dX13_endingNumber_126 rfl ?_
        refine gf_148 dX13_endingNumber_127 rfl ?_
        refine s_bi dX13_endingNumber_130 kb_35 ?_
        refine s_aln dX13_endingNumber_132 rfl ?_
        refine gf_545 dX13_endingNumber_133 rfl ?_
        refine s_imul dX13_endingNumber_136 ?_
        refine s_ic dX13_endingNumber_137 ki_1 ?_
        refine s_iadd dX13_endingNumber_138 ?_
        refine s_iln dX13_endingNumber_139 rfl ?_
        refine s_iadd dX13_endingNumber_140 ?_
        refine s_aln dX13_endingNumber_141 rfl ?_
        refine gf_122 dX13_endingNumber_142 rfl ?_
        refine s_iln dX13_endingNumber_145 rfl ?_
        refine s_ald hC dX13_endingNumber_146 rt_57 F.1 ?_
        replace F := F.2
        refine s_astb hC dX13_endingNumber_147 rt_75 F.1 (fun σ2 eσ2 => ?_)
        replace F := F.2 σ2 eσ2
        refine s_incb dX13_endingNumber_148 ki_1 rfl (Nat.le_of_ble_eq_true rfl) (fun v1_3 ev1_3 => ?_)
        replace F := F v1_3 ev1_3
        refine s_goto (t := 120) dX13_endingNumber_151 rfl ?_
        obtain ⟨k, hk, hI⟩ := F
        exact s_k (ih k hk _ _ hI) ⟨rfl, rfl, trivial⟩
  exact key n0 a1 σ hI0

def w_endingNumber_2 (C : rCx) (Q : Int32 → rS → Prop)  (a1 : Int32) (σ : rS) : Prop :=
  ∃ I : Nat → Int32 → rS → Prop, (∃ n, I n a1 σ) ∧ ∀ n a1 σ, I n a1 σ →
    ((σ.1 71) ≤ a1 →
      (¬ ((σ.1 71) = (1000 : Int32)) →
        inb ((35 : Int32) * (σ.1 71)) 35000 ∧
        ∀ σ1, σ1 = riU σ 75 (((35 : Int32) * (σ.1 71))).toNatClampNeg (σ.1 61) →
        w_endingNumber_120 C Q  (0 : Int32) σ1) ∧
      ((σ.1 71) = (1000 : Int32) →
        Q (-1 : Int32) σ)) ∧
    (¬ ((σ.1 71) ≤ a1) →
      inb ((35 : Int32) * a1) 35000 ∧
      (¬ ((σ.2.2.1 75 (((35 : Int32) * a1)).toNatClampNeg) = (σ.1 61)) →
        w_endingNumber_31 C Q (fun a1' τ => ∃ k < n, I k a1' τ) a1 (0 : Int32) σ) ∧
      ((σ.2.2.1 75 (((35 : Int32) * a1)).toNatClampNeg) = (σ.1 61) →
        w_endingNumber_31 C Q (fun a1' τ => ∃ k < n, I k a1' τ) a1 (1 : Int32) σ))
theorem t_endingNumber_2 {C : rCx} (hC : cOK C) {Q : Int32 → rS → Prop}   {a1 : Int32} {σ : rS} (F : w_endingNumber_2 C Q  a1 σ) : wG C 0 m_endingNumber 2 [some (.ref (co C)), some (.int a1), none, none] [] σ (qI Q) := by
  obtain ⟨I, ⟨n0, hI0⟩, F0⟩ := F
  have key : ∀ n a1 σ, I n a1 σ → wG C 0 m_endingNumber 2 [some (.ref (co C)), some (.int a1), none, none] [] σ (qI Q) := by
    intro n
    induction n using Nat.strongRecOn with
    | _ n ih =>
      intro a1 σ hI
      have F := F0 n a1 σ hI
      clear hI hI0
      refine s_iln dX13_endingNumber_2 rfl ?_
      refine s_aln dX13_endingNumber_3 rfl ?_
      refine gf_545 dX13_endingNumber_4 rfl ?_
      refine s_ii (t := 90) ((σ.1 71) ≤ a1) dX13_endingNumber_7 rfl rfl (fun hc => ?_) (fun hc => ?_)
      · replace F := F.1 hc
        refine s_aln dX13_endingNumber_90 rfl ?_
        refine gf_545 dX13_endingNumber_91 rfl ?_
        refine s_si dX13_endingNumber_94 ks_1000 ?_
        refine s_iin (t := 102) ((σ.1 71) = (1000 : Int32)) dX13_endingNumber_97 rfl rfl (fun hc => ?_) (fun hc => ?_)
        · replace F := F.1 hc
          refine s_aln dX13_endingNumber_102 rfl ?_
          refine gf_148 dX13_endingNumber_103 rfl ?_
          refine s_bi dX13_endingNumber_106 kb_35 ?_
          refine s_aln dX13_endingNumber_108 rfl ?_
          refine gf_545 dX13_endingNumber_109 rfl ?_
          refine s_imul dX13_endingNumber_112 ?_
          refine s_aln dX13_endingNumber_113 rfl ?_
          refine gf_554 dX13_endingNumber_114 rfl ?_
          refine s_astb hC dX13_endingNumber_117 rt_75 F.1 (fun σ1 eσ1 => ?_)
          replace F := F.2 σ1 eσ1
          refine s_ic dX13_endingNumber_118 ki_0 ?_
          refine s_isn dX13_endingNumber_119 (Nat.le_of_ble_eq_true rfl) rfl ?_
          exact s_k (t_endingNumber_120 hC  F) ⟨rfl, rfl, trivial⟩
        · replace F := F.2 hc
          refine s_ic dX13_endingNumber_100 ki_m1 ?_
          exact s_ri dX13_endingNumber_101 rfl in_nar F
      · replace F := F.2 hc
        refine s_aln dX13_endingNumber_10 rfl ?_
        refine gf_148 dX13_endingNumber_11 rfl ?_
        refine s_bi dX13_endingNumber_14 kb_35 ?_
        refine s_iln dX13_endingNumber_16 rfl ?_
        refine s_imul dX13_endingNumber_17 ?_
        refine s_ald hC dX13_endingNumber_18 rt_75 F.1 ?_
        replace F := F.2
        refine s_aln dX13_endingNumber_19 rfl ?_
        refine gf_554 dX13_endingNumber_20 rfl ?_
        refine s_iin (t := 30) ((σ.2.2.1 75 (((35 : Int32) * a1)).toNatClampNeg) = (σ.1 61)) dX13_endingNumber_23 rfl rfl (fun hc => ?_) (fun hc => ?_)
        · replace F := F.1 hc
          refine s_ic dX13_endingNumber_30 ki_0 ?_
          exact s_k (t_endingNumber_31 hC (fun a1' τ hb => by obtain ⟨k, hk, hI⟩ := hb; exact ih k hk a1' τ hI) F) ⟨rfl, rfl, trivial⟩
        · replace F := F.2 hc
          refine s_ic dX13_endingNumber_26 ki_1 ?_
          refine s_goto (t := 31) dX13_endingNumber_27 rfl ?_
          exact s_k (t_endingNumber_31 hC (fun a1' τ hb => by obtain ⟨k, hk, hI⟩ := hb; exact ih k hk a1' τ hI) F) ⟨rfl, rfl, trivial⟩
  exact key n0 a1 σ hI0

def w_endingNumber_0 (C : rCx) (Q : Int32 → rS → Prop)   (σ : rS) : Prop :=
  w_endingNumber_2 C Q  (0 : Int32) σ
theorem t_endingNumber_0 {C : rCx} (hC : cOK C) {Q : Int32 → rS → Prop}    {σ : rS} (F : w_endingNumber_0 C Q   σ) : wG C 0 m_endingNumber 0 [some (.ref (co C)), none, none, none] [] σ (qI Q) := by
  unfold w_endingNumber_0 at F
  refine s_ic dX13_endingNumber_0 ki_0 ?_
  refine s_isn dX13_endingNumber_1 (Nat.le_of_ble_eq_true rfl) rfl ?_
  exact s_k (t_endingNumber_2 hC  F) ⟨rfl, rfl, trivial⟩

theorem m_endingNumber_run {C : rCx} (hC : cOK C) {Q : Int32 → rS → Prop}  {σ : rS} (F : w_endingNumber_0 C Q  σ) : cI C 0 m_endingNumber [.ref (co C)] σ Q := m_I (m_ent _ 3) (t_endingNumber_0 hC F)

theorem dX13_addNext_0 : decode cX13_addNext 0 = .ok (.iload_n 1, 1) := by decide +kernel
theorem dX13_addNext_1 : decode cX13_addNext 1 = .ok (.ifCond .ne 10, 3) := by decide +kernel
theorem dX13_addNext_4 : decode cX13_addNext 4 = .ok (.aload_n 0, 1) := by decide +kernel
theorem dX13_addNext_5 : decode cX13_addNext 5 = .ok (.invokevirtual 612, 3) := by decide +kernel
theorem dX13_addNext_8 : decode cX13_addNext 8 = .ok (.goto 28, 3) := by decide +kernel
theorem dX13_addNext_11 : decode cX13_addNext 11 = .ok (.iload_n 1, 1) := by decide +kernel
theorem dX13_addNext_12 : decode cX13_addNext 12 = .ok (.iconst 1, 1) := by decide +kernel
theorem dX13_addNext_13 : decode cX13_addNext 13 = .ok (.if_icmp .ne 10, 3) := by decide +kernel
theorem dX13_addNext_16 : decode cX13_addNext 16 = .ok (.aload_n 0, 1) := by decide +kernel
theorem dX13_addNext_17 : decode cX13_addNext 17 = .ok (.invokevirtual 615, 3) := by decide +kernel
theorem dX13_addNext_20 : decode cX13_addNext 20 = .ok (.goto 16, 3) := by decide +kernel
theorem dX13_addNext_23 : decode cX13_addNext 23 = .ok (.iload_n 1, 1) := by decide +kernel
theorem dX13_addNext_24 : decode cX13_addNext 24 = .ok (.iconst 2, 1) := by decide +kernel
theorem dX13_addNext_25 : decode cX13_addNext 25 = .ok (.if_icmp .ne 10, 3) := by decide +kernel
theorem dX13_addNext_28 : decode cX13_addNext 28 = .ok (.aload_n 0, 1) := by decide +kernel
theorem dX13_addNext_29 : decode cX13_addNext 29 = .ok (.getfield 554, 3) := by decide +kernel
theorem dX13_addNext_32 : decode cX13_addNext 32 = .ok (.goto 4, 3) := by decide +kernel
theorem dX13_addNext_35 : decode cX13_addNext 35 = .ok (.iconst 0, 1) := by decide +kernel
theorem dX13_addNext_36 : decode cX13_addNext 36 = .ok (.istore 5, 2) := by decide +kernel
theorem dX13_addNext_38 : decode cX13_addNext 38 = .ok (.iload 5, 2) := by decide +kernel
theorem dX13_addNext_40 : decode cX13_addNext 40 = .ok (.iconst (-1), 1) := by decide +kernel
theorem dX13_addNext_41 : decode cX13_addNext 41 = .ok (.if_icmp .ne 10, 3) := by decide +kernel
theorem dX13_addNext_44 : decode cX13_addNext 44 = .ok (.iload_n 1, 1) := by decide +kernel
theorem dX13_addNext_45 : decode cX13_addNext 45 = .ok (.iconst 2, 1) := by decide +kernel
theorem dX13_addNext_46 : decode cX13_addNext 46 = .ok (.if_icmp .ge 5, 3) := by decide +kernel
theorem dX13_addNext_49 : decode cX13_addNext 49 = .ok (.iconst 0, 1) := by decide +kernel
theorem dX13_addNext_50 : decode cX13_addNext 50 = .ok (.ireturn, 1) := by decide +kernel
theorem dX13_addNext_51 : decode cX13_addNext 51 = .ok (.iload 4, 2) := by decide +kernel
theorem dX13_addNext_53 : decode cX13_addNext 53 = .ok (.istore 6, 2) := by decide +kernel
theorem dX13_addNext_55 : decode cX13_addNext 55 = .ok (.iload 6, 2) := by decide +kernel
theorem dX13_addNext_57 : decode cX13_addNext 57 = .ok (.aload_n 0, 1) := by decide +kernel
theorem dX13_addNext_58 : decode cX13_addNext 58 = .ok (.getfield 548, 3) := by decide +kernel
theorem dX13_addNext_61 : decode cX13_addNext 61 = .ok (.if_icmp .ge 49, 3) := by decide +kernel
theorem dX13_addNext_64 : decode cX13_addNext 64 = .ok (.iload_n 3, 1) := by decide +kernel
theorem dX13_addNext_65 : decode cX13_addNext 65 = .ok (.ifCond .eq 45, 3) := by decide +kernel
theorem dX13_addNext_68 : decode cX13_addNext 68 = .ok (.aload_n 0, 1) := by decide +kernel
theorem dX13_addNext_69 : decode cX13_addNext 69 = .ok (.getfield 154, 3) := by decide +kernel
theorem dX13_addNext_72 : decode cX13_addNext 72 = .ok (.iload 6, 2) := by decide +kernel
theorem dX13_addNext_74 : decode cX13_addNext 74 = .ok (.iaload, 1) := by decide +kernel
theorem dX13_addNext_75 : decode cX13_addNext 75 = .ok (.iload_n 1, 1) := by decide +kernel
theorem dX13_addNext_76 : decode cX13_addNext 76 = .ok (.if_icmp .ne 28, 3) := by decide +kernel
theorem dX13_addNext_79 : decode cX13_addNext 79 = .ok (.aload_n 0, 1) := by decide +kernel
theorem dX13_addNext_80 : decode cX13_addNext 80 = .ok (.getfield 157, 3) := by decide +kernel
theorem dX13_addNext_83 : decode cX13_addNext 83 = .ok (.iload 6, 2) := by decide +kernel
theorem dX13_addNext_85 : decode cX13_addNext 85 = .ok (.iaload, 1) := by decide +kernel
theorem dX13_addNext_86 : decode cX13_addNext 86 = .ok (.iload 5, 2) := by decide +kernel
theorem dX13_addNext_88 : decode cX13_addNext 88 = .ok (.if_icmp .ne 16, 3) := by decide +kernel
theorem dX13_addNext_91 : decode cX13_addNext 91 = .ok (.aload_n 0, 1) := by decide +kernel
theorem dX13_addNext_92 : decode cX13_addNext 92 = .ok (.getfield 160, 3) := by decide +kernel
theorem dX13_addNext_95 : decode cX13_addNext 95 = .ok (.iload 6, 2) := by decide +kernel
theorem dX13_addNext_97 : decode cX13_addNext 97 = .ok (.dup2, 1) := by decide +kernel
theorem dX13_addNext_98 : decode cX13_addNext 98 = .ok (.iaload, 1) := by decide +kernel
theorem dX13_addNext_99 : decode cX13_addNext 99 = .ok (.iload_n 2, 1) := by decide +kernel
theorem dX13_addNext_100 : decode cX13_addNext 100 = .ok (.iadd, 1) := by decide +kernel
theorem dX13_addNext_101 : decode cX13_addNext 101 = .ok (.iastore, 1) := by decide +kernel
theorem dX13_addNext_102 : decode cX13_addNext 102 = .ok (.iconst 1, 1) := by decide +kernel
theorem dX13_addNext_103 : decode cX13_addNext 103 = .ok (.ireturn, 1) := by decide +kernel
theorem dX13_addNext_104 : decode cX13_addNext 104 = .ok (.iinc 6 1, 3) := by decide +kernel
theorem dX13_addNext_107 : decode cX13_addNext 107 = .ok (.goto (-52), 3) := by decide +kernel
theorem dX13_addNext_110 : decode cX13_addNext 110 = .ok (.aload_n 0, 1) := by decide +kernel
theorem dX13_addNext_111 : decode cX13_addNext 111 = .ok (.getfield 548, 3) := by decide +kernel
theorem dX13_addNext_114 : decode cX13_addNext 114 = .ok (.sipush 20000, 3) := by decide +kernel
theorem dX13_addNext_117 : decode cX13_addNext 117 = .ok (.if_icmp .ne 5, 3) := by decide +kernel
theorem dX13_addNext_120 : decode cX13_addNext 120 = .ok (.iconst 0, 1) := by decide +kernel
theorem dX13_addNext_121 : decode cX13_addNext 121 = .ok (.ireturn, 1) := by decide +kernel
theorem dX13_addNext_122 : decode cX13_addNext 122 = .ok (.aload_n 0, 1) := by decide +kernel
theorem dX13_addNext_123 : decode cX13_addNext 123 = .ok (.getfield 154, 3) := by decide +kernel
theorem dX13_addNext_126 : decode cX13_addNext 126 = .ok (.aload_n 0, 1) := by decide +kernel
theorem dX13_addNext_127 : decode cX13_addNext 127 = .ok (.getfield 548, 3) := by decide +kernel
theorem dX13_addNext_130 : decode cX13_addNext 130 = .ok (.iload_n 1, 1) := by decide +kernel
theorem dX13_addNext_131 : decode cX13_addNext 131 = .ok (.iastore, 1) := by decide +kernel
theorem dX13_addNext_132 : decode cX13_addNext 132 = .ok (.aload_n 0, 1) := by decide +kernel
theorem dX13_addNext_133 : decode cX13_addNext 133 = .ok (.getfield 157, 3) := by decide +kernel
theorem dX13_addNext_136 : decode cX13_addNext 136 = .ok (.aload_n 0, 1) := by decide +kernel
theorem dX13_addNext_137 : decode cX13_addNext 137 = .ok (.getfield 548, 3) := by decide +kernel
theorem dX13_addNext_140 : decode cX13_addNext 140 = .ok (.iload 5, 2) := by decide +kernel
theorem dX13_addNext_142 : decode cX13_addNext 142 = .ok (.iastore, 1) := by decide +kernel
theorem dX13_addNext_143 : decode cX13_addNext 143 = .ok (.aload_n 0, 1) := by decide +kernel
theorem dX13_addNext_144 : decode cX13_addNext 144 = .ok (.getfield 160, 3) := by decide +kernel
theorem dX13_addNext_147 : decode cX13_addNext 147 = .ok (.aload_n 0, 1) := by decide +kernel
theorem dX13_addNext_148 : decode cX13_addNext 148 = .ok (.getfield 548, 3) := by decide +kernel
theorem dX13_addNext_151 : decode cX13_addNext 151 = .ok (.iload_n 2, 1) := by decide +kernel
theorem dX13_addNext_152 : decode cX13_addNext 152 = .ok (.iastore, 1) := by decide +kernel
theorem dX13_addNext_153 : decode cX13_addNext 153 = .ok (.aload_n 0, 1) := by decide +kernel
theorem dX13_addNext_154 : decode cX13_addNext 154 = .ok (.dup, 1) := by decide +kernel
theorem dX13_addNext_155 : decode cX13_addNext 155 = .ok (.getfield 548, 3) := by decide +kernel
theorem dX13_addNext_158 : decode cX13_addNext 158 = .ok (.iconst 1, 1) := by decide +kernel
theorem dX13_addNext_159 : decode cX13_addNext 159 = .ok (.iadd, 1) := by decide +kernel
theorem dX13_addNext_160 : decode cX13_addNext 160 = .ok (.putfield 548, 3) := by decide +kernel
theorem dX13_addNext_163 : decode cX13_addNext 163 = .ok (.iconst 1, 1) := by decide +kernel
theorem dX13_addNext_164 : decode cX13_addNext 164 = .ok (.ireturn, 1) := by decide +kernel
def w_addNext_110 (C : rCx) (Q : Int32 → rS → Prop)  (a1 : Int32) (a2 : Int32) (a5 : Int32) (σ : rS) : Prop :=
  (¬ ((σ.1 72) = (20000 : Int32)) →
    inb (σ.1 72) 20000 ∧
    ∀ σ1, σ1 = riU σ 77 ((σ.1 72)).toNatClampNeg a1 →
    inb (σ1.1 72) 20000 ∧
    ∀ σ2, σ2 = riU σ1 78 ((σ1.1 72)).toNatClampNeg a5 →
    inb (σ2.1 72) 20000 ∧
    ∀ σ3, σ3 = riU σ2 79 ((σ2.1 72)).toNatClampNeg a2 →
    ∀ σ4, σ4 = siU σ3 72 ((σ3.1 72) + (1 : Int32)) →
    Q (1 : Int32) σ4) ∧
  ((σ.1 72) = (20000 : Int32) →
    Q (0 : Int32) σ)
theorem t_addNext_110 {C : rCx} (hC : cOK C) {Q : Int32 → rS → Prop}   {a1 : Int32} {a2 : Int32} {a5 : Int32} {σ : rS} (F : w_addNext_110 C Q  a1 a2 a5 σ) : wG C 3 m_addNext 110 [some (.ref (co C)), some (.int a1), some (.int a2), none, none, some (.int a5), none] [] σ (qI Q) := by
  unfold w_addNext_110 at F
  refine s_aln dX13_addNext_110 rfl ?_
  refine gf_548 dX13_addNext_111 rfl ?_
  refine s_si dX13_addNext_114 ks_20000 ?_
  refine s_iin (t := 122) ((σ.1 72) = (20000 : Int32)) dX13_addNext_117 rfl rfl (fun hc => ?_) (fun hc => ?_)
  · replace F := F.1 hc
    refine s_aln dX13_addNext_122 rfl ?_
    refine gf_154 dX13_addNext_123 rfl ?_
    refine s_aln dX13_addNext_126 rfl ?_
    refine gf_548 dX13_addNext_127 rfl ?_
    refine s_iln dX13_addNext_130 rfl ?_
    refine s_astb hC dX13_addNext_131 rt_77 F.1 (fun σ1 eσ1 => ?_)
    replace F := F.2 σ1 eσ1
    refine s_aln dX13_addNext_132 rfl ?_
    refine gf_157 dX13_addNext_133 rfl ?_
    refine s_aln dX13_addNext_136 rfl ?_
    refine gf_548 dX13_addNext_137 rfl ?_
    refine s_il dX13_addNext_140 rfl ?_
    refine s_astb hC dX13_addNext_142 rt_78 F.1 (fun σ2 eσ2 => ?_)
    replace F := F.2 σ2 eσ2
    refine s_aln dX13_addNext_143 rfl ?_
    refine gf_160 dX13_addNext_144 rfl ?_
    refine s_aln dX13_addNext_147 rfl ?_
    refine gf_548 dX13_addNext_148 rfl ?_
    refine s_iln dX13_addNext_151 rfl ?_
    refine s_astb hC dX13_addNext_152 rt_79 F.1 (fun σ3 eσ3 => ?_)
    replace F := F.2 σ3 eσ3
    refine s_aln dX13_addNext_153 rfl ?_
    refine s_dup dX13_addNext_154 rfl ?_
    refine gf_548 dX13_addNext_155 rfl ?_
    refine s_ic dX13_addNext_158 ki_1 ?_
    refine s_iadd dX13_addNext_159 ?_
    refine pf_548 hC dX13_addNext_160 rfl (fun σ4 eσ4 => ?_)
    replace F := F σ4 eσ4
    refine s_ic dX13_addNext_163 ki_1 ?_
    exact s_ri dX13_addNext_164 rfl (nb_nar nb_1) F
  · replace F := F.2 hc
    refine s_ic dX13_addNext_120 ki_0 ?_
    exact s_ri dX13_addNext_121 rfl (nb_nar nb_0) F

def w_addNext_55 (C : rCx) (Q : Int32 → rS → Prop)  (a1 : Int32) (a2 : Int32) (a3 : Int32) (a5 : Int32) (a6 : Int32) (σ : rS) : Prop :=
  ∃ I : Nat → Int32 → Int32 → Int32 → Int32 → Int32 → rS → Prop, (∃ n, I n a1 a2 a3 a5 a6 σ) ∧ ∀ n a1 a2 a3 a5 a6 σ, I n a1 a2 a3 a5 a6 σ →
    ((σ.1 72) ≤ a6 →
      w_addNext_110 C Q  a1 a2 a5 σ) ∧
    (¬ ((σ.1 72) ≤ a6) →
      (a3 = 0 →
        w_addNext_110 C Q  a1 a2 a5 σ) ∧
      (¬ (a3 = 0) →
        inb a6 20000 ∧
        (¬ ((σ.2.2.1 77 (a6).toNatClampNeg) = a1) →
          ∀ v6_1 : Int32, v6_1 = a6 + (1 : Int32) →
          ∃ k < n, I k a1 a2 a3 a5 v6_1 σ) ∧
        ((σ.2.2.1 77 (a6).toNatClampNeg) = a1 →
          inb a6 20000 ∧
          (¬ ((σ.2.2.1 78 (a6).toNatClampNeg) = a5) →
            ∀ v6_2 : Int32, v6_2 = a6 + (1 : Int32) →
            ∃ k < n, I k a1 a2 a3 a5 v6_2 σ) ∧
          ((σ.2.2.1 78 (a6).toNatClampNeg) = a5 →
            inb a6 20000 ∧
            inb a6 20000 ∧
            ∀ σ3, σ3 = riU σ 79 (a6).toNatClampNeg ((σ.2.2.1 79 (a6).toNatClampNeg) + a2) →
            Q (1 : Int32) σ3))))
theorem t_addNext_55 {C : rCx} (hC : cOK C) {Q : Int32 → rS → Prop}   {a1 : Int32} {a2 : Int32} {a3 : Int32} {a5 : Int32} {a6 : Int32} {σ : rS} (F : w_addNext_55 C Q  a1 a2 a3 a5 a6 σ) : wG C 3 m_addNext 55 [some (.ref (co C)), some (.int a1), some (.int a2), some (.int a3), none, some (.int a5), some (.int a6)] [] σ (qI Q) := by
  obtain ⟨I, ⟨n0, hI0⟩, F0⟩ := F
  have key : ∀ n a1 a2 a3 a5 a6 σ, I n a1 a2 a3 a5 a6 σ → wG C 3 m_addNext 55 [some (.ref (co C)), some (.int a1), some (.int a2), some (.int a3), none, some (.int a5), some (.int a6)] [] σ (qI Q) := by
    intro n
    induction n using Nat.strongRecOn with
    | _ n ih =>
      intro a1 a2 a3 a5 a6 σ hI
      have F := F0 n a1 a2 a3 a5 a6 σ hI
      clear hI hI0
      refine s_il dX13_addNext_55 rfl ?_
      refine s_aln dX13_addNext_57 rfl ?_
      refine gf_548 dX13_addNext_58 rfl ?_
      refine s_ii (t := 110) ((σ.1 72) ≤ a6) dX13_addNext_61 rfl rfl (fun hc => ?_) (fun hc => ?_)
      · replace F := F.1 hc
        exact s_k (t_addNext_110 hC  F) ⟨rfl, rfl, rfl, rfl, trivial⟩
      · replace F := F.2 hc
        refine s_iln dX13_addNext_64 rfl ?_
        refine s_i (t := 110) (a3 = 0) dX13_addNext_65 rfl rfl (fun hc => ?_) (fun hc => ?_)
        · replace F := F.1 hc
          exact s_k (t_addNext_110 hC  F) ⟨rfl, rfl, rfl, rfl, trivial⟩
        · replace F := F.2 hc
          refine s_aln dX13_addNext_68 rfl ?_
          refine gf_154 dX13_addNext_69 rfl ?_
          refine s_il dX13_addNext_72 rfl ?_
          refine s_ald hC dX13_addNext_74 rt_77 F.1 ?_
          replace F := F.2
          refine s_iln dX13_addNext_75 rfl ?_
          refine s_iin (t := 104) ((σ.2.2.1 77 (a6).toNatClampNeg) = a1) dX13_addNext_76 rfl rfl (fun hc => ?_) (fun hc => ?_)
          · replace F := F.1 hc
            refine s_incb dX13_addNext_104 ki_1 rfl (Nat.le_of_ble_eq_true rfl) (fun v6_1 ev6_1 => ?_)
            replace F := F v6_1 ev6_1
            refine s_goto (t := 55) dX13_addNext_107 rfl ?_
            obtain ⟨k, hk, hI⟩ := F
            exact s_k (ih k hk _ _ _ _ _ _ hI) ⟨rfl, rfl, rfl, rfl, rfl, rfl, trivial⟩
          · replace F := F.2 hc
            refine s_aln dX13_addNext_79 rfl ?_
            refine gf_157 dX13_addNext_80 rfl ?_
            refine s_il dX13_addNext_83 rfl ?_
            refine s_ald hC dX13_addNext_85 rt_78 F.1 ?_
            replace F := F.2
            refine s_il dX13_addNext_86 rfl ?_
            refine s_iin (t := 104) ((σ.2.2.1 78 (a6).toNatClampNeg) = a5) dX13_addNext_88 rfl rfl (fun hc => ?_) (fun hc => ?_)
            · replace F := F.1 hc
              refine s_incb dX13_addNext_104 ki_1 rfl (Nat.le_of_ble_eq_true rfl) (fun v6_2 ev6_2 => ?_)
              replace F := F v6_2 ev6_2
              refine s_goto (t := 55) dX13_addNext_107 rfl ?_
              obtain ⟨k, hk, hI⟩ := F
              exact s_k (ih k hk _ _ _ _ _ _ hI) ⟨rfl, rfl, rfl, rfl, rfl, rfl, trivial⟩
            · replace F := F.2 hc
              refine s_aln dX13_addNext_91 rfl ?_
              refine gf_160 dX13_addNext_92 rfl ?_
              refine s_il dX13_addNext_95 rfl ?_
              refine s_dup2 dX13_addNext_97 rfl rfl ?_
              refine s_ald hC dX13_addNext_98 rt_79 F.1 ?_
              replace F := F.2
              refine s_iln dX13_addNext_99 rfl ?_
              refine s_iadd dX13_addNext_100 ?_
              refine s_astb hC dX13_addNext_101 rt_79 F.1 (fun σ3 eσ3 => ?_)
              replace F := F.2 σ3 eσ3
              refine s_ic dX13_addNext_102 ki_1 ?_
              exact s_ri dX13_addNext_103 rfl (nb_nar nb_1) F
  exact key n0 a1 a2 a3 a5 a6 σ hI0

def w_addNext_36 (C : rCx) (Q : Int32 → rS → Prop)  (a1 : Int32) (a2 : Int32) (a3 : Int32) (a4 : Int32) (s0 : Int32) (σ : rS) : Prop :=
  (¬ (s0 = (-1 : Int32)) →
    w_addNext_55 C Q  a1 a2 a3 s0 a4 σ) ∧
  (s0 = (-1 : Int32) →
    ((2 : Int32) ≤ a1 →
      w_addNext_55 C Q  a1 a2 a3 s0 a4 σ) ∧
    (¬ ((2 : Int32) ≤ a1) →
      Q (0 : Int32) σ))
theorem t_addNext_36 {C : rCx} (hC : cOK C) {Q : Int32 → rS → Prop}   {a1 : Int32} {a2 : Int32} {a3 : Int32} {a4 : Int32} {s0 : Int32} {σ : rS} (F : w_addNext_36 C Q  a1 a2 a3 a4 s0 σ) : wG C 3 m_addNext 36 [some (.ref (co C)), some (.int a1), some (.int a2), some (.int a3), some (.int a4), none, none] [.int s0] σ (qI Q) := by
  unfold w_addNext_36 at F
  refine s_is dX13_addNext_36 (Nat.le_of_ble_eq_true rfl) rfl ?_
  refine s_il dX13_addNext_38 rfl ?_
  refine s_ic dX13_addNext_40 ki_m1 ?_
  refine s_iin (t := 51) (s0 = (-1 : Int32)) dX13_addNext_41 rfl rfl (fun hc => ?_) (fun hc => ?_)
  · replace F := F.1 hc
    refine s_il dX13_addNext_51 rfl ?_
    refine s_is dX13_addNext_53 (Nat.le_of_ble_eq_true rfl) rfl ?_
    exact s_k (t_addNext_55 hC  F) ⟨rfl, rfl, rfl, rfl, rfl, rfl, trivial⟩
  · replace F := F.2 hc
    refine s_iln dX13_addNext_44 rfl ?_
    refine s_ic dX13_addNext_45 ki_2 ?_
    refine s_ii (t := 51) ((2 : Int32) ≤ a1) dX13_addNext_46 rfl rfl (fun hc => ?_) (fun hc => ?_)
    · replace F := F.1 hc
      refine s_il dX13_addNext_51 rfl ?_
      refine s_is dX13_addNext_53 (Nat.le_of_ble_eq_true rfl) rfl ?_
      exact s_k (t_addNext_55 hC  F) ⟨rfl, rfl, rfl, rfl, rfl, rfl, trivial⟩
    · replace F := F.2 hc
      refine s_ic dX13_addNext_49 ki_0 ?_
      exact s_ri dX13_addNext_50 rfl (nb_nar nb_0) F

def w_addNext_0 (C : rCx) (Q : Int32 → rS → Prop)  (a1 : Int32) (a2 : Int32) (a3 : Int32) (a4 : Int32) (σ : rS) : Prop :=
  (¬ (a1 = 0) →
    (¬ (a1 = (1 : Int32)) →
      (¬ (a1 = (2 : Int32)) →
        w_addNext_36 C Q  a1 a2 a3 a4 (0 : Int32) σ) ∧
      (a1 = (2 : Int32) →
        w_addNext_36 C Q  a1 a2 a3 a4 (σ.1 61) σ)) ∧
    (a1 = (1 : Int32) →
      cI C 0 m_endingNumber [.ref (co C)] σ (fun r2 σ1 =>
        w_addNext_36 C Q  a1 a2 a3 a4 r2 σ1))) ∧
  (a1 = 0 →
    cI C 2 m_stateNumber [.ref (co C)] σ (fun r4 σ3 =>
      w_addNext_36 C Q  a1 a2 a3 a4 r4 σ3))
theorem t_addNext_0 {C : rCx} (hC : cOK C) {Q : Int32 → rS → Prop}   {a1 : Int32} {a2 : Int32} {a3 : Int32} {a4 : Int32} {σ : rS} (F : w_addNext_0 C Q  a1 a2 a3 a4 σ) : wG C 3 m_addNext 0 [some (.ref (co C)), some (.int a1), some (.int a2), some (.int a3), some (.int a4), none, none] [] σ (qI Q) := by
  unfold w_addNext_0 at F
  refine s_iln dX13_addNext_0 rfl ?_
  refine s_in (t := 11) (a1 = 0) dX13_addNext_1 rfl rfl (fun hc => ?_) (fun hc => ?_)
  · replace F := F.1 hc
    refine s_iln dX13_addNext_11 rfl ?_
    refine s_ic dX13_addNext_12 ki_1 ?_
    refine s_iin (t := 23) (a1 = (1 : Int32)) dX13_addNext_13 rfl rfl (fun hc => ?_) (fun hc => ?_)
    · replace F := F.1 hc
      refine s_iln dX13_addNext_23 rfl ?_
      refine s_ic dX13_addNext_24 ki_2 ?_
      refine s_iin (t := 35) (a1 = (2 : Int32)) dX13_addNext_25 rfl rfl (fun hc => ?_) (fun hc => ?_)
      · replace F := F.1 hc
        refine s_ic dX13_addNext_35 ki_0 ?_
        exact s_k (t_addNext_36 hC  F) ⟨rfl, rfl, rfl, rfl, rfl, trivial⟩
      · replace F := F.2 hc
        refine s_aln dX13_addNext_28 rfl ?_
        refine gf_554 dX13_addNext_29 rfl ?_
        refine s_goto (t := 36) dX13_addNext_32 rfl ?_
        exact s_k (t_addNext_36 hC  F) ⟨rfl, rfl, rfl, rfl, rfl, trivial⟩
    · replace F := F.2 hc
      refine s_aln dX13_addNext_16 rfl ?_
      refine k_615 dX13_addNext_17 rfl (Nat.le_of_ble_eq_true rfl) (Nat.le_of_ble_eq_true rfl) F (fun r2 σ1 F => ?_)
      refine s_goto (t := 36) dX13_addNext_20 rfl ?_
      exact s_k (t_addNext_36 hC  F) ⟨rfl, rfl, rfl, rfl, rfl, trivial⟩
  · replace F := F.2 hc
    refine s_aln dX13_addNext_4 rfl ?_
    refine k_612 dX13_addNext_5 rfl (Nat.le_of_ble_eq_true rfl) (Nat.le_of_ble_eq_true rfl) F (fun r4 σ3 F => ?_)
    refine s_goto (t := 36) dX13_addNext_8 rfl ?_
    exact s_k (t_addNext_36 hC  F) ⟨rfl, rfl, rfl, rfl, rfl, trivial⟩

theorem m_addNext_run {C : rCx} (hC : cOK C) {Q : Int32 → rS → Prop} {a1 : Int32} {a2 : Int32} {a3 : Int32} {a4 : Int32} {σ : rS} (F : w_addNext_0 C Q a1 a2 a3 a4 σ) : cI C 3 m_addNext [.ref (co C), .int a1, .int a2, .int a3, .int a4] σ Q := m_I (m_ent _ 2) (t_addNext_0 hC F)

theorem dX13_expand_0 : decode cX13_expand 0 = .ok (.aload_n 0, 1) := by decide +kernel
theorem dX13_expand_1 : decode cX13_expand 1 = .ok (.getfield 548, 3) := by decide +kernel
theorem dX13_expand_4 : decode cX13_expand 4 = .ok (.istore_n 2, 1) := by decide +kernel
theorem dX13_expand_5 : decode cX13_expand 5 = .ok (.aload_n 0, 1) := by decide +kernel
theorem dX13_expand_6 : decode cX13_expand 6 = .ok (.getfield 151, 3) := by decide +kernel
theorem dX13_expand_9 : decode cX13_expand 9 = .ok (.iload_n 1, 1) := by decide +kernel
theorem dX13_expand_10 : decode cX13_expand 10 = .ok (.iload_n 2, 1) := by decide +kernel
theorem dX13_expand_11 : decode cX13_expand 11 = .ok (.iastore, 1) := by decide +kernel
theorem dX13_expand_12 : decode cX13_expand 12 = .ok (.aload_n 0, 1) := by decide +kernel
theorem dX13_expand_13 : decode cX13_expand 13 = .ok (.iload_n 1, 1) := by decide +kernel
theorem dX13_expand_14 : decode cX13_expand 14 = .ok (.invokevirtual 618, 3) := by decide +kernel
theorem dX13_expand_17 : decode cX13_expand 17 = .ok (.aload_n 0, 1) := by decide +kernel
theorem dX13_expand_18 : decode cX13_expand 18 = .ok (.invokevirtual 621, 3) := by decide +kernel
theorem dX13_expand_21 : decode cX13_expand 21 = .ok (.istore_n 3, 1) := by decide +kernel
theorem dX13_expand_22 : decode cX13_expand 22 = .ok (.aload_n 0, 1) := by decide +kernel
theorem dX13_expand_23 : decode cX13_expand 23 = .ok (.getfield 166, 3) := by decide +kernel
theorem dX13_expand_26 : decode cX13_expand 26 = .ok (.iload_n 1, 1) := by decide +kernel
theorem dX13_expand_27 : decode cX13_expand 27 = .ok (.iload_n 3, 1) := by decide +kernel
theorem dX13_expand_28 : decode cX13_expand 28 = .ok (.iconst 5, 1) := by decide +kernel
theorem dX13_expand_29 : decode cX13_expand 29 = .ok (.if_icmp .ne 7, 3) := by decide +kernel
theorem dX13_expand_32 : decode cX13_expand 32 = .ok (.iconst 1, 1) := by decide +kernel
theorem dX13_expand_33 : decode cX13_expand 33 = .ok (.goto 4, 3) := by decide +kernel
theorem dX13_expand_36 : decode cX13_expand 36 = .ok (.iconst 0, 1) := by decide +kernel
theorem dX13_expand_37 : decode cX13_expand 37 = .ok (.bastore, 1) := by decide +kernel
theorem dX13_expand_38 : decode cX13_expand 38 = .ok (.aload_n 0, 1) := by decide +kernel
theorem dX13_expand_39 : decode cX13_expand 39 = .ok (.getfield 169, 3) := by decide +kernel
theorem dX13_expand_42 : decode cX13_expand 42 = .ok (.iload_n 1, 1) := by decide +kernel
theorem dX13_expand_43 : decode cX13_expand 43 = .ok (.iload_n 3, 1) := by decide +kernel
theorem dX13_expand_44 : decode cX13_expand 44 = .ok (.iconst 2, 1) := by decide +kernel
theorem dX13_expand_45 : decode cX13_expand 45 = .ok (.if_icmp .ne 7, 3) := by decide +kernel
theorem dX13_expand_48 : decode cX13_expand 48 = .ok (.iconst 0, 1) := by decide +kernel
theorem dX13_expand_49 : decode cX13_expand 49 = .ok (.goto 7, 3) := by decide +kernel
theorem dX13_expand_52 : decode cX13_expand 52 = .ok (.aload_n 0, 1) := by decide +kernel
theorem dX13_expand_53 : decode cX13_expand 53 = .ok (.getfield 585, 3) := by decide +kernel
theorem dX13_expand_56 : decode cX13_expand 56 = .ok (.iastore, 1) := by decide +kernel
theorem dX13_expand_57 : decode cX13_expand 57 = .ok (.aload_n 0, 1) := by decide +kernel
theorem dX13_expand_58 : decode cX13_expand 58 = .ok (.getfield 163, 3) := by decide +kernel
theorem dX13_expand_61 : decode cX13_expand 61 = .ok (.iload_n 1, 1) := by decide +kernel
theorem dX13_expand_62 : decode cX13_expand 62 = .ok (.iload_n 3, 1) := by decide +kernel
theorem dX13_expand_63 : decode cX13_expand 63 = .ok (.iconst 4, 1) := by decide +kernel
theorem dX13_expand_64 : decode cX13_expand 64 = .ok (.if_icmp .ne 10, 3) := by decide +kernel
theorem dX13_expand_67 : decode cX13_expand 67 = .ok (.aload_n 0, 1) := by decide +kernel
theorem dX13_expand_68 : decode cX13_expand 68 = .ok (.getfield 581, 3) := by decide +kernel
theorem dX13_expand_71 : decode cX13_expand 71 = .ok (.goto 13, 3) := by decide +kernel
theorem dX13_expand_74 : decode cX13_expand 74 = .ok (.iload_n 3, 1) := by decide +kernel
theorem dX13_expand_75 : decode cX13_expand 75 = .ok (.iconst 5, 1) := by decide +kernel
theorem dX13_expand_76 : decode cX13_expand 76 = .ok (.if_icmp .ne 7, 3) := by decide +kernel
theorem dX13_expand_79 : decode cX13_expand 79 = .ok (.iconst 0, 1) := by decide +kernel
theorem dX13_expand_80 : decode cX13_expand 80 = .ok (.goto 4, 3) := by decide +kernel
theorem dX13_expand_83 : decode cX13_expand 83 = .ok (.iconst 1, 1) := by decide +kernel
theorem dX13_expand_84 : decode cX13_expand 84 = .ok (.iastore, 1) := by decide +kernel
theorem dX13_expand_85 : decode cX13_expand 85 = .ok (.iconst 1, 1) := by decide +kernel
theorem dX13_expand_86 : decode cX13_expand 86 = .ok (.istore 4, 2) := by decide +kernel
theorem dX13_expand_88 : decode cX13_expand 88 = .ok (.iload_n 3, 1) := by decide +kernel
theorem dX13_expand_89 : decode cX13_expand 89 = .ok (.iconst 4, 1) := by decide +kernel
theorem dX13_expand_90 : decode cX13_expand 90 = .ok (.if_icmp .ge 13, 3) := by decide +kernel
theorem dX13_expand_93 : decode cX13_expand 93 = .ok (.aload_n 0, 1) := by decide +kernel
theorem dX13_expand_94 : decode cX13_expand 94 = .ok (.iload_n 3, 1) := by decide +kernel
theorem dX13_expand_95 : decode cX13_expand 95 = .ok (.iconst 1, 1) := by decide +kernel
theorem dX13_expand_96 : decode cX13_expand 96 = .ok (.iconst 0, 1) := by decide +kernel
theorem dX13_expand_97 : decode cX13_expand 97 = .ok (.iload_n 2, 1) := by decide +kernel
theorem dX13_expand_98 : decode cX13_expand 98 = .ok (.invokevirtual 624, 3) := by decide +kernel
theorem dX13_expand_101 : decode cX13_expand 101 = .ok (.istore 4, 2) := by decide +kernel
theorem dX13_expand_103 : decode cX13_expand 103 = .ok (.iconst 0, 1) := by decide +kernel
theorem dX13_expand_104 : decode cX13_expand 104 = .ok (.istore 5, 2) := by decide +kernel
theorem dX13_expand_106 : decode cX13_expand 106 = .ok (.iload_n 3, 1) := by decide +kernel
theorem dX13_expand_107 : decode cX13_expand 107 = .ok (.iconst 4, 1) := by decide +kernel
theorem dX13_expand_108 : decode cX13_expand 108 = .ok (.if_icmp .lt 68, 3) := by decide +kernel
theorem dX13_expand_111 : decode cX13_expand 111 = .ok (.iload 5, 2) := by decide +kernel
theorem dX13_expand_113 : decode cX13_expand 113 = .ok (.aload_n 0, 1) := by decide +kernel
theorem dX13_expand_114 : decode cX13_expand 114 = .ok (.getfield 575, 3) := by decide +kernel
theorem dX13_expand_117 : decode cX13_expand 117 = .ok (.if_icmp .ge 59, 3) := by decide +kernel
theorem dX13_expand_120 : decode cX13_expand 120 = .ok (.iload 4, 2) := by decide +kernel
theorem dX13_expand_122 : decode cX13_expand 122 = .ok (.ifCond .eq 54, 3) := by decide +kernel
theorem dX13_expand_125 : decode cX13_expand 125 = .ok (.aload_n 0, 1) := by decide +kernel
theorem dX13_expand_126 : decode cX13_expand 126 = .ok (.getfield 134, 3) := by decide +kernel
theorem dX13_expand_129 : decode cX13_expand 129 = .ok (.iload 5, 2) := by decide +kernel
theorem dX13_expand_131 : decode cX13_expand 131 = .ok (.iaload, 1) := by decide +kernel
theorem dX13_expand_132 : decode cX13_expand 132 = .ok (.ifCond .le 38, 3) := by decide +kernel
theorem dX13_expand_135 : decode cX13_expand 135 = .ok (.aload_n 0, 1) := by decide +kernel
theorem dX13_expand_136 : decode cX13_expand 136 = .ok (.iload_n 1, 1) := by decide +kernel
theorem dX13_expand_137 : decode cX13_expand 137 = .ok (.invokevirtual 618, 3) := by decide +kernel
theorem dX13_expand_140 : decode cX13_expand 140 = .ok (.aload_n 0, 1) := by decide +kernel
theorem dX13_expand_141 : decode cX13_expand 141 = .ok (.aload_n 0, 1) := by decide +kernel
theorem dX13_expand_142 : decode cX13_expand 142 = .ok (.iload 5, 2) := by decide +kernel
theorem dX13_expand_144 : decode cX13_expand 144 = .ok (.invokevirtual 628, 3) := by decide +kernel
theorem dX13_expand_147 : decode cX13_expand 147 = .ok (.aload_n 0, 1) := by decide +kernel
theorem dX13_expand_148 : decode cX13_expand 148 = .ok (.getfield 134, 3) := by decide +kernel
theorem dX13_expand_151 : decode cX13_expand 151 = .ok (.iload 5, 2) := by decide +kernel
theorem dX13_expand_153 : decode cX13_expand 153 = .ok (.iaload, 1) := by decide +kernel
theorem dX13_expand_154 : decode cX13_expand 154 = .ok (.iload_n 3, 1) := by decide +kernel
theorem dX13_expand_155 : decode cX13_expand 155 = .ok (.iconst 4, 1) := by decide +kernel
theorem dX13_expand_156 : decode cX13_expand 156 = .ok (.if_icmp .ne 7, 3) := by decide +kernel
theorem dX13_expand_159 : decode cX13_expand 159 = .ok (.iconst 1, 1) := by decide +kernel
theorem dX13_expand_160 : decode cX13_expand 160 = .ok (.goto 4, 3) := by decide +kernel
theorem dX13_expand_163 : decode cX13_expand 163 = .ok (.iconst 0, 1) := by decide +kernel
theorem dX13_expand_164 : decode cX13_expand 164 = .ok (.iload_n 2, 1) := by decide +kernel
theorem dX13_expand_165 : decode cX13_expand 165 = .ok (.invokevirtual 624, 3) := by decide +kernel
theorem dX13_expand_168 : decode cX13_expand 168 = .ok (.istore 4, 2) := by decide +kernel
theorem dX13_expand_170 : decode cX13_expand 170 = .ok (.iinc 5 1, 3) := by decide +kernel
theorem dX13_expand_173 : decode cX13_expand 173 = .ok (.goto (-67), 3) := by decide +kernel
theorem dX13_expand_176 : decode cX13_expand 176 = .ok (.aload_n 0, 1) := by decide +kernel
theorem dX13_expand_177 : decode cX13_expand 177 = .ok (.getfield 151, 3) := by decide +kernel
theorem dX13_expand_180 : decode cX13_expand 180 = .ok (.iload_n 1, 1) := by decide +kernel
theorem dX13_expand_181 : decode cX13_expand 181 = .ok (.iconst 1, 1) := by decide +kernel
theorem dX13_expand_182 : decode cX13_expand 182 = .ok (.iadd, 1) := by decide +kernel
theorem dX13_expand_183 : decode cX13_expand 183 = .ok (.aload_n 0, 1) := by decide +kernel
theorem dX13_expand_184 : decode cX13_expand 184 = .ok (.getfield 548, 3) := by decide +kernel
theorem dX13_expand_187 : decode cX13_expand 187 = .ok (.iastore, 1) := by decide +kernel
theorem dX13_expand_188 : decode cX13_expand 188 = .ok (.iload 4, 2) := by decide +kernel
theorem dX13_expand_190 : decode cX13_expand 190 = .ok (.ireturn, 1) := by decide +kernel
def w_expand_164 (C : rCx) (Q : Int32 → rS → Prop) (B106 : Int32 → Int32 → Int32 → Int32 → Int32 → rS → Prop) (a1 : Int32) (a2 : Int32) (a3 : Int32) (a5 : Int32) (s1 : Int32) (s2 : Int32) (s3 : Int32) (σ : rS) : Prop :=
  cI C 3 m_addNext [.ref (co C), .int s1, .int s2, .int s3, .int a2] σ (fun r2 σ1 =>
    ∀ v5_3 : Int32, v5_3 = a5 + (1 : Int32) →
    B106 a1 a2 a3 r2 v5_3 σ1)
theorem t_expand_164 {C : rCx} (hC : cOK C) {Q : Int32 → rS → Prop} {B106 : Int32 → Int32 → Int32 → Int32 → Int32 → rS → Prop} (hB106 : ∀ a1' a2' a3' a4' a5' τ, B106 a1' a2' a3' a4' a5' τ → wG C 10 m_expand 106 [some (.ref (co C)), some (.int a1'), some (.int a2'), some (.int a3'), some (.int a4'), some (.int a5')] [] τ (qI Q)) {a1 : Int32} {a2 : Int32} {a3 : Int32} {a5 : Int32} {s1 : Int32} {s2 : Int32} {s3 : Int32} {σ : rS} (F : w_expand_164 C Q B106 a1 a2 a3 a5 s1 s2 s3 σ) : wG C 10 m_expand 164 [some (.ref (co C)), some (.int a1), some (.int a2), some (.int a3), none, some (.int a5)] [.int s3, .int s2, .int s1, .ref (co C)] σ (qI Q) := by
  unfold w_expand_164 at F
  refine s_iln dX13_expand_164 rfl ?_
  refine k_624 dX13_expand_165 rfl (Nat.le_of_ble_eq_true rfl) (Nat.le_of_ble_eq_true rfl) F (fun r2 σ1 F => ?_)
  refine s_is dX13_expand_168 (Nat.le_of_ble_eq_true rfl) rfl ?_
  refine s_incb dX13_expand_170 ki_1 rfl (Nat.le_of_ble_eq_true rfl) (fun v5_3 ev5_3 => ?_)
  replace F := F v5_3 ev5_3
  refine s_goto (t := 106) dX13_expand_173 rfl ?_
  exact s_k (hB106 _ _ _ _ _ _ F) ⟨rfl, rfl, rfl, rfl, rfl, rfl, trivial⟩

def w_expand_176 (C : rCx) (Q : Int32 → rS → Prop)  (a1 : Int32) (a4 : Int32) (σ : rS) : Prop :=
  inb (a1 + (1 : Int32)) 1001 ∧
  ∀ σ1, σ1 = riU σ 76 ((a1 + (1 : Int32))).toNatClampNeg (σ.1 72) →
  nb a4 ∧ Q a4 σ1
theorem t_expand_176 {C : rCx} (hC : cOK C) {Q : Int32 → rS → Prop}   {a1 : Int32} {a4 : Int32} {σ : rS} (F : w_expand_176 C Q  a1 a4 σ) : wG C 10 m_expand 176 [some (.ref (co C)), some (.int a1), none, none, some (.int a4), none] [] σ (qI Q) := by
  unfold w_expand_176 at F
  refine s_aln dX13_expand_176 rfl ?_
  refine gf_151 dX13_expand_177 rfl ?_
  refine s_iln dX13_expand_180 rfl ?_
  refine s_ic dX13_expand_181 ki_1 ?_
  refine s_iadd dX13_expand_182 ?_
  refine s_aln dX13_expand_183 rfl ?_
  refine gf_548 dX13_expand_184 rfl ?_
  refine s_astb hC dX13_expand_187 rt_76 F.1 (fun σ1 eσ1 => ?_)
  replace F := F.2 σ1 eσ1
  refine s_il dX13_expand_188 rfl ?_
  exact s_ri dX13_expand_190 rfl (nb_nar F.1) F.2

def w_expand_106 (C : rCx) (Q : Int32 → rS → Prop)  (a1 : Int32) (a2 : Int32) (a3 : Int32) (a4 : Int32) (a5 : Int32) (σ : rS) : Prop :=
  ∃ I : Nat → Int32 → Int32 → Int32 → Int32 → Int32 → rS → Prop, (∃ n, I n a1 a2 a3 a4 a5 σ) ∧ ∀ n a1 a2 a3 a4 a5 σ, I n a1 a2 a3 a4 a5 σ →
    (a3 < (4 : Int32) →
      w_expand_176 C Q  a1 a4 σ) ∧
    (¬ (a3 < (4 : Int32)) →
      ((σ.1 63) ≤ a5 →
        w_expand_176 C Q  a1 a4 σ) ∧
      (¬ ((σ.1 63) ≤ a5) →
        (a4 = 0 →
          w_expand_176 C Q  a1 a4 σ) ∧
        (¬ (a4 = 0) →
          inb a5 64 ∧
          ((σ.2.2.1 65 (a5).toNatClampNeg) ≤ 0 →
            ∀ v5_1 : Int32, v5_1 = a5 + (1 : Int32) →
            ∃ k < n, I k a1 a2 a3 a4 v5_1 σ) ∧
          (¬ ((σ.2.2.1 65 (a5).toNatClampNeg) ≤ 0) →
            cV C 0 m_unpack [.ref (co C), .int a1] σ (fun σ2 =>
              cI C 3 m_get [.ref (co C), .int a5] σ2 (fun r5 σ4 =>
                inb a5 64 ∧
                (¬ (a3 = (4 : Int32)) →
                  w_expand_164 C Q (fun a1' a2' a3' a4' a5' τ => ∃ k < n, I k a1' a2' a3' a4' a5' τ) a1 a2 a3 a5 r5 (σ4.2.2.1 65 (a5).toNatClampNeg) (0 : Int32) σ4) ∧
                (a3 = (4 : Int32) →
                  w_expand_164 C Q (fun a1' a2' a3' a4' a5' τ => ∃ k < n, I k a1' a2' a3' a4' a5' τ) a1 a2 a3 a5 r5 (σ4.2.2.1 65 (a5).toNatClampNeg) (1 : Int32) σ4)))))))
theorem t_expand_106 {C : rCx} (hC : cOK C) {Q : Int32 → rS → Prop}   {a1 : Int32} {a2 : Int32} {a3 : Int32} {a4 : Int32} {a5 : Int32} {σ : rS} (F : w_expand_106 C Q  a1 a2 a3 a4 a5 σ) : wG C 10 m_expand 106 [some (.ref (co C)), some (.int a1), some (.int a2), some (.int a3), some (.int a4), some (.int a5)] [] σ (qI Q) := by
  obtain ⟨I, ⟨n0, hI0⟩, F0⟩ := F
  have key : ∀ n a1 a2 a3 a4 a5 σ, I n a1 a2 a3 a4 a5 σ → wG C 10 m_expand 106 [some (.ref (co C)), some (.int a1), some (.int a2), some (.int a3), some (.int a4), some (.int a5)] [] σ (qI Q) := by
    intro n
    induction n using Nat.strongRecOn with
    | _ n ih =>
      intro a1 a2 a3 a4 a5 σ hI
      have F := F0 n a1 a2 a3 a4 a5 σ hI
      clear hI hI0
      refine s_iln dX13_expand_106 rfl ?_
      refine s_ic dX13_expand_107 ki_4 ?_
      refine s_ii (t := 176) (a3 < (4 : Int32)) dX13_expand_108 rfl rfl (fun hc => ?_) (fun hc => ?_)
      · replace F := F.1 hc
        exact s_k (t_expand_176 hC  F) ⟨rfl, rfl, rfl, trivial⟩
      · replace F := F.2 hc
        refine s_il dX13_expand_111 rfl ?_
        refine s_aln dX13_expand_113 rfl ?_
        refine gf_575 dX13_expand_114 rfl ?_
        refine s_ii (t := 176) ((σ.1 63) ≤ a5) dX13_expand_117 rfl rfl (fun hc => ?_) (fun hc => ?_)
        · replace F := F.1 hc
          exact s_k (t_expand_176 hC  F) ⟨rfl, rfl, rfl, trivial⟩
        · replace F := F.2 hc
          refine s_il dX13_expand_120 rfl ?_
          refine s_i (t := 176) (a4 = 0) dX13_expand_122 rfl rfl (fun hc => ?_) (fun hc => ?_)
          · replace F := F.1 hc
            exact s_k (t_expand_176 hC  F) ⟨rfl, rfl, rfl, trivial⟩
          · replace F := F.2 hc
            refine s_aln dX13_expand_125 rfl ?_
            refine gf_134 dX13_expand_126 rfl ?_
            refine s_il dX13_expand_129 rfl ?_
            refine s_ald hC dX13_expand_131 rt_65 F.1 ?_
            replace F := F.2
            refine s_i (t := 170) ((σ.2.2.1 65 (a5).toNatClampNeg) ≤ 0) dX13_expand_132 rfl rfl (fun hc => ?_) (fun hc => ?_)
            · replace F := F.1 hc
              refine s_incb dX13_expand_170 ki_1 rfl (Nat.le_of_ble_eq_true rfl) (fun v5_1 ev5_1 => ?_)
              replace F := F v5_1 ev5_1
              refine s_goto (t := 106) dX13_expand_173 rfl ?_
              obtain ⟨k, hk, hI⟩ := F
              exact s_k (ih k hk _ _ _ _ _ _ hI) ⟨rfl, rfl, rfl, rfl, rfl, rfl, trivial⟩
            · replace F := F.2 hc
              refine s_aln dX13_expand_135 rfl ?_
              refine s_iln dX13_expand_136 rfl ?_
              refine k_618 dX13_expand_137 rfl (Nat.le_of_ble_eq_true rfl) (Nat.le_of_ble_eq_true rfl) F (fun σ2 F => ?_)
              refine s_aln dX13_expand_140 rfl ?_
              refine s_aln dX13_expand_141 rfl ?_
              refine s_il dX13_expand_142 rfl ?_
              refine k_628 dX13_expand_144 rfl (Nat.le_of_ble_eq_true rfl) (Nat.le_of_ble_eq_true rfl) F (fun r5 σ4 F => ?_)
              refine s_aln dX13_expand_147 rfl ?_
              refine gf_134 dX13_expand_148 rfl ?_
              refine s_il dX13_expand_151 rfl ?_
              refine s_ald hC dX13_expand_153 rt_65 F.1 ?_
              replace F := F.2
              refine s_iln dX13_expand_154 rfl ?_
              refine s_ic dX13_expand_155 ki_4 ?_
              refine s_iin (t := 163) (a3 = (4 : Int32)) dX13_expand_156 rfl rfl (fun hc => ?_) (fun hc => ?_)
              · replace F := F.1 hc
                refine s_ic dX13_expand_163 ki_0 ?_
                exact s_k (t_expand_164 hC (fun a1' a2' a3' a4' a5' τ hb => by obtain ⟨k, hk, hI⟩ := hb; exact ih k hk a1' a2' a3' a4' a5' τ hI) F) ⟨rfl, rfl, rfl, rfl, rfl, trivial⟩
              · replace F := F.2 hc
                refine s_ic dX13_expand_159 ki_1 ?_
                refine s_goto (t := 164) dX13_expand_160 rfl ?_
                exact s_k (t_expand_164 hC (fun a1' a2' a3' a4' a5' τ hb => by obtain ⟨k, hk, hI⟩ := hb; exact ih k hk a1' a2' a3' a4' a5' τ hI) F) ⟨rfl, rfl, rfl, rfl, rfl, trivial⟩
  exact key n0 a1 a2 a3 a4 a5 σ hI0

def w_expand_84 (C : rCx) (Q : Int32 → rS → Prop)  (a1 : Int32) (a2 : Int32) (a3 : Int32) (s1 : Int32) (s2 : Int32) (σ : rS) : Prop :=
  inb s1 1000 ∧
  ∀ σ1, σ1 = riU σ 80 (s1).toNatClampNeg s2 →
  ((4 : Int32) ≤ a3 →
    w_expand_106 C Q  a1 a2 a3 (1 : Int32) (0 : Int32) σ1) ∧
  (¬ ((4 : Int32) ≤ a3) →
    cI C 3 m_addNext [.ref (co C), .int a3, .int (1 : Int32), .int (0 : Int32), .int a2] σ1 (fun r3 σ2 =>
      w_expand_106 C Q  a1 a2 a3 r3 (0 : Int32) σ2))
theorem t_expand_84 {C : rCx} (hC : cOK C) {Q : Int32 → rS → Prop}   {a1 : Int32} {a2 : Int32} {a3 : Int32} {s1 : Int32} {s2 : Int32} {σ : rS} (F : w_expand_84 C Q  a1 a2 a3 s1 s2 σ) : wG C 10 m_expand 84 [some (.ref (co C)), some (.int a1), some (.int a2), some (.int a3), none, none] [.int s2, .int s1, .ref (cad C 80)] σ (qI Q) := by
  unfold w_expand_84 at F
  refine s_astb hC dX13_expand_84 rt_80 F.1 (fun σ1 eσ1 => ?_)
  replace F := F.2 σ1 eσ1
  refine s_ic dX13_expand_85 ki_1 ?_
  refine s_is dX13_expand_86 (Nat.le_of_ble_eq_true rfl) rfl ?_
  refine s_iln dX13_expand_88 rfl ?_
  refine s_ic dX13_expand_89 ki_4 ?_
  refine s_ii (t := 103) ((4 : Int32) ≤ a3) dX13_expand_90 rfl rfl (fun hc => ?_) (fun hc => ?_)
  · replace F := F.1 hc
    refine s_ic dX13_expand_103 ki_0 ?_
    refine s_is dX13_expand_104 (Nat.le_of_ble_eq_true rfl) rfl ?_
    exact s_k (t_expand_106 hC  F) ⟨rfl, rfl, rfl, rfl, rfl, rfl, trivial⟩
  · replace F := F.2 hc
    refine s_aln dX13_expand_93 rfl ?_
    refine s_iln dX13_expand_94 rfl ?_
    refine s_ic dX13_expand_95 ki_1 ?_
    refine s_ic dX13_expand_96 ki_0 ?_
    refine s_iln dX13_expand_97 rfl ?_
    refine k_624 dX13_expand_98 rfl (Nat.le_of_ble_eq_true rfl) (Nat.le_of_ble_eq_true rfl) F (fun r3 σ2 F => ?_)
    refine s_is dX13_expand_101 (Nat.le_of_ble_eq_true rfl) rfl ?_
    refine s_ic dX13_expand_103 ki_0 ?_
    refine s_is dX13_expand_104 (Nat.le_of_ble_eq_true rfl) rfl ?_
    exact s_k (t_expand_106 hC  F) ⟨rfl, rfl, rfl, rfl, rfl, rfl, trivial⟩

def w_expand_56 (C : rCx) (Q : Int32 → rS → Prop)  (a1 : Int32) (a2 : Int32) (a3 : Int32) (s1 : Int32) (s2 : Int32) (σ : rS) : Prop :=
  inb s1 1000 ∧
  ∀ σ1, σ1 = riU σ 82 (s1).toNatClampNeg s2 →
  (¬ (a3 = (4 : Int32)) →
    (¬ (a3 = (5 : Int32)) →
      w_expand_84 C Q  a1 a2 a3 a1 (1 : Int32) σ1) ∧
    (a3 = (5 : Int32) →
      w_expand_84 C Q  a1 a2 a3 a1 (0 : Int32) σ1)) ∧
  (a3 = (4 : Int32) →
    w_expand_84 C Q  a1 a2 a3 a1 (σ1.1 66) σ1)
theorem t_expand_56 {C : rCx} (hC : cOK C) {Q : Int32 → rS → Prop}   {a1 : Int32} {a2 : Int32} {a3 : Int32} {s1 : Int32} {s2 : Int32} {σ : rS} (F : w_expand_56 C Q  a1 a2 a3 s1 s2 σ) : wG C 10 m_expand 56 [some (.ref (co C)), some (.int a1), some (.int a2), some (.int a3), none, none] [.int s2, .int s1, .ref (cad C 82)] σ (qI Q) := by
  unfold w_expand_56 at F
  refine s_astb hC dX13_expand_56 rt_82 F.1 (fun σ1 eσ1 => ?_)
  replace F := F.2 σ1 eσ1
  refine s_aln dX13_expand_57 rfl ?_
  refine gf_163 dX13_expand_58 rfl ?_
  refine s_iln dX13_expand_61 rfl ?_
  refine s_iln dX13_expand_62 rfl ?_
  refine s_ic dX13_expand_63 ki_4 ?_
  refine s_iin (t := 74) (a3 = (4 : Int32)) dX13_expand_64 rfl rfl (fun hc => ?_) (fun hc => ?_)
  · replace F := F.1 hc
    refine s_iln dX13_expand_74 rfl ?_
    refine s_ic dX13_expand_75 ki_5 ?_
    refine s_iin (t := 83) (a3 = (5 : Int32)) dX13_expand_76 rfl rfl (fun hc => ?_) (fun hc => ?_)
    · replace F := F.1 hc
      refine s_ic dX13_expand_83 ki_1 ?_
      exact s_k (t_expand_84 hC  F) ⟨rfl, rfl, rfl, rfl, trivial⟩
    · replace F := F.2 hc
      refine s_ic dX13_expand_79 ki_0 ?_
      refine s_goto (t := 84) dX13_expand_80 rfl ?_
      exact s_k (t_expand_84 hC  F) ⟨rfl, rfl, rfl, rfl, trivial⟩
  · replace F := F.2 hc
    refine s_aln dX13_expand_67 rfl ?_
    refine gf_581 dX13_expand_68 rfl ?_
    refine s_goto (t := 84) dX13_expand_71 rfl ?_
    exact s_k (t_expand_84 hC  F) ⟨rfl, rfl, rfl, rfl, trivial⟩

def w_expand_37 (C : rCx) (Q : Int32 → rS → Prop)  (a1 : Int32) (a2 : Int32) (a3 : Int32) (s1 : Int32) (s2 : Int32) (σ : rS) : Prop :=
  inb s1 1000 ∧
  ∀ σ1, σ1 = riU σ 81 (s1).toNatClampNeg (vp_nar .boolean s2) →
  (¬ (a3 = (2 : Int32)) →
    w_expand_56 C Q  a1 a2 a3 a1 (σ1.1 62) σ1) ∧
  (a3 = (2 : Int32) →
    w_expand_56 C Q  a1 a2 a3 a1 (0 : Int32) σ1)
theorem t_expand_37 {C : rCx} (hC : cOK C) {Q : Int32 → rS → Prop}   {a1 : Int32} {a2 : Int32} {a3 : Int32} {s1 : Int32} {s2 : Int32} {σ : rS} (F : w_expand_37 C Q  a1 a2 a3 s1 s2 σ) : wG C 10 m_expand 37 [some (.ref (co C)), some (.int a1), some (.int a2), some (.int a3), none, none] [.int s2, .int s1, .ref (cad C 81)] σ (qI Q) := by
  unfold w_expand_37 at F
  refine s_zstb hC dX13_expand_37 rt_81 F.1 (fun σ1 eσ1 => ?_)
  replace F := F.2 σ1 eσ1
  refine s_aln dX13_expand_38 rfl ?_
  refine gf_169 dX13_expand_39 rfl ?_
  refine s_iln dX13_expand_42 rfl ?_
  refine s_iln dX13_expand_43 rfl ?_
  refine s_ic dX13_expand_44 ki_2 ?_
  refine s_iin (t := 52) (a3 = (2 : Int32)) dX13_expand_45 rfl rfl (fun hc => ?_) (fun hc => ?_)
  · replace F := F.1 hc
    refine s_aln dX13_expand_52 rfl ?_
    refine gf_585 dX13_expand_53 rfl ?_
    exact s_k (t_expand_56 hC  F) ⟨rfl, rfl, rfl, rfl, trivial⟩
  · replace F := F.2 hc
    refine s_ic dX13_expand_48 ki_0 ?_
    refine s_goto (t := 56) dX13_expand_49 rfl ?_
    exact s_k (t_expand_56 hC  F) ⟨rfl, rfl, rfl, rfl, trivial⟩

def w_expand_0 (C : rCx) (Q : Int32 → rS → Prop)  (a1 : Int32) (σ : rS) : Prop :=
  ∀ v2_1 : Int32, v2_1 = (σ.1 72) →
  inb a1 1001 ∧
  ∀ σ2, σ2 = riU σ 76 (a1).toNatClampNeg v2_1 →
  cV C 0 m_unpack [.ref (co C), .int a1] σ2 (fun σ3 =>
    cI C 9 m_act [.ref (co C)] σ3 (fun r6 σ5 =>
      (¬ (r6 = (5 : Int32)) →
        w_expand_37 C Q  a1 v2_1 r6 a1 (0 : Int32) σ5) ∧
      (r6 = (5 : Int32) →
        w_expand_37 C Q  a1 v2_1 r6 a1 (1 : Int32) σ5)))
theorem t_expand_0 {C : rCx} (hC : cOK C) {Q : Int32 → rS → Prop}   {a1 : Int32} {σ : rS} (F : w_expand_0 C Q  a1 σ) : wG C 10 m_expand 0 [some (.ref (co C)), some (.int a1), none, none, none, none] [] σ (qI Q) := by
  unfold w_expand_0 at F
  refine s_aln dX13_expand_0 rfl ?_
  refine gf_548 dX13_expand_1 rfl ?_
  refine s_isnb dX13_expand_4 (Nat.le_of_ble_eq_true rfl) (fun v2_1 ev2_1 => ?_)
  replace F := F v2_1 ev2_1
  refine s_aln dX13_expand_5 rfl ?_
  refine gf_151 dX13_expand_6 rfl ?_
  refine s_iln dX13_expand_9 rfl ?_
  refine s_iln dX13_expand_10 rfl ?_
  refine s_astb hC dX13_expand_11 rt_76 F.1 (fun σ2 eσ2 => ?_)
  replace F := F.2 σ2 eσ2
  refine s_aln dX13_expand_12 rfl ?_
  refine s_iln dX13_expand_13 rfl ?_
  refine k_618 dX13_expand_14 rfl (Nat.le_of_ble_eq_true rfl) (Nat.le_of_ble_eq_true rfl) F (fun σ3 F => ?_)
  refine s_aln dX13_expand_17 rfl ?_
  refine k_621 dX13_expand_18 rfl (Nat.le_of_ble_eq_true rfl) (Nat.le_of_ble_eq_true rfl) F (fun r6 σ5 F => ?_)
  refine s_isn dX13_expand_21 (Nat.le_of_ble_eq_true rfl) rfl ?_
  refine s_aln dX13_expand_22 rfl ?_
  refine gf_166 dX13_expand_23 rfl ?_
  refine s_iln dX13_expand_26 rfl ?_
  refine s_iln dX13_expand_27 rfl ?_
  refine s_ic dX13_expand_28 ki_5 ?_
  refine s_iin (t := 36) (r6 = (5 : Int32)) dX13_expand_29 rfl rfl (fun hc => ?_) (fun hc => ?_)
  · replace F := F.1 hc
    refine s_ic dX13_expand_36 ki_0 ?_
    exact s_k (t_expand_37 hC  F) ⟨rfl, rfl, rfl, rfl, trivial⟩
  · replace F := F.2 hc
    refine s_ic dX13_expand_32 ki_1 ?_
    refine s_goto (t := 37) dX13_expand_33 rfl ?_
    exact s_k (t_expand_37 hC  F) ⟨rfl, rfl, rfl, rfl, trivial⟩

theorem m_expand_run {C : rCx} (hC : cOK C) {Q : Int32 → rS → Prop} {a1 : Int32} {σ : rS} (F : w_expand_0 C Q a1 σ) : cI C 10 m_expand [.ref (co C), .int a1] σ Q := m_I (m_ent _ 4) (t_expand_0 hC F)

theorem dX13_isTaken_0 : decode cX13_isTaken 0 = .ok (.iload_n 3, 1) := by decide +kernel
theorem dX13_isTaken_1 : decode cX13_isTaken 1 = .ok (.ifCond .eq 29, 3) := by decide +kernel
theorem dX13_isTaken_4 : decode cX13_isTaken 4 = .ok (.aload_n 0, 1) := by decide +kernel
theorem dX13_isTaken_5 : decode cX13_isTaken 5 = .ok (.getfield 166, 3) := by decide +kernel
theorem dX13_isTaken_8 : decode cX13_isTaken 8 = .ok (.iload_n 1, 1) := by decide +kernel
theorem dX13_isTaken_9 : decode cX13_isTaken 9 = .ok (.baload, 1) := by decide +kernel
theorem dX13_isTaken_10 : decode cX13_isTaken 10 = .ok (.ifCond .eq 20, 3) := by decide +kernel
theorem dX13_isTaken_13 : decode cX13_isTaken 13 = .ok (.iload_n 2, 1) := by decide +kernel
theorem dX13_isTaken_14 : decode cX13_isTaken 14 = .ok (.aload_n 0, 1) := by decide +kernel
theorem dX13_isTaken_15 : decode cX13_isTaken 15 = .ok (.getfield 151, 3) := by decide +kernel
theorem dX13_isTaken_18 : decode cX13_isTaken 18 = .ok (.iload_n 1, 1) := by decide +kernel
theorem dX13_isTaken_19 : decode cX13_isTaken 19 = .ok (.iaload, 1) := by decide +kernel
theorem dX13_isTaken_20 : decode cX13_isTaken 20 = .ok (.aload_n 0, 1) := by decide +kernel
theorem dX13_isTaken_21 : decode cX13_isTaken 21 = .ok (.getfield 172, 3) := by decide +kernel
theorem dX13_isTaken_24 : decode cX13_isTaken 24 = .ok (.iload_n 1, 1) := by decide +kernel
theorem dX13_isTaken_25 : decode cX13_isTaken 25 = .ok (.iaload, 1) := by decide +kernel
theorem dX13_isTaken_26 : decode cX13_isTaken 26 = .ok (.iadd, 1) := by decide +kernel
theorem dX13_isTaken_27 : decode cX13_isTaken 27 = .ok (.if_icmp .ne 7, 3) := by decide +kernel
theorem dX13_isTaken_30 : decode cX13_isTaken 30 = .ok (.iconst 1, 1) := by decide +kernel
theorem dX13_isTaken_31 : decode cX13_isTaken 31 = .ok (.goto 4, 3) := by decide +kernel
theorem dX13_isTaken_34 : decode cX13_isTaken 34 = .ok (.iconst 0, 1) := by decide +kernel
theorem dX13_isTaken_35 : decode cX13_isTaken 35 = .ok (.ireturn, 1) := by decide +kernel
def w_isTaken_0 (C : rCx) (Q : Int32 → rS → Prop)  (a1 : Int32) (a2 : Int32) (a3 : Int32) (σ : rS) : Prop :=
  (a3 = 0 →
    Q (1 : Int32) σ) ∧
  (¬ (a3 = 0) →
    inb a1 1000 ∧
    ((σ.2.2.1 81 (a1).toNatClampNeg) = 0 →
      Q (1 : Int32) σ) ∧
    (¬ ((σ.2.2.1 81 (a1).toNatClampNeg) = 0) →
      inb a1 1001 ∧
      inb a1 1000 ∧
      (¬ (a2 = ((σ.2.2.1 76 (a1).toNatClampNeg) + (σ.2.2.1 83 (a1).toNatClampNeg))) →
        Q (0 : Int32) σ) ∧
      (a2 = ((σ.2.2.1 76 (a1).toNatClampNeg) + (σ.2.2.1 83 (a1).toNatClampNeg)) →
        Q (1 : Int32) σ)))
theorem t_isTaken_0 {C : rCx} (hC : cOK C) {Q : Int32 → rS → Prop}   {a1 : Int32} {a2 : Int32} {a3 : Int32} {σ : rS} (F : w_isTaken_0 C Q  a1 a2 a3 σ) : wG C 0 m_isTaken 0 [some (.ref (co C)), some (.int a1), some (.int a2), some (.int a3)] [] σ (qI Q) := by
  unfold w_isTaken_0 at F
  refine s_iln dX13_isTaken_0 rfl ?_
  refine s_i (t := 30) (a3 = 0) dX13_isTaken_1 rfl rfl (fun hc => ?_) (fun hc => ?_)
  · replace F := F.1 hc
    refine s_ic dX13_isTaken_30 ki_1 ?_
    refine s_goto (t := 35) dX13_isTaken_31 rfl ?_
    exact s_ri dX13_isTaken_35 rfl (nb_nar nb_1) F
  · replace F := F.2 hc
    refine s_aln dX13_isTaken_4 rfl ?_
    refine gf_166 dX13_isTaken_5 rfl ?_
    refine s_iln dX13_isTaken_8 rfl ?_
    refine s_zld hC dX13_isTaken_9 rt_81 F.1 ?_
    replace F := F.2
    refine s_i (t := 30) ((σ.2.2.1 81 (a1).toNatClampNeg) = 0) dX13_isTaken_10 rfl rfl (fun hc => ?_) (fun hc => ?_)
    · replace F := F.1 hc
      refine s_ic dX13_isTaken_30 ki_1 ?_
      refine s_goto (t := 35) dX13_isTaken_31 rfl ?_
      exact s_ri dX13_isTaken_35 rfl (nb_nar nb_1) F
    · replace F := F.2 hc
      refine s_iln dX13_isTaken_13 rfl ?_
      refine s_aln dX13_isTaken_14 rfl ?_
      refine gf_151 dX13_isTaken_15 rfl ?_
      refine s_iln dX13_isTaken_18 rfl ?_
      refine s_ald hC dX13_isTaken_19 rt_76 F.1 ?_
      replace F := F.2
      refine s_aln dX13_isTaken_20 rfl ?_
      refine gf_172 dX13_isTaken_21 rfl ?_
      refine s_iln dX13_isTaken_24 rfl ?_
      refine s_ald hC dX13_isTaken_25 rt_83 F.1 ?_
      replace F := F.2
      refine s_iadd dX13_isTaken_26 ?_
      refine s_iin (t := 34) (a2 = ((σ.2.2.1 76 (a1).toNatClampNeg) + (σ.2.2.1 83 (a1).toNatClampNeg))) dX13_isTaken_27 rfl rfl (fun hc => ?_) (fun hc => ?_)
      · replace F := F.1 hc
        refine s_ic dX13_isTaken_34 ki_0 ?_
        exact s_ri dX13_isTaken_35 rfl (nb_nar nb_0) F
      · replace F := F.2 hc
        refine s_ic dX13_isTaken_30 ki_1 ?_
        refine s_goto (t := 35) dX13_isTaken_31 rfl ?_
        exact s_ri dX13_isTaken_35 rfl (nb_nar nb_1) F

theorem m_isTaken_run {C : rCx} (hC : cOK C) {Q : Int32 → rS → Prop} {a1 : Int32} {a2 : Int32} {a3 : Int32} {σ : rS} (F : w_isTaken_0 C Q a1 a2 a3 σ) : cI C 0 m_isTaken [.ref (co C), .int a1, .int a2, .int a3] σ Q := m_I (m_ent _ 0) (t_isTaken_0 hC F)

theorem dX13_leads_0 : decode cX13_leads 0 = .ok (.aload_n 0, 1) := by decide +kernel
theorem dX13_leads_1 : decode cX13_leads 1 = .ok (.getfield 178, 3) := by decide +kernel
theorem dX13_leads_4 : decode cX13_leads 4 = .ok (.bipush 16, 2) := by decide +kernel
theorem dX13_leads_6 : decode cX13_leads 6 = .ok (.iload_n 1, 1) := by decide +kernel
theorem dX13_leads_7 : decode cX13_leads 7 = .ok (.imul, 1) := by decide +kernel
theorem dX13_leads_8 : decode cX13_leads 8 = .ok (.iload_n 2, 1) := by decide +kernel
theorem dX13_leads_9 : decode cX13_leads 9 = .ok (.bipush 6, 2) := by decide +kernel
theorem dX13_leads_11 : decode cX13_leads 11 = .ok (.ishr, 1) := by decide +kernel
theorem dX13_leads_12 : decode cX13_leads 12 = .ok (.iadd, 1) := by decide +kernel
theorem dX13_leads_13 : decode cX13_leads 13 = .ok (.laload, 1) := by decide +kernel
theorem dX13_leads_14 : decode cX13_leads 14 = .ok (.iload_n 2, 1) := by decide +kernel
theorem dX13_leads_15 : decode cX13_leads 15 = .ok (.bipush 63, 2) := by decide +kernel
theorem dX13_leads_17 : decode cX13_leads 17 = .ok (.iand, 1) := by decide +kernel
theorem dX13_leads_18 : decode cX13_leads 18 = .ok (.lushr, 1) := by decide +kernel
theorem dX13_leads_19 : decode cX13_leads 19 = .ok (.lconst 1, 1) := by decide +kernel
theorem dX13_leads_20 : decode cX13_leads 20 = .ok (.land, 1) := by decide +kernel
theorem dX13_leads_21 : decode cX13_leads 21 = .ok (.lconst 1, 1) := by decide +kernel
theorem dX13_leads_22 : decode cX13_leads 22 = .ok (.lcmp, 1) := by decide +kernel
theorem dX13_leads_23 : decode cX13_leads 23 = .ok (.ifCond .ne 7, 3) := by decide +kernel
theorem dX13_leads_26 : decode cX13_leads 26 = .ok (.iconst 1, 1) := by decide +kernel
theorem dX13_leads_27 : decode cX13_leads 27 = .ok (.goto 4, 3) := by decide +kernel
theorem dX13_leads_30 : decode cX13_leads 30 = .ok (.iconst 0, 1) := by decide +kernel
theorem dX13_leads_31 : decode cX13_leads 31 = .ok (.ireturn, 1) := by decide +kernel
def w_leads_0 (C : rCx) (Q : Int32 → rS → Prop)  (a1 : Int32) (a2 : Int32) (σ : rS) : Prop :=
  inb (((16 : Int32) * a1) + (a2 >>> ((6 : Int32) &&& 31))) 16000 ∧
  (¬ ((lg_cmp ((((σ.2.2.2 86 ((((16 : Int32) * a1) + (a2 >>> ((6 : Int32) &&& 31)))).toNatClampNeg)).toUInt64 >>> (((a2 &&& (63 : Int32))).toInt64.toUInt64 &&& Int64.toUInt64 63)).toInt64 &&& (1 : Int64)) (1 : Int64)) = 0) →
    Q (0 : Int32) σ) ∧
  ((lg_cmp ((((σ.2.2.2 86 ((((16 : Int32) * a1) + (a2 >>> ((6 : Int32) &&& 31)))).toNatClampNeg)).toUInt64 >>> (((a2 &&& (63 : Int32))).toInt64.toUInt64 &&& Int64.toUInt64 63)).toInt64 &&& (1 : Int64)) (1 : Int64)) = 0 →
    Q (1 : Int32) σ)
theorem t_leads_0 {C : rCx} (hC : cOK C) {Q : Int32 → rS → Prop}   {a1 : Int32} {a2 : Int32} {σ : rS} (F : w_leads_0 C Q  a1 a2 σ) : wG C 0 m_leads 0 [some (.ref (co C)), some (.int a1), some (.int a2)] [] σ (qI Q) := by
  unfold w_leads_0 at F
  refine s_aln dX13_leads_0 rfl ?_
  refine gf_178 dX13_leads_1 rfl ?_
  refine s_bi dX13_leads_4 kb_16 ?_
  refine s_iln dX13_leads_6 rfl ?_
  refine s_imul dX13_leads_7 ?_
  refine s_iln dX13_leads_8 rfl ?_
  refine s_bi dX13_leads_9 kb_6 ?_
  refine s_ishr dX13_leads_11 ?_
  refine s_iadd dX13_leads_12 ?_
  refine s_lld hC dX13_leads_13 rt_86 F.1 ?_
  replace F := F.2
  refine s_iln dX13_leads_14 rfl ?_
  refine s_bi dX13_leads_15 kb_63 ?_
  refine s_iand dX13_leads_17 ?_
  refine s_lushr dX13_leads_18 ?_
  refine s_lc dX13_leads_19 kl_1 ?_
  refine s_land dX13_leads_20 ?_
  refine s_lc dX13_leads_21 kl_1 ?_
  refine s_lcmp dX13_leads_22 ?_
  refine s_in (t := 30) ((lg_cmp ((((σ.2.2.2 86 ((((16 : Int32) * a1) + (a2 >>> ((6 : Int32) &&& 31)))).toNatClampNeg)).toUInt64 >>> (((a2 &&& (63 : Int32))).toInt64.toUInt64 &&& Int64.toUInt64 63)).toInt64 &&& (1 : Int64)) (1 : Int64)) = 0) dX13_leads_23 rfl rfl (fun hc => ?_) (fun hc => ?_)
  · replace F := F.1 hc
    refine s_ic dX13_leads_30 ki_0 ?_
    exact s_ri dX13_leads_31 rfl (nb_nar nb_0) F
  · replace F := F.2 hc
    refine s_ic dX13_leads_26 ki_1 ?_
    refine s_goto (t := 31) dX13_leads_27 rfl ?_
    exact s_ri dX13_leads_31 rfl (nb_nar nb_1) F

theorem m_leads_run {C : rCx} (hC : cOK C) {Q : Int32 → rS → Prop} {a1 : Int32} {a2 : Int32} {σ : rS} (F : w_leads_0 C Q a1 a2 σ) : cI C 0 m_leads [.ref (co C), .int a1, .int a2] σ Q := m_I (m_ent _ 0) (t_leads_0 hC F)

theorem dX13_findReach_0 : decode cX13_findReach 0 = .ok (.iconst 0, 1) := by decide +kernel
theorem dX13_findReach_1 : decode cX13_findReach 1 = .ok (.istore 4, 2) := by decide +kernel
theorem dX13_findReach_3 : decode cX13_findReach 3 = .ok (.iload 4, 2) := by decide +kernel
theorem dX13_findReach_5 : decode cX13_findReach 5 = .ok (.bipush 16, 2) := by decide +kernel
theorem dX13_findReach_7 : decode cX13_findReach 7 = .ok (.aload_n 0, 1) := by decide +kernel
theorem dX13_findReach_8 : decode cX13_findReach 8 = .ok (.getfield 542, 3) := by decide +kernel
theorem dX13_findReach_11 : decode cX13_findReach 11 = .ok (.imul, 1) := by decide +kernel
theorem dX13_findReach_12 : decode cX13_findReach 12 = .ok (.if_icmp .ge 17, 3) := by decide +kernel
theorem dX13_findReach_15 : decode cX13_findReach 15 = .ok (.aload_n 0, 1) := by decide +kernel
theorem dX13_findReach_16 : decode cX13_findReach 16 = .ok (.getfield 178, 3) := by decide +kernel
theorem dX13_findReach_19 : decode cX13_findReach 19 = .ok (.iload 4, 2) := by decide +kernel
theorem dX13_findReach_21 : decode cX13_findReach 21 = .ok (.lconst 0, 1) := by decide +kernel
theorem dX13_findReach_22 : decode cX13_findReach 22 = .ok (.lastore, 1) := by decide +kernel
theorem dX13_findReach_23 : decode cX13_findReach 23 = .ok (.iinc 4 1, 3) := by decide +kernel
theorem dX13_findReach_26 : decode cX13_findReach 26 = .ok (.goto (-23), 3) := by decide +kernel
theorem dX13_findReach_29 : decode cX13_findReach 29 = .ok (.iconst 0, 1) := by decide +kernel
theorem dX13_findReach_30 : decode cX13_findReach 30 = .ok (.istore 4, 2) := by decide +kernel
theorem dX13_findReach_32 : decode cX13_findReach 32 = .ok (.iload 4, 2) := by decide +kernel
theorem dX13_findReach_34 : decode cX13_findReach 34 = .ok (.aload_n 0, 1) := by decide +kernel
theorem dX13_findReach_35 : decode cX13_findReach 35 = .ok (.getfield 542, 3) := by decide +kernel
theorem dX13_findReach_38 : decode cX13_findReach 38 = .ok (.if_icmp .ge 113, 3) := by decide +kernel
theorem dX13_findReach_41 : decode cX13_findReach 41 = .ok (.aload_n 0, 1) := by decide +kernel
theorem dX13_findReach_42 : decode cX13_findReach 42 = .ok (.getfield 151, 3) := by decide +kernel
theorem dX13_findReach_45 : decode cX13_findReach 45 = .ok (.iload 4, 2) := by decide +kernel
theorem dX13_findReach_47 : decode cX13_findReach 47 = .ok (.iaload, 1) := by decide +kernel
theorem dX13_findReach_48 : decode cX13_findReach 48 = .ok (.istore 5, 2) := by decide +kernel
theorem dX13_findReach_50 : decode cX13_findReach 50 = .ok (.iload 5, 2) := by decide +kernel
theorem dX13_findReach_52 : decode cX13_findReach 52 = .ok (.aload_n 0, 1) := by decide +kernel
theorem dX13_findReach_53 : decode cX13_findReach 53 = .ok (.getfield 151, 3) := by decide +kernel
theorem dX13_findReach_56 : decode cX13_findReach 56 = .ok (.iload 4, 2) := by decide +kernel
theorem dX13_findReach_58 : decode cX13_findReach 58 = .ok (.iconst 1, 1) := by decide +kernel
theorem dX13_findReach_59 : decode cX13_findReach 59 = .ok (.iadd, 1) := by decide +kernel
theorem dX13_findReach_60 : decode cX13_findReach 60 = .ok (.iaload, 1) := by decide +kernel
theorem dX13_findReach_61 : decode cX13_findReach 61 = .ok (.if_icmp .ge 84, 3) := by decide +kernel
theorem dX13_findReach_64 : decode cX13_findReach 64 = .ok (.aload_n 0, 1) := by decide +kernel
theorem dX13_findReach_65 : decode cX13_findReach 65 = .ok (.getfield 157, 3) := by decide +kernel
theorem dX13_findReach_68 : decode cX13_findReach 68 = .ok (.iload 5, 2) := by decide +kernel
theorem dX13_findReach_70 : decode cX13_findReach 70 = .ok (.iaload, 1) := by decide +kernel
theorem dX13_findReach_71 : decode cX13_findReach 71 = .ok (.istore 6, 2) := by decide +kernel
theorem dX13_findReach_73 : decode cX13_findReach 73 = .ok (.aload_n 0, 1) := by decide +kernel
theorem dX13_findReach_74 : decode cX13_findReach 74 = .ok (.getfield 154, 3) := by decide +kernel
theorem dX13_findReach_77 : decode cX13_findReach 77 = .ok (.iload 5, 2) := by decide +kernel
theorem dX13_findReach_79 : decode cX13_findReach 79 = .ok (.iaload, 1) := by decide +kernel
theorem dX13_findReach_80 : decode cX13_findReach 80 = .ok (.ifCond .ne 59, 3) := by decide +kernel
theorem dX13_findReach_83 : decode cX13_findReach 83 = .ok (.aload_n 0, 1) := by decide +kernel
theorem dX13_findReach_84 : decode cX13_findReach 84 = .ok (.iload 4, 2) := by decide +kernel
theorem dX13_findReach_86 : decode cX13_findReach 86 = .ok (.iload 5, 2) := by decide +kernel
theorem dX13_findReach_88 : decode cX13_findReach 88 = .ok (.iload_n 1, 1) := by decide +kernel
theorem dX13_findReach_89 : decode cX13_findReach 89 = .ok (.invokevirtual 640, 3) := by decide +kernel
theorem dX13_findReach_92 : decode cX13_findReach 92 = .ok (.ifCond .eq 47, 3) := by decide +kernel
theorem dX13_findReach_95 : decode cX13_findReach 95 = .ok (.iload_n 3, 1) := by decide +kernel
theorem dX13_findReach_96 : decode cX13_findReach 96 = .ok (.ifCond .ne 17, 3) := by decide +kernel
theorem dX13_findReach_99 : decode cX13_findReach 99 = .ok (.aload_n 2, 1) := by decide +kernel
theorem dX13_findReach_100 : decode cX13_findReach 100 = .ok (.iload 4, 2) := by decide +kernel
theorem dX13_findReach_102 : decode cX13_findReach 102 = .ok (.baload, 1) := by decide +kernel
theorem dX13_findReach_103 : decode cX13_findReach 103 = .ok (.ifCond .eq 36, 3) := by decide +kernel
theorem dX13_findReach_106 : decode cX13_findReach 106 = .ok (.aload_n 2, 1) := by decide +kernel
theorem dX13_findReach_107 : decode cX13_findReach 107 = .ok (.iload 6, 2) := by decide +kernel
theorem dX13_findReach_109 : decode cX13_findReach 109 = .ok (.baload, 1) := by decide +kernel
theorem dX13_findReach_110 : decode cX13_findReach 110 = .ok (.ifCond .eq 29, 3) := by decide +kernel
theorem dX13_findReach_113 : decode cX13_findReach 113 = .ok (.aload_n 0, 1) := by decide +kernel
theorem dX13_findReach_114 : decode cX13_findReach 114 = .ok (.getfield 178, 3) := by decide +kernel
theorem dX13_findReach_117 : decode cX13_findReach 117 = .ok (.bipush 16, 2) := by decide +kernel
theorem dX13_findReach_119 : decode cX13_findReach 119 = .ok (.iload 4, 2) := by decide +kernel
theorem dX13_findReach_121 : decode cX13_findReach 121 = .ok (.imul, 1) := by decide +kernel
theorem dX13_findReach_122 : decode cX13_findReach 122 = .ok (.iload 6, 2) := by decide +kernel
theorem dX13_findReach_124 : decode cX13_findReach 124 = .ok (.bipush 6, 2) := by decide +kernel
theorem dX13_findReach_126 : decode cX13_findReach 126 = .ok (.ishr, 1) := by decide +kernel
theorem dX13_findReach_127 : decode cX13_findReach 127 = .ok (.iadd, 1) := by decide +kernel
theorem dX13_findReach_128 : decode cX13_findReach 128 = .ok (.dup2, 1) := by decide +kernel
theorem dX13_findReach_129 : decode cX13_findReach 129 = .ok (.laload, 1) := by decide +kernel
theorem dX13_findReach_130 : decode cX13_findReach 130 = .ok (.lconst 1, 1) := by decide +kernel
theorem dX13_findReach_131 : decode cX13_findReach 131 = .ok (.iload 6, 2) := by decide +kernel
theorem dX13_findReach_133 : decode cX13_findReach 133 = .ok (.bipush 63, 2) := by decide +kernel
theorem dX13_findReach_135 : decode cX13_findReach 135 = .ok (.iand, 1) := by decide +kernel
theorem dX13_findReach_136 : decode cX13_findReach 136 = .ok (.lshl, 1) := by decide +kernel
theorem dX13_findReach_137 : decode cX13_findReach 137 = .ok (.lor, 1) := by decide +kernel
theorem dX13_findReach_138 : decode cX13_findReach 138 = .ok (.lastore, 1) := by decide +kernel
theorem dX13_findReach_139 : decode cX13_findReach 139 = .ok (.iinc 5 1, 3) := by decide +kernel
theorem dX13_findReach_142 : decode cX13_findReach 142 = .ok (.goto (-92), 3) := by decide +kernel
theorem dX13_findReach_145 : decode cX13_findReach 145 = .ok (.iinc 4 1, 3) := by decide +kernel
theorem dX13_findReach_148 : decode cX13_findReach 148 = .ok (.goto (-116), 3) := by decide +kernel
theorem dX13_findReach_151 : decode cX13_findReach 151 = .ok (.iconst 0, 1) := by decide +kernel
theorem dX13_findReach_152 : decode cX13_findReach 152 = .ok (.istore 4, 2) := by decide +kernel
theorem dX13_findReach_154 : decode cX13_findReach 154 = .ok (.iload 4, 2) := by decide +kernel
theorem dX13_findReach_156 : decode cX13_findReach 156 = .ok (.aload_n 0, 1) := by decide +kernel
theorem dX13_findReach_157 : decode cX13_findReach 157 = .ok (.getfield 542, 3) := by decide +kernel
theorem dX13_findReach_160 : decode cX13_findReach 160 = .ok (.if_icmp .ge 83, 3) := by decide +kernel
theorem dX13_findReach_163 : decode cX13_findReach 163 = .ok (.iconst 0, 1) := by decide +kernel
theorem dX13_findReach_164 : decode cX13_findReach 164 = .ok (.istore 5, 2) := by decide +kernel
theorem dX13_findReach_166 : decode cX13_findReach 166 = .ok (.iload 5, 2) := by decide +kernel
theorem dX13_findReach_168 : decode cX13_findReach 168 = .ok (.aload_n 0, 1) := by decide +kernel
theorem dX13_findReach_169 : decode cX13_findReach 169 = .ok (.getfield 542, 3) := by decide +kernel
theorem dX13_findReach_172 : decode cX13_findReach 172 = .ok (.if_icmp .ge 65, 3) := by decide +kernel
theorem dX13_findReach_175 : decode cX13_findReach 175 = .ok (.aload_n 0, 1) := by decide +kernel
theorem dX13_findReach_176 : decode cX13_findReach 176 = .ok (.iload 5, 2) := by decide +kernel
theorem dX13_findReach_178 : decode cX13_findReach 178 = .ok (.iload 4, 2) := by decide +kernel
theorem dX13_findReach_180 : decode cX13_findReach 180 = .ok (.invokevirtual 644, 3) := by decide +kernel
theorem dX13_findReach_183 : decode cX13_findReach 183 = .ok (.ifCond .eq 48, 3) := by decide +kernel
theorem dX13_findReach_186 : decode cX13_findReach 186 = .ok (.iconst 0, 1) := by decide +kernel
theorem dX13_findReach_187 : decode cX13_findReach 187 = .ok (.istore 6, 2) := by decide +kernel
theorem dX13_findReach_189 : decode cX13_findReach 189 = .ok (.iload 6, 2) := by decide +kernel
theorem dX13_findReach_191 : decode cX13_findReach 191 = .ok (.bipush 16, 2) := by decide +kernel
theorem dX13_findReach_193 : decode cX13_findReach 193 = .ok (.if_icmp .ge 38, 3) := by decide +kernel
theorem dX13_findReach_196 : decode cX13_findReach 196 = .ok (.aload_n 0, 1) := by decide +kernel
theorem dX13_findReach_197 : decode cX13_findReach 197 = .ok (.getfield 178, 3) := by decide +kernel
theorem dX13_findReach_200 : decode cX13_findReach 200 = .ok (.bipush 16, 2) := by decide +kernel
theorem dX13_findReach_202 : decode cX13_findReach 202 = .ok (.iload 5, 2) := by decide +kernel
theorem dX13_findReach_204 : decode cX13_findReach 204 = .ok (.imul, 1) := by decide +kernel
theorem dX13_findReach_205 : decode cX13_findReach 205 = .ok (.iload 6, 2) := by decide +kernel
theorem dX13_findReach_207 : decode cX13_findReach 207 = .ok (.iadd, 1) := by decide +kernel
theorem dX13_findReach_208 : decode cX13_findReach 208 = .ok (.dup2, 1) := by decide +kernel
theorem dX13_findReach_209 : decode cX13_findReach 209 = .ok (.laload, 1) := by decide +kernel
theorem dX13_findReach_210 : decode cX13_findReach 210 = .ok (.aload_n 0, 1) := by decide +kernel
theorem dX13_findReach_211 : decode cX13_findReach 211 = .ok (.getfield 178, 3) := by decide +kernel
theorem dX13_findReach_214 : decode cX13_findReach 214 = .ok (.bipush 16, 2) := by decide +kernel
theorem dX13_findReach_216 : decode cX13_findReach 216 = .ok (.iload 4, 2) := by decide +kernel
theorem dX13_findReach_218 : decode cX13_findReach 218 = .ok (.imul, 1) := by decide +kernel
theorem dX13_findReach_219 : decode cX13_findReach 219 = .ok (.iload 6, 2) := by decide +kernel
theorem dX13_findReach_221 : decode cX13_findReach 221 = .ok (.iadd, 1) := by decide +kernel
theorem dX13_findReach_222 : decode cX13_findReach 222 = .ok (.laload, 1) := by decide +kernel
theorem dX13_findReach_223 : decode cX13_findReach 223 = .ok (.lor, 1) := by decide +kernel
theorem dX13_findReach_224 : decode cX13_findReach 224 = .ok (.lastore, 1) := by decide +kernel
theorem dX13_findReach_225 : decode cX13_findReach 225 = .ok (.iinc 6 1, 3) := by decide +kernel
theorem dX13_findReach_228 : decode cX13_findReach 228 = .ok (.goto (-39), 3) := by decide +kernel
theorem dX13_findReach_231 : decode cX13_findReach 231 = .ok (.iinc 5 1, 3) := by decide +kernel
theorem dX13_findReach_234 : decode cX13_findReach 234 = .ok (.goto (-68), 3) := by decide +kernel
theorem dX13_findReach_237 : decode cX13_findReach 237 = .ok (.iinc 4 1, 3) := by decide +kernel
theorem dX13_findReach_240 : decode cX13_findReach 240 = .ok (.goto (-86), 3) := by decide +kernel
theorem dX13_findReach_243 : decode cX13_findReach 243 = .ok (.return_, 1) := by decide +kernel
def w_findReach_113 (C : rCx) (Q : rS → Prop) (B32 : Int32 → Nat → Int32 → Int32 → rS → Prop) (B50 : Int32 → Nat → Int32 → Int32 → Int32 → rS → Prop) (a1 : Int32) (a2 : Nat) (a3 : Int32) (a4 : Int32) (a5 : Int32) (a6 : Int32) (σ : rS) : Prop :=
  inb (((16 : Int32) * a4) + (a6 >>> ((6 : Int32) &&& 31))) 16000 ∧
  inb (((16 : Int32) * a4) + (a6 >>> ((6 : Int32) &&& 31))) 16000 ∧
  ∀ σ1, σ1 = rlU σ 86 ((((16 : Int32) * a4) + (a6 >>> ((6 : Int32) &&& 31)))).toNatClampNeg ((σ.2.2.2 86 ((((16 : Int32) * a4) + (a6 >>> ((6 : Int32) &&& 31)))).toNatClampNeg) ||| ((1 : Int64) <<< (((a6 &&& (63 : Int32))).toInt64 &&& 63))) →
  ∀ v5_2 : Int32, v5_2 = a5 + (1 : Int32) →
  B50 a1 a2 a3 a4 v5_2 σ1
theorem t_findReach_113 {C : rCx} (hC : cOK C) {Q : rS → Prop} {B32 : Int32 → Nat → Int32 → Int32 → rS → Prop} {B50 : Int32 → Nat → Int32 → Int32 → Int32 → rS → Prop} (hB32 : ∀ a1' a2' a3' a4' τ, B32 a1' a2' a3' a4' τ → wG C 1 m_findReach 32 [some (.ref (co C)), some (.int a1'), some (.ref (cad C a2')), some (.int a3'), some (.int a4'), none, none] [] τ (qV Q)) (hB50 : ∀ a1' a2' a3' a4' a5' τ, B50 a1' a2' a3' a4' a5' τ → wG C 1 m_findReach 50 [some (.ref (co C)), some (.int a1'), some (.ref (cad C a2')), some (.int a3'), some (.int a4'), some (.int a5'), none] [] τ (qV Q)) {a1 : Int32} {a2 : Nat} {a3 : Int32} {a4 : Int32} {a5 : Int32} {a6 : Int32} {σ : rS} (F : w_findReach_113 C Q B32 B50 a1 a2 a3 a4 a5 a6 σ) : wG C 1 m_findReach 113 [some (.ref (co C)), some (.int a1), some (.ref (cad C a2)), some (.int a3), some (.int a4), some (.int a5), some (.int a6)] [] σ (qV Q) := by
  unfold w_findReach_113 at F
  refine s_aln dX13_findReach_113 rfl ?_
  refine gf_178 dX13_findReach_114 rfl ?_
  refine s_bi dX13_findReach_117 kb_16 ?_
  refine s_il dX13_findReach_119 rfl ?_
  refine s_imul dX13_findReach_121 ?_
  refine s_il dX13_findReach_122 rfl ?_
  refine s_bi dX13_findReach_124 kb_6 ?_
  refine s_ishr dX13_findReach_126 ?_
  refine s_iadd dX13_findReach_127 ?_
  refine s_dup2 dX13_findReach_128 rfl rfl ?_
  refine s_lld hC dX13_findReach_129 rt_86 F.1 ?_
  replace F := F.2
  refine s_lc dX13_findReach_130 kl_1 ?_
  refine s_il dX13_findReach_131 rfl ?_
  refine s_bi dX13_findReach_133 kb_63 ?_
  refine s_iand dX13_findReach_135 ?_
  refine s_lshl dX13_findReach_136 ?_
  refine s_lor dX13_findReach_137 ?_
  refine s_lstb hC dX13_findReach_138 rt_86 F.1 (fun σ1 eσ1 => ?_)
  replace F := F.2 σ1 eσ1
  refine s_incb dX13_findReach_139 ki_1 rfl (Nat.le_of_ble_eq_true rfl) (fun v5_2 ev5_2 => ?_)
  replace F := F v5_2 ev5_2
  refine s_goto (t := 50) dX13_findReach_142 rfl ?_
  exact s_k (hB50 _ _ _ _ _ _ F) ⟨rfl, rfl, rfl, rfl, rfl, rfl, trivial⟩

def w_findReach_50 (C : rCx) (Q : rS → Prop) (B32 : Int32 → Nat → Int32 → Int32 → rS → Prop) (a1 : Int32) (a2 : Nat) (a3 : Int32) (a4 : Int32) (a5 : Int32) (σ : rS) : Prop :=
  ∃ I : Nat → Int32 → Nat → Int32 → Int32 → Int32 → rS → Prop, (∃ n, I n a1 a2 a3 a4 a5 σ) ∧ ∀ n a1 a2 a3 a4 a5 σ, I n a1 a2 a3 a4 a5 σ →
    inb (a4 + (1 : Int32)) 1001 ∧
    ((σ.2.2.1 76 ((a4 + (1 : Int32))).toNatClampNeg) ≤ a5 →
      ∀ v4_1 : Int32, v4_1 = a4 + (1 : Int32) →
      B32 a1 a2 a3 v4_1 σ) ∧
    (¬ ((σ.2.2.1 76 ((a4 + (1 : Int32))).toNatClampNeg) ≤ a5) →
      inb a5 20000 ∧
      ∀ v6_2 : Int32, v6_2 = (σ.2.2.1 78 (a5).toNatClampNeg) →
      inb a5 20000 ∧
      (¬ ((σ.2.2.1 77 (a5).toNatClampNeg) = 0) →
        ∀ v5_3 : Int32, v5_3 = a5 + (1 : Int32) →
        ∃ k < n, I k a1 a2 a3 a4 v5_3 σ) ∧
      ((σ.2.2.1 77 (a5).toNatClampNeg) = 0 →
        cI C 0 m_isTaken [.ref (co C), .int a4, .int a5, .int a1] σ (fun r5 σ4 =>
          (r5 = 0 →
            ∀ v5_6 : Int32, v5_6 = a5 + (1 : Int32) →
            ∃ k < n, I k a1 a2 a3 a4 v5_6 σ4) ∧
          (¬ (r5 = 0) →
            (¬ (a3 = 0) →
              w_findReach_113 C Q B32 (fun a1' a2' a3' a4' a5' τ => ∃ k < n, I k a1' a2' a3' a4' a5' τ) a1 a2 a3 a4 a5 v6_2 σ4) ∧
            (a3 = 0 →
              ∃ l7, rT a2 = some (3, l7) ∧ inb a4 l7 ∧
              ((σ4.2.2.1 a2 (a4).toNatClampNeg) = 0 →
                ∀ v5_8 : Int32, v5_8 = a5 + (1 : Int32) →
                ∃ k < n, I k a1 a2 a3 a4 v5_8 σ4) ∧
              (¬ ((σ4.2.2.1 a2 (a4).toNatClampNeg) = 0) →
                ∃ l9, rT a2 = some (3, l9) ∧ inb v6_2 l9 ∧
                ((σ4.2.2.1 a2 (v6_2).toNatClampNeg) = 0 →
                  ∀ v5_10 : Int32, v5_10 = a5 + (1 : Int32) →
                  ∃ k < n, I k a1 a2 a3 a4 v5_10 σ4) ∧
                (¬ ((σ4.2.2.1 a2 (v6_2).toNatClampNeg) = 0) →
                  w_findReach_113 C Q B32 (fun a1' a2' a3' a4' a5' τ => ∃ k < n, I k a1' a2' a3' a4' a5' τ) a1 a2 a3 a4 a5 v6_2 σ4)))))))
theorem t_findReach_50 {C : rCx} (hC : cOK C) {Q : rS → Prop} {B32 : Int32 → Nat → Int32 → Int32 → rS → Prop} (hB32 : ∀ a1' a2' a3' a4' τ, B32 a1' a2' a3' a4' τ → wG C 1 m_findReach 32 [some (.ref (co C)), some (.int a1'), some (.ref (cad C a2')), some (.int a3'), some (.int a4'), none, none] [] τ (qV Q)) {a1 : Int32} {a2 : Nat} {a3 : Int32} {a4 : Int32} {a5 : Int32} {σ : rS} (F : w_findReach_50 C Q B32 a1 a2 a3 a4 a5 σ) : wG C 1 m_findReach 50 [some (.ref (co C)), some (.int a1), some (.ref (cad C a2)), some (.int a3), some (.int a4), some (.int a5), none] [] σ (qV Q) := by
  obtain ⟨I, ⟨n0, hI0⟩, F0⟩ := F
  have key : ∀ n a1 a2 a3 a4 a5 σ, I n a1 a2 a3 a4 a5 σ → wG C 1 m_findReach 50 [some (.ref (co C)), some (.int a1), some (.ref (cad C a2)), some (.int a3), some (.int a4), some (.int a5), none] [] σ (qV Q) := by
    intro n
    induction n using Nat.strongRecOn with
    | _ n ih =>
      intro a1 a2 a3 a4 a5 σ hI
      have F := F0 n a1 a2 a3 a4 a5 σ hI
      clear hI hI0
      refine s_il dX13_findReach_50 rfl ?_
      refine s_aln dX13_findReach_52 rfl ?_
      refine gf_151 dX13_findReach_53 rfl ?_
      refine s_il dX13_findReach_56 rfl ?_
      refine s_ic dX13_findReach_58 ki_1 ?_
      refine s_iadd dX13_findReach_59 ?_
      refine s_ald hC dX13_findReach_60 rt_76 F.1 ?_
      replace F := F.2
      refine s_ii (t := 145) ((σ.2.2.1 76 ((a4 + (1 : Int32))).toNatClampNeg) ≤ a5) dX13_findReach_61 rfl rfl (fun hc => ?_) (fun hc => ?_)
      · replace F := F.1 hc
        refine s_incb dX13_findReach_145 ki_1 rfl (Nat.le_of_ble_eq_true rfl) (fun v4_1 ev4_1 => ?_)
        replace F := F v4_1 ev4_1
        refine s_goto (t := 32) dX13_findReach_148 rfl ?_
        exact s_k (hB32 _ _ _ _ _ F) ⟨rfl, rfl, rfl, rfl, rfl, trivial⟩
      · replace F := F.2 hc
        refine s_aln dX13_findReach_64 rfl ?_
        refine gf_157 dX13_findReach_65 rfl ?_
        refine s_il dX13_findReach_68 rfl ?_
        refine s_ald hC dX13_findReach_70 rt_78 F.1 ?_
        replace F := F.2
        refine s_isb dX13_findReach_71 (Nat.le_of_ble_eq_true rfl) (fun v6_2 ev6_2 => ?_)
        replace F := F v6_2 ev6_2
        refine s_aln dX13_findReach_73 rfl ?_
        refine gf_154 dX13_findReach_74 rfl ?_
        refine s_il dX13_findReach_77 rfl ?_
        refine s_ald hC dX13_findReach_79 rt_77 F.1 ?_
        replace F := F.2
        refine s_in (t := 139) ((σ.2.2.1 77 (a5).toNatClampNeg) = 0) dX13_findReach_80 rfl rfl (fun hc => ?_) (fun hc => ?_)
        · replace F := F.1 hc
          refine s_incb dX13_findReach_139 ki_1 rfl (Nat.le_of_ble_eq_true rfl) (fun v5_3 ev5_3 => ?_)
          replace F := F v5_3 ev5_3
          refine s_goto (t := 50) dX13_findReach_142 rfl ?_
          obtain ⟨k, hk, hI⟩ := F
          exact s_k (ih k hk _ _ _ _ _ _ hI) ⟨rfl, rfl, rfl, rfl, rfl, rfl, trivial⟩
        · replace F := F.2 hc
          refine s_aln dX13_findReach_83 rfl ?_
          refine s_il dX13_findReach_84 rfl ?_
          refine s_il dX13_findReach_86 rfl ?_
          refine s_iln dX13_findReach_88 rfl ?_
          refine k_640 dX13_findReach_89 rfl (Nat.le_of_ble_eq_true rfl) (Nat.le_of_ble_eq_true rfl) F (fun r5 σ4 F => ?_)
          refine s_i (t := 139) (r5 = 0) dX13_findReach_92 rfl rfl (fun hc => ?_) (fun hc => ?_)
          · replace F := F.1 hc
            refine s_incb dX13_findReach_139 ki_1 rfl (Nat.le_of_ble_eq_true rfl) (fun v5_6 ev5_6 => ?_)
            replace F := F v5_6 ev5_6
            refine s_goto (t := 50) dX13_findReach_142 rfl ?_
            obtain ⟨k, hk, hI⟩ := F
            exact s_k (ih k hk _ _ _ _ _ _ hI) ⟨rfl, rfl, rfl, rfl, rfl, rfl, trivial⟩
          · replace F := F.2 hc
            refine s_iln dX13_findReach_95 rfl ?_
            refine s_in (t := 113) (a3 = 0) dX13_findReach_96 rfl rfl (fun hc => ?_) (fun hc => ?_)
            · replace F := F.1 hc
              exact s_k (t_findReach_113 hC hB32 (fun a1' a2' a3' a4' a5' τ hb => by obtain ⟨k, hk, hI⟩ := hb; exact ih k hk a1' a2' a3' a4' a5' τ hI) F) ⟨rfl, rfl, rfl, rfl, rfl, rfl, rfl, trivial⟩
            · replace F := F.2 hc
              refine s_aln dX13_findReach_99 rfl ?_
              refine s_il dX13_findReach_100 rfl ?_
              obtain ⟨l7, hTl7, hinl7, F⟩ := F
              refine s_zld hC dX13_findReach_102 hTl7 hinl7 ?_
              refine s_i (t := 139) ((σ4.2.2.1 a2 (a4).toNatClampNeg) = 0) dX13_findReach_103 rfl rfl (fun hc => ?_) (fun hc => ?_)
              · replace F := F.1 hc
                refine s_incb dX13_findReach_139 ki_1 rfl (Nat.le_of_ble_eq_true rfl) (fun v5_8 ev5_8 => ?_)
                replace F := F v5_8 ev5_8
                refine s_goto (t := 50) dX13_findReach_142 rfl ?_
                obtain ⟨k, hk, hI⟩ := F
                exact s_k (ih k hk _ _ _ _ _ _ hI) ⟨rfl, rfl, rfl, rfl, rfl, rfl, trivial⟩
              · replace F := F.2 hc
                refine s_aln dX13_findReach_106 rfl ?_
                refine s_il dX13_findReach_107 rfl ?_
                obtain ⟨l9, hTl9, hinl9, F⟩ := F
                refine s_zld hC dX13_findReach_109 hTl9 hinl9 ?_
                refine s_i (t := 139) ((σ4.2.2.1 a2 (v6_2).toNatClampNeg) = 0) dX13_findReach_110 rfl rfl (fun hc => ?_) (fun hc => ?_)
                · replace F := F.1 hc
                  refine s_incb dX13_findReach_139 ki_1 rfl (Nat.le_of_ble_eq_true rfl) (fun v5_10 ev5_10 => ?_)
                  replace F := F v5_10 ev5_10
                  refine s_goto (t := 50) dX13_findReach_142 rfl ?_
                  obtain ⟨k, hk, hI⟩ := F
                  exact s_k (ih k hk _ _ _ _ _ _ hI) ⟨rfl, rfl, rfl, rfl, rfl, rfl, trivial⟩
                · replace F := F.2 hc
                  exact s_k (t_findReach_113 hC hB32 (fun a1' a2' a3' a4' a5' τ hb => by obtain ⟨k, hk, hI⟩ := hb; exact ih k hk a1' a2' a3' a4' a5' τ hI) F) ⟨rfl, rfl, rfl, rfl, rfl, rfl, rfl, trivial⟩
  exact key n0 a1 a2 a3 a4 a5 σ hI0

def w_findReach_189 (C : rCx) (Q : rS → Prop) (B154 : Int32 → rS → Prop) (B166 : Int32 → Int32 → rS → Prop) (a4 : Int32) (a5 : Int32) (a6 : Int32) (σ : rS) : Prop :=
  ∃ I : Nat → Int32 → Int32 → Int32 → rS → Prop, (∃ n, I n a4 a5 a6 σ) ∧ ∀ n a4 a5 a6 σ, I n a4 a5 a6 σ →
    ((16 : Int32) ≤ a6 →
      ∀ v5_1 : Int32, v5_1 = a5 + (1 : Int32) →
      B166 a4 v5_1 σ) ∧
    (¬ ((16 : Int32) ≤ a6) →
      inb (((16 : Int32) * a5) + a6) 16000 ∧
      inb (((16 : Int32) * a4) + a6) 16000 ∧
      inb (((16 : Int32) * a5) + a6) 16000 ∧
      ∀ σ2, σ2 = rlU σ 86 ((((16 : Int32) * a5) + a6)).toNatClampNeg ((σ.2.2.2 86 ((((16 : Int32) * a5) + a6)).toNatClampNeg) ||| (σ.2.2.2 86 ((((16 : Int32) * a4) + a6)).toNatClampNeg)) →
      ∀ v6_3 : Int32, v6_3 = a6 + (1 : Int32) →
      ∃ k < n, I k a4 a5 v6_3 σ2)
theorem t_findReach_189 {C : rCx} (hC : cOK C) {Q : rS → Prop} {B154 : Int32 → rS → Prop} {B166 : Int32 → Int32 → rS → Prop} (hB154 : ∀ a4' τ, B154 a4' τ → wG C 1 m_findReach 154 [some (.ref (co C)), none, none, none, some (.int a4'), none, none] [] τ (qV Q)) (hB166 : ∀ a4' a5' τ, B166 a4' a5' τ → wG C 1 m_findReach 166 [some (.ref (co C)), none, none, none, some (.int a4'), some (.int a5'), none] [] τ (qV Q)) {a4 : Int32} {a5 : Int32} {a6 : Int32} {σ : rS} (F : w_findReach_189 C Q B154 B166 a4 a5 a6 σ) : wG C 1 m_findReach 189 [some (.ref (co C)), none, none, none, some (.int a4), some (.int a5), some (.int a6)] [] σ (qV Q) := by
  obtain ⟨I, ⟨n0, hI0⟩, F0⟩ := F
  have key : ∀ n a4 a5 a6 σ, I n a4 a5 a6 σ → wG C 1 m_findReach 189 [some (.ref (co C)), none, none, none, some (.int a4), some (.int a5), some (.int a6)] [] σ (qV Q) := by
    intro n
    induction n using Nat.strongRecOn with
    | _ n ih =>
      intro a4 a5 a6 σ hI
      have F := F0 n a4 a5 a6 σ hI
      clear hI hI0
      refine s_il dX13_findReach_189 rfl ?_
      refine s_bi dX13_findReach_191 kb_16 ?_
      refine s_ii (t := 231) ((16 : Int32) ≤ a6) dX13_findReach_193 rfl rfl (fun hc => ?_) (fun hc => ?_)
      · replace F := F.1 hc
        refine s_incb dX13_findReach_231 ki_1 rfl (Nat.le_of_ble_eq_true rfl) (fun v5_1 ev5_1 => ?_)
        replace F := F v5_1 ev5_1
        refine s_goto (t := 166) dX13_findReach_234 rfl ?_
        exact s_k (hB166 _ _ _ F) ⟨rfl, rfl, rfl, trivial⟩
      · replace F := F.2 hc
        refine s_aln dX13_findReach_196 rfl ?_
        refine gf_178 dX13_findReach_197 rfl ?_
        refine s_bi dX13_findReach_200 kb_16 ?_
        refine s_il dX13_findReach_202 rfl ?_
        refine s_imul dX13_findReach_204 ?_
        refine s_il dX13_findReach_205 rfl ?_
        refine s_iadd dX13_findReach_207 ?_
        refine s_dup2 dX13_findReach_208 rfl rfl ?_
        refine s_lld hC dX13_findReach_209 rt_86 F.1 ?_
        replace F := F.2
        refine s_aln dX13_findReach_210 rfl ?_
        refine gf_178 dX13_findReach_211 rfl ?_
        refine s_bi dX13_findReach_214 kb_16 ?_
        refine s_il dX13_findReach_216 rfl ?_
        refine s_imul dX13_findReach_218 ?_
        refine s_il dX13_findReach_219 rfl ?_
        refine s_iadd dX13_findReach_221 ?_
        refine s_lld hC dX13_findReach_222 rt_86 F.1 ?_
        replace F := F.2
        refine s_lor dX13_findReach_223 ?_
        refine s_lstb hC dX13_findReach_224 rt_86 F.1 (fun σ2 eσ2 => ?_)
        replace F := F.2 σ2 eσ2
        refine s_incb dX13_findReach_225 ki_1 rfl (Nat.le_of_ble_eq_true rfl) (fun v6_3 ev6_3 => ?_)
        replace F := F v6_3 ev6_3
        refine s_goto (t := 189) dX13_findReach_228 rfl ?_
        obtain ⟨k, hk, hI⟩ := F
        exact s_k (ih k hk _ _ _ _ hI) ⟨rfl, rfl, rfl, rfl, trivial⟩
  exact key n0 a4 a5 a6 σ hI0

def w_findReach_166 (C : rCx) (Q : rS → Prop) (B154 : Int32 → rS → Prop) (a4 : Int32) (a5 : Int32) (σ : rS) : Prop :=
  ∃ I : Nat → Int32 → Int32 → rS → Prop, (∃ n, I n a4 a5 σ) ∧ ∀ n a4 a5 σ, I n a4 a5 σ →
    ((σ.1 70) ≤ a5 →
      ∀ v4_1 : Int32, v4_1 = a4 + (1 : Int32) →
      B154 v4_1 σ) ∧
    (¬ ((σ.1 70) ≤ a5) →
      cI C 0 m_leads [.ref (co C), .int a5, .int a4] σ (fun r3 σ2 =>
        (r3 = 0 →
          ∀ v5_4 : Int32, v5_4 = a5 + (1 : Int32) →
          ∃ k < n, I k a4 v5_4 σ2) ∧
        (¬ (r3 = 0) →
          w_findReach_189 C Q B154 (fun a4' a5' τ => ∃ k < n, I k a4' a5' τ) a4 a5 (0 : Int32) σ2)))
theorem t_findReach_166 {C : rCx} (hC : cOK C) {Q : rS → Prop} {B154 : Int32 → rS → Prop} (hB154 : ∀ a4' τ, B154 a4' τ → wG C 1 m_findReach 154 [some (.ref (co C)), none, none, none, some (.int a4'), none, none] [] τ (qV Q)) {a4 : Int32} {a5 : Int32} {σ : rS} (F : w_findReach_166 C Q B154 a4 a5 σ) : wG C 1 m_findReach 166 [some (.ref (co C)), none, none, none, some (.int a4), some (.int a5), none] [] σ (qV Q) := by
  obtain ⟨I, ⟨n0, hI0⟩, F0⟩ := F
  have key : ∀ n a4 a5 σ, I n a4 a5 σ → wG C 1 m_findReach 166 [some (.ref (co C)), none, none, none, some (.int a4), some (.int a5), none] [] σ (qV Q) := by
    intro n
    induction n using Nat.strongRecOn with
    | _ n ih =>
      intro a4 a5 σ hI
      have F := F0 n a4 a5 σ hI
      clear hI hI0
      refine s_il dX13_findReach_166 rfl ?_
      refine s_aln dX13_findReach_168 rfl ?_
      refine gf_542 dX13_findReach_169 rfl ?_
      refine s_ii (t := 237) ((σ.1 70) ≤ a5) dX13_findReach_172 rfl rfl (fun hc => ?_) (fun hc => ?_)
      · replace F := F.1 hc
        refine s_incb dX13_findReach_237 ki_1 rfl (Nat.le_of_ble_eq_true rfl) (fun v4_1 ev4_1 => ?_)
        replace F := F v4_1 ev4_1
        refine s_goto (t := 154) dX13_findReach_240 rfl ?_
        exact s_k (hB154 _ _ F) ⟨rfl, rfl, trivial⟩
      · replace F := F.2 hc
        refine s_aln dX13_findReach_175 rfl ?_
        refine s_il dX13_findReach_176 rfl ?_
        refine s_il dX13_findReach_178 rfl ?_
        refine k_644 dX13_findReach_180 rfl (Nat.le_of_ble_eq_true rfl) (Nat.le_of_ble_eq_true rfl) F (fun r3 σ2 F => ?_)
        refine s_i (t := 231) (r3 = 0) dX13_findReach_183 rfl rfl (fun hc => ?_) (fun hc => ?_)
        · replace F := F.1 hc
          refine s_incb dX13_findReach_231 ki_1 rfl (Nat.le_of_ble_eq_true rfl) (fun v5_4 ev5_4 => ?_)
          replace F := F v5_4 ev5_4
          refine s_goto (t := 166) dX13_findReach_234 rfl ?_
          obtain ⟨k, hk, hI⟩ := F
          exact s_k (ih k hk _ _ _ hI) ⟨rfl, rfl, rfl, trivial⟩
        · replace F := F.2 hc
          refine s_ic dX13_findReach_186 ki_0 ?_
          refine s_is dX13_findReach_187 (Nat.le_of_ble_eq_true rfl) rfl ?_
          exact s_k (t_findReach_189 hC hB154 (fun a4' a5' τ hb => by obtain ⟨k, hk, hI⟩ := hb; exact ih k hk a4' a5' τ hI) F) ⟨rfl, rfl, rfl, rfl, trivial⟩
  exact key n0 a4 a5 σ hI0

def w_findReach_154 (C : rCx) (Q : rS → Prop)  (a4 : Int32) (σ : rS) : Prop :=
  ∃ I : Nat → Int32 → rS → Prop, (∃ n, I n a4 σ) ∧ ∀ n a4 σ, I n a4 σ →
    ((σ.1 70) ≤ a4 →
      Q σ) ∧
    (¬ ((σ.1 70) ≤ a4) →
      w_findReach_166 C Q (fun a4' τ => ∃ k < n, I k a4' τ) a4 (0 : Int32) σ)
theorem t_findReach_154 {C : rCx} (hC : cOK C) {Q : rS → Prop}   {a4 : Int32} {σ : rS} (F : w_findReach_154 C Q  a4 σ) : wG C 1 m_findReach 154 [some (.ref (co C)), none, none, none, some (.int a4), none, none] [] σ (qV Q) := by
  obtain ⟨I, ⟨n0, hI0⟩, F0⟩ := F
  have key : ∀ n a4 σ, I n a4 σ → wG C 1 m_findReach 154 [some (.ref (co C)), none, none, none, some (.int a4), none, none] [] σ (qV Q) := by
    intro n
    induction n using Nat.strongRecOn with
    | _ n ih =>
      intro a4 σ hI
      have F := F0 n a4 σ hI
      clear hI hI0
      refine s_il dX13_findReach_154 rfl ?_
      refine s_aln dX13_findReach_156 rfl ?_
      refine gf_542 dX13_findReach_157 rfl ?_
      refine s_ii (t := 243) ((σ.1 70) ≤ a4) dX13_findReach_160 rfl rfl (fun hc => ?_) (fun hc => ?_)
      · replace F := F.1 hc
        exact s_rv dX13_findReach_243 rfl F
      · replace F := F.2 hc
        refine s_ic dX13_findReach_163 ki_0 ?_
        refine s_is dX13_findReach_164 (Nat.le_of_ble_eq_true rfl) rfl ?_
        exact s_k (t_findReach_166 hC (fun a4' τ hb => by obtain ⟨k, hk, hI⟩ := hb; exact ih k hk a4' τ hI) F) ⟨rfl, rfl, rfl, trivial⟩
  exact key n0 a4 σ hI0

def w_findReach_32 (C : rCx) (Q : rS → Prop)  (a1 : Int32) (a2 : Nat) (a3 : Int32) (a4 : Int32) (σ : rS) : Prop :=
  ∃ I : Nat → Int32 → Nat → Int32 → Int32 → rS → Prop, (∃ n, I n a1 a2 a3 a4 σ) ∧ ∀ n a1 a2 a3 a4 σ, I n a1 a2 a3 a4 σ →
    ((σ.1 70) ≤ a4 →
      w_findReach_154 C Q  (0 : Int32) σ) ∧
    (¬ ((σ.1 70) ≤ a4) →
      inb a4 1001 ∧
      ∀ v5_1 : Int32, v5_1 = (σ.2.2.1 76 (a4).toNatClampNeg) →
      w_findReach_50 C Q (fun a1' a2' a3' a4' τ => ∃ k < n, I k a1' a2' a3' a4' τ) a1 a2 a3 a4 v5_1 σ)
theorem t_findReach_32 {C : rCx} (hC : cOK C) {Q : rS → Prop}   {a1 : Int32} {a2 : Nat} {a3 : Int32} {a4 : Int32} {σ : rS} (F : w_findReach_32 C Q  a1 a2 a3 a4 σ) : wG C 1 m_findReach 32 [some (.ref (co C)), some (.int a1), some (.ref (cad C a2)), some (.int a3), some (.int a4), none, none] [] σ (qV Q) := by
  obtain ⟨I, ⟨n0, hI0⟩, F0⟩ := F
  have key : ∀ n a1 a2 a3 a4 σ, I n a1 a2 a3 a4 σ → wG C 1 m_findReach 32 [some (.ref (co C)), some (.int a1), some (.ref (cad C a2)), some (.int a3), some (.int a4), none, none] [] σ (qV Q) := by
    intro n
    induction n using Nat.strongRecOn with
    | _ n ih =>
      intro a1 a2 a3 a4 σ hI
      have F := F0 n a1 a2 a3 a4 σ hI
      clear hI hI0
      refine s_il dX13_findReach_32 rfl ?_
      refine s_aln dX13_findReach_34 rfl ?_
      refine gf_542 dX13_findReach_35 rfl ?_
      refine s_ii (t := 151) ((σ.1 70) ≤ a4) dX13_findReach_38 rfl rfl (fun hc => ?_) (fun hc => ?_)
      · replace F := F.1 hc
        refine s_ic dX13_findReach_151 ki_0 ?_
        refine s_is dX13_findReach_152 (Nat.le_of_ble_eq_true rfl) rfl ?_
        exact s_k (t_findReach_154 hC  F) ⟨rfl, rfl, trivial⟩
      · replace F := F.2 hc
        refine s_aln dX13_findReach_41 rfl ?_
        refine gf_151 dX13_findReach_42 rfl ?_
        refine s_il dX13_findReach_45 rfl ?_
        refine s_ald hC dX13_findReach_47 rt_76 F.1 ?_
        replace F := F.2
        refine s_isb dX13_findReach_48 (Nat.le_of_ble_eq_true rfl) (fun v5_1 ev5_1 => ?_)
        replace F := F v5_1 ev5_1
        exact s_k (t_findReach_50 hC (fun a1' a2' a3' a4' τ hb => by obtain ⟨k, hk, hI⟩ := hb; exact ih k hk a1' a2' a3' a4' τ hI) F) ⟨rfl, rfl, rfl, rfl, rfl, rfl, trivial⟩
  exact key n0 a1 a2 a3 a4 σ hI0

def w_findReach_3 (C : rCx) (Q : rS → Prop)  (a1 : Int32) (a2 : Nat) (a3 : Int32) (a4 : Int32) (σ : rS) : Prop :=
  ∃ I : Nat → Int32 → Nat → Int32 → Int32 → rS → Prop, (∃ n, I n a1 a2 a3 a4 σ) ∧ ∀ n a1 a2 a3 a4 σ, I n a1 a2 a3 a4 σ →
    (((16 : Int32) * (σ.1 70)) ≤ a4 →
      w_findReach_32 C Q  a1 a2 a3 (0 : Int32) σ) ∧
    (¬ (((16 : Int32) * (σ.1 70)) ≤ a4) →
      inb a4 16000 ∧
      ∀ σ1, σ1 = rlU σ 86 (a4).toNatClampNeg (0 : Int64) →
      ∀ v4_2 : Int32, v4_2 = a4 + (1 : Int32) →
      ∃ k < n, I k a1 a2 a3 v4_2 σ1)
theorem t_findReach_3 {C : rCx} (hC : cOK C) {Q : rS → Prop}   {a1 : Int32} {a2 : Nat} {a3 : Int32} {a4 : Int32} {σ : rS} (F : w_findReach_3 C Q  a1 a2 a3 a4 σ) : wG C 1 m_findReach 3 [some (.ref (co C)), some (.int a1), some (.ref (cad C a2)), some (.int a3), some (.int a4), none, none] [] σ (qV Q) := by
  obtain ⟨I, ⟨n0, hI0⟩, F0⟩ := F
  have key : ∀ n a1 a2 a3 a4 σ, I n a1 a2 a3 a4 σ → wG C 1 m_findReach 3 [some (.ref (co C)), some (.int a1), some (.ref (cad C a2)), some (.int a3), some (.int a4), none, none] [] σ (qV Q) := by
    intro n
    induction n using Nat.strongRecOn with
    | _ n ih =>
      intro a1 a2 a3 a4 σ hI
      have F := F0 n a1 a2 a3 a4 σ hI
      clear hI hI0
      refine s_il dX13_findReach_3 rfl ?_
      refine s_bi dX13_findReach_5 kb_16 ?_
      refine s_aln dX13_findReach_7 rfl ?_
      refine gf_542 dX13_findReach_8 rfl ?_
      refine s_imul dX13_findReach_11 ?_
      refine s_ii (t := 29) (((16 : Int32) * (σ.1 70)) ≤ a4) dX13_findReach_12 rfl rfl (fun hc => ?_) (fun hc => ?_)
      · replace F := F.1 hc
        refine s_ic dX13_findReach_29 ki_0 ?_
        refine s_is dX13_findReach_30 (Nat.le_of_ble_eq_true rfl) rfl ?_
        exact s_k (t_findReach_32 hC  F) ⟨rfl, rfl, rfl, rfl, rfl, trivial⟩
      · replace F := F.2 hc
        refine s_aln dX13_findReach_15 rfl ?_
        refine gf_178 dX13_findReach_16 rfl ?_
        refine s_il dX13_findReach_19 rfl ?_
        refine s_lc dX13_findReach_21 kl_0 ?_
        refine s_lstb hC dX13_findReach_22 rt_86 F.1 (fun σ1 eσ1 => ?_)
        replace F := F.2 σ1 eσ1
        refine s_incb dX13_findReach_23 ki_1 rfl (Nat.le_of_ble_eq_true rfl) (fun v4_2 ev4_2 => ?_)
        replace F := F v4_2 ev4_2
        refine s_goto (t := 3) dX13_findReach_26 rfl ?_
        obtain ⟨k, hk, hI⟩ := F
        exact s_k (ih k hk _ _ _ _ _ hI) ⟨rfl, rfl, rfl, rfl, rfl, trivial⟩
  exact key n0 a1 a2 a3 a4 σ hI0

def w_findReach_0 (C : rCx) (Q : rS → Prop)  (a1 : Int32) (a2 : Nat) (a3 : Int32) (σ : rS) : Prop :=
  w_findReach_3 C Q  a1 a2 a3 (0 : Int32) σ
theorem t_findReach_0 {C : rCx} (hC : cOK C) {Q : rS → Prop}   {a1 : Int32} {a2 : Nat} {a3 : Int32} {σ : rS} (F : w_findReach_0 C Q  a1 a2 a3 σ) : wG C 1 m_findReach 0 [some (.ref (co C)), some (.int a1), some (.ref (cad C a2)), some (.int a3), none, none, none] [] σ (qV Q) := by
  unfold w_findReach_0 at F
  refine s_ic dX13_findReach_0 ki_0 ?_
  refine s_is dX13_findReach_1 (Nat.le_of_ble_eq_true rfl) rfl ?_
  exact s_k (t_findReach_3 hC  F) ⟨rfl, rfl, rfl, rfl, rfl, trivial⟩

theorem m_findReach_run {C : rCx} (hC : cOK C) {Q : rS → Prop} {a1 : Int32} {a2 : Nat} {a3 : Int32} {σ : rS} (F : w_findReach_0 C Q a1 a2 a3 σ) : cV C 1 m_findReach [.ref (co C), .int a1, .ref (cad C a2), .int a3] σ Q := m_V (m_ent _ 3) (t_findReach_0 hC F)

