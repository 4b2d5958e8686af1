/-! methods of the reference: swing, swingAll, calledBy, countArguments, lookAtCalls -/
theorem dX13_swing_0 : decode cX13_swing 0 = .ok (.iconst 0, 1) := by decide +kernel
theorem dX13_swing_1 : decode cX13_swing 1 = .ok (.istore 4, 2) := by decide +kernel
theorem dX13_swing_3 : decode cX13_swing 3 = .ok (.iload 4, 2) := by decide +kernel
theorem dX13_swing_5 : decode cX13_swing 5 = .ok (.iload_n 2, 1) := by decide +kernel
theorem dX13_swing_6 : decode cX13_swing 6 = .ok (.if_icmp .ge 52, 3) := by decide +kernel
theorem dX13_swing_9 : decode cX13_swing 9 = .ok (.iload_n 3, 1) := by decide +kernel
theorem dX13_swing_10 : decode cX13_swing 10 = .ok (.ifCond .eq 19, 3) := by decide +kernel
theorem dX13_swing_13 : decode cX13_swing 13 = .ok (.aload_n 1, 1) := by decide +kernel
theorem dX13_swing_14 : decode cX13_swing 14 = .ok (.iload 4, 2) := by decide +kernel
theorem dX13_swing_16 : decode cX13_swing 16 = .ok (.aload_n 0, 1) := by decide +kernel
theorem dX13_swing_17 : decode cX13_swing 17 = .ok (.getfield 116, 3) := by decide +kernel
theorem dX13_swing_20 : decode cX13_swing 20 = .ok (.aload_n 0, 1) := by decide +kernel
theorem dX13_swing_21 : decode cX13_swing 21 = .ok (.getfield 484, 3) := by decide +kernel
theorem dX13_swing_24 : decode cX13_swing 24 = .ok (.iaload, 1) := by decide +kernel
theorem dX13_swing_25 : decode cX13_swing 25 = .ok (.iastore, 1) := by decide +kernel
theorem dX13_swing_26 : decode cX13_swing 26 = .ok (.goto 16, 3) := by decide +kernel
theorem dX13_swing_29 : decode cX13_swing 29 = .ok (.aload_n 0, 1) := by decide +kernel
theorem dX13_swing_30 : decode cX13_swing 30 = .ok (.getfield 116, 3) := by decide +kernel
theorem dX13_swing_33 : decode cX13_swing 33 = .ok (.aload_n 0, 1) := by decide +kernel
theorem dX13_swing_34 : decode cX13_swing 34 = .ok (.getfield 484, 3) := by decide +kernel
theorem dX13_swing_37 : decode cX13_swing 37 = .ok (.aload_n 1, 1) := by decide +kernel
theorem dX13_swing_38 : decode cX13_swing 38 = .ok (.iload 4, 2) := by decide +kernel
theorem dX13_swing_40 : decode cX13_swing 40 = .ok (.iaload, 1) := by decide +kernel
theorem dX13_swing_41 : decode cX13_swing 41 = .ok (.iastore, 1) := by decide +kernel
theorem dX13_swing_42 : decode cX13_swing 42 = .ok (.aload_n 0, 1) := by decide +kernel
theorem dX13_swing_43 : decode cX13_swing 43 = .ok (.dup, 1) := by decide +kernel
theorem dX13_swing_44 : decode cX13_swing 44 = .ok (.getfield 484, 3) := by decide +kernel
theorem dX13_swing_47 : decode cX13_swing 47 = .ok (.iconst 1, 1) := by decide +kernel
theorem dX13_swing_48 : decode cX13_swing 48 = .ok (.iadd, 1) := by decide +kernel
theorem dX13_swing_49 : decode cX13_swing 49 = .ok (.putfield 484, 3) := by decide +kernel
theorem dX13_swing_52 : decode cX13_swing 52 = .ok (.iinc 4 1, 3) := by decide +kernel
theorem dX13_swing_55 : decode cX13_swing 55 = .ok (.goto (-52), 3) := by decide +kernel
theorem dX13_swing_58 : decode cX13_swing 58 = .ok (.return_, 1) := by decide +kernel
def w_swing_42 (C : rCx) (Q : rS → Prop) (B3 : Nat → Int32 → Int32 → Int32 → rS → Prop) (a1 : Nat) (a2 : Int32) (a3 : Int32) (a4 : Int32) (σ : rS) : Prop :=
  ∀ σ1, σ1 = siU σ 55 ((σ.1 55) + (1 : Int32)) →
  ∀ v4_2 : Int32, v4_2 = a4 + (1 : Int32) →
  B3 a1 a2 a3 v4_2 σ1
theorem t_swing_42 {C : rCx} (hC : cOK C) {Q : rS → Prop} {B3 : Nat → Int32 → Int32 → Int32 → rS → Prop} (hB3 : ∀ a1' a2' a3' a4' τ, B3 a1' a2' a3' a4' τ → wG C 0 m_swing 3 [some (.ref (co C)), some (.ref (cad C a1')), some (.int a2'), some (.int a3'), some (.int a4')] [] τ (qV Q)) {a1 : Nat} {a2 : Int32} {a3 : Int32} {a4 : Int32} {σ : rS} (F : w_swing_42 C Q B3 a1 a2 a3 a4 σ) : wG C 0 m_swing 42 [some (.ref (co C)), some (.ref (cad C a1)), some (.int a2), some (.int a3), some (.int a4)] [] σ (qV Q) := by
  unfold w_swing_42 at F
  refine s_aln dX13_swing_42 rfl ?_
  refine s_dup dX13_swing_43 rfl ?_
  refine gf_484 dX13_swing_44 rfl ?_
  refine s_ic dX13_swing_47 ki_1 ?_
  refine s_iadd dX13_swing_48 ?_
  refine pf_484 hC dX13_swing_49 rfl (fun σ1 eσ1 => ?_)
  replace F := F σ1 eσ1
  refine s_incb dX13_swing_52 ki_1 rfl (Nat.le_of_ble_eq_true rfl) (fun v4_2 ev4_2 => ?_)
  replace F := F v4_2 ev4_2
  refine s_goto (t := 3) dX13_swing_55 rfl ?_
  exact s_k (hB3 _ _ _ _ _ F) ⟨rfl, rfl, rfl, rfl, rfl, trivial⟩

def w_swing_3 (C : rCx) (Q : rS → Prop)  (a1 : Nat) (a2 : Int32) (a3 : Int32) (a4 : Int32) (σ : rS) : Prop :=
  ∃ I : Nat → Nat → Int32 → Int32 → Int32 → rS → Prop, (∃ n, I n a1 a2 a3 a4 σ) ∧ ∀ n a1 a2 a3 a4 σ, I n a1 a2 a3 a4 σ →
    (a2 ≤ a4 →
      Q σ) ∧
    (¬ (a2 ≤ a4) →
      (a3 = 0 →
        ∃ l1, rT a1 = some (0, l1) ∧ inb a4 l1 ∧
        inb (σ.1 55) 2048 ∧
        ∀ σ2, σ2 = riU σ 54 ((σ.1 55)).toNatClampNeg (σ.2.2.1 a1 (a4).toNatClampNeg) →
        w_swing_42 C Q (fun a1' a2' a3' a4' τ => ∃ k < n, I k a1' a2' a3' a4' τ) a1 a2 a3 a4 σ2) ∧
      (¬ (a3 = 0) →
        inb (σ.1 55) 2048 ∧
        ∃ l4, rT a1 = some (0, l4) ∧ inb a4 l4 ∧
        ∀ σ3, σ3 = riU σ a1 (a4).toNatClampNeg (σ.2.2.1 54 ((σ.1 55)).toNatClampNeg) →
        w_swing_42 C Q (fun a1' a2' a3' a4' τ => ∃ k < n, I k a1' a2' a3' a4' τ) a1 a2 a3 a4 σ3))
theorem t_swing_3 {C : rCx} (hC : cOK C) {Q : rS → Prop}   {a1 : Nat} {a2 : Int32} {a3 : Int32} {a4 : Int32} {σ : rS} (F : w_swing_3 C Q  a1 a2 a3 a4 σ) : wG C 0 m_swing 3 [some (.ref (co C)), some (.ref (cad C a1)), some (.int a2), some (.int a3), some (.int a4)] [] σ (qV Q) := by
  obtain ⟨I, ⟨n0, hI0⟩, F0⟩ := F
  have key : ∀ n a1 a2 a3 a4 σ, I n a1 a2 a3 a4 σ → wG C 0 m_swing 3 [some (.ref (co C)), some (.ref (cad C a1)), some (.int a2), some (.int a3), some (.int a4)] [] σ (qV Q) := by
    intro n
    induction n using Nat.strongRecOn with
    | _ n ih =>
      intro a1 a2 a3 a4 σ hI
      have F := F0 n a1 a2 a3 a4 σ hI
      clear hI hI0
      refine s_il dX13_swing_3 rfl ?_
      refine s_iln dX13_swing_5 rfl ?_
      refine s_ii (t := 58) (a2 ≤ a4) dX13_swing_6 rfl rfl (fun hc => ?_) (fun hc => ?_)
      · replace F := F.1 hc
        exact s_rv dX13_swing_58 rfl F
      · replace F := F.2 hc
        refine s_iln dX13_swing_9 rfl ?_
        refine s_i (t := 29) (a3 = 0) dX13_swing_10 rfl rfl (fun hc => ?_) (fun hc => ?_)
        · replace F := F.1 hc
          refine s_aln dX13_swing_29 rfl ?_
          refine gf_116 dX13_swing_30 rfl ?_
          refine s_aln dX13_swing_33 rfl ?_
          refine gf_484 dX13_swing_34 rfl ?_
          refine s_aln dX13_swing_37 rfl ?_
          refine s_il dX13_swing_38 rfl ?_
          obtain ⟨l1, hTl1, hinl1, F⟩ := F
          refine s_ald hC dX13_swing_40 hTl1 hinl1 ?_
          refine s_astb hC dX13_swing_41 rt_54 F.1 (fun σ2 eσ2 => ?_)
          replace F := F.2 σ2 eσ2
          exact s_k (t_swing_42 hC (fun a1' a2' a3' a4' τ hb => by obtain ⟨k, hk, hI⟩ := hb; exact ih k hk a1' a2' a3' a4' τ hI) F) ⟨rfl, rfl, rfl, rfl, rfl, trivial⟩
        · replace F := F.2 hc
          refine s_aln dX13_swing_13 rfl ?_
          refine s_il dX13_swing_14 rfl ?_
          refine s_aln dX13_swing_16 rfl ?_
          refine gf_116 dX13_swing_17 rfl ?_
          refine s_aln dX13_swing_20 rfl ?_
          refine gf_484 dX13_swing_21 rfl ?_
          refine s_ald hC dX13_swing_24 rt_54 F.1 ?_
          replace F := F.2
          obtain ⟨l4, hTl4, hinl4, F⟩ := F
          refine s_astb hC dX13_swing_25 hTl4 hinl4 (fun σ3 eσ3 => ?_)
          replace F := F σ3 eσ3
          refine s_goto (t := 42) dX13_swing_26 rfl ?_
          exact s_k (t_swing_42 hC (fun a1' a2' a3' a4' τ hb => by obtain ⟨k, hk, hI⟩ := hb; exact ih k hk a1' a2' a3' a4' τ hI) F) ⟨rfl, rfl, rfl, rfl, rfl, trivial⟩
  exact key n0 a1 a2 a3 a4 σ hI0

def w_swing_0 (C : rCx) (Q : rS → Prop)  (a1 : Nat) (a2 : Int32) (a3 : Int32) (σ : rS) : Prop :=
  w_swing_3 C Q  a1 a2 a3 (0 : Int32) σ
theorem t_swing_0 {C : rCx} (hC : cOK C) {Q : rS → Prop}   {a1 : Nat} {a2 : Int32} {a3 : Int32} {σ : rS} (F : w_swing_0 C Q  a1 a2 a3 σ) : wG C 0 m_swing 0 [some (.ref (co C)), some (.ref (cad C a1)), some (.int a2), some (.int a3), none] [] σ (qV Q) := by
  unfold w_swing_0 at F
  refine s_ic dX13_swing_0 ki_0 ?_
  refine s_is dX13_swing_1 (Nat.le_of_ble_eq_true rfl) rfl ?_
  exact s_k (t_swing_3 hC  F) ⟨rfl, rfl, rfl, rfl, rfl, trivial⟩

theorem m_swing_run {C : rCx} (hC : cOK C) {Q : rS → Prop} {a1 : Nat} {a2 : Int32} {a3 : Int32} {σ : rS} (F : w_swing_0 C Q a1 a2 a3 σ) : cV C 0 m_swing [.ref (co C), .ref (cad C a1), .int a2, .int a3] σ Q := m_V (m_ent _ 1) (t_swing_0 hC F)

theorem dX13_swingAll_0 : decode cX13_swingAll 0 = .ok (.aload_n 0, 1) := by decide +kernel
theorem dX13_swingAll_1 : decode cX13_swingAll 1 = .ok (.iconst 0, 1) := by decide +kernel
theorem dX13_swingAll_2 : decode cX13_swingAll 2 = .ok (.putfield 484, 3) := by decide +kernel
theorem dX13_swingAll_5 : decode cX13_swingAll 5 = .ok (.iload_n 1, 1) := by decide +kernel
theorem dX13_swingAll_6 : decode cX13_swingAll 6 = .ok (.ifCond .ne 74, 3) := by decide +kernel
theorem dX13_swingAll_9 : decode cX13_swingAll 9 = .ok (.aload_n 0, 1) := by decide +kernel
theorem dX13_swingAll_10 : decode cX13_swingAll 10 = .ok (.getfield 119, 3) := by decide +kernel
theorem dX13_swingAll_13 : decode cX13_swingAll 13 = .ok (.iconst 0, 1) := by decide +kernel
theorem dX13_swingAll_14 : decode cX13_swingAll 14 = .ok (.aload_n 0, 1) := by decide +kernel
theorem dX13_swingAll_15 : decode cX13_swingAll 15 = .ok (.getfield 333, 3) := by decide +kernel
theorem dX13_swingAll_18 : decode cX13_swingAll 18 = .ok (.iastore, 1) := by decide +kernel
theorem dX13_swingAll_19 : decode cX13_swingAll 19 = .ok (.aload_n 0, 1) := by decide +kernel
theorem dX13_swingAll_20 : decode cX13_swingAll 20 = .ok (.getfield 119, 3) := by decide +kernel
theorem dX13_swingAll_23 : decode cX13_swingAll 23 = .ok (.iconst 1, 1) := by decide +kernel
theorem dX13_swingAll_24 : decode cX13_swingAll 24 = .ok (.aload_n 0, 1) := by decide +kernel
theorem dX13_swingAll_25 : decode cX13_swingAll 25 = .ok (.getfield 340, 3) := by decide +kernel
theorem dX13_swingAll_28 : decode cX13_swingAll 28 = .ok (.iastore, 1) := by decide +kernel
theorem dX13_swingAll_29 : decode cX13_swingAll 29 = .ok (.aload_n 0, 1) := by decide +kernel
theorem dX13_swingAll_30 : decode cX13_swingAll 30 = .ok (.getfield 119, 3) := by decide +kernel
theorem dX13_swingAll_33 : decode cX13_swingAll 33 = .ok (.iconst 2, 1) := by decide +kernel
theorem dX13_swingAll_34 : decode cX13_swingAll 34 = .ok (.aload_n 0, 1) := by decide +kernel
theorem dX13_swingAll_35 : decode cX13_swingAll 35 = .ok (.getfield 369, 3) := by decide +kernel
theorem dX13_swingAll_38 : decode cX13_swingAll 38 = .ok (.iastore, 1) := by decide +kernel
theorem dX13_swingAll_39 : decode cX13_swingAll 39 = .ok (.aload_n 0, 1) := by decide +kernel
theorem dX13_swingAll_40 : decode cX13_swingAll 40 = .ok (.getfield 119, 3) := by decide +kernel
theorem dX13_swingAll_43 : decode cX13_swingAll 43 = .ok (.iconst 3, 1) := by decide +kernel
theorem dX13_swingAll_44 : decode cX13_swingAll 44 = .ok (.aload_n 0, 1) := by decide +kernel
theorem dX13_swingAll_45 : decode cX13_swingAll 45 = .ok (.getfield 343, 3) := by decide +kernel
theorem dX13_swingAll_48 : decode cX13_swingAll 48 = .ok (.iastore, 1) := by decide +kernel
theorem dX13_swingAll_49 : decode cX13_swingAll 49 = .ok (.aload_n 0, 1) := by decide +kernel
theorem dX13_swingAll_50 : decode cX13_swingAll 50 = .ok (.getfield 119, 3) := by decide +kernel
theorem dX13_swingAll_53 : decode cX13_swingAll 53 = .ok (.iconst 4, 1) := by decide +kernel
theorem dX13_swingAll_54 : decode cX13_swingAll 54 = .ok (.aload_n 0, 1) := by decide +kernel
theorem dX13_swingAll_55 : decode cX13_swingAll 55 = .ok (.getfield 378, 3) := by decide +kernel
theorem dX13_swingAll_58 : decode cX13_swingAll 58 = .ok (.iastore, 1) := by decide +kernel
theorem dX13_swingAll_59 : decode cX13_swingAll 59 = .ok (.aload_n 0, 1) := by decide +kernel
theorem dX13_swingAll_60 : decode cX13_swingAll 60 = .ok (.getfield 119, 3) := by decide +kernel
theorem dX13_swingAll_63 : decode cX13_swingAll 63 = .ok (.iconst 5, 1) := by decide +kernel
theorem dX13_swingAll_64 : decode cX13_swingAll 64 = .ok (.aload_n 0, 1) := by decide +kernel
theorem dX13_swingAll_65 : decode cX13_swingAll 65 = .ok (.getfield 487, 3) := by decide +kernel
theorem dX13_swingAll_68 : decode cX13_swingAll 68 = .ok (.iastore, 1) := by decide +kernel
theorem dX13_swingAll_69 : decode cX13_swingAll 69 = .ok (.aload_n 0, 1) := by decide +kernel
theorem dX13_swingAll_70 : decode cX13_swingAll 70 = .ok (.getfield 119, 3) := by decide +kernel
theorem dX13_swingAll_73 : decode cX13_swingAll 73 = .ok (.bipush 6, 2) := by decide +kernel
theorem dX13_swingAll_75 : decode cX13_swingAll 75 = .ok (.aload_n 0, 1) := by decide +kernel
theorem dX13_swingAll_76 : decode cX13_swingAll 76 = .ok (.getfield 281, 3) := by decide +kernel
theorem dX13_swingAll_79 : decode cX13_swingAll 79 = .ok (.iastore, 1) := by decide +kernel
theorem dX13_swingAll_80 : decode cX13_swingAll 80 = .ok (.aload_n 0, 1) := by decide +kernel
theorem dX13_swingAll_81 : decode cX13_swingAll 81 = .ok (.aload_n 0, 1) := by decide +kernel
theorem dX13_swingAll_82 : decode cX13_swingAll 82 = .ok (.getfield 119, 3) := by decide +kernel
theorem dX13_swingAll_85 : decode cX13_swingAll 85 = .ok (.bipush 8, 2) := by decide +kernel
theorem dX13_swingAll_87 : decode cX13_swingAll 87 = .ok (.iload_n 1, 1) := by decide +kernel
theorem dX13_swingAll_88 : decode cX13_swingAll 88 = .ok (.invokevirtual 490, 3) := by decide +kernel
theorem dX13_swingAll_91 : decode cX13_swingAll 91 = .ok (.aload_n 0, 1) := by decide +kernel
theorem dX13_swingAll_92 : decode cX13_swingAll 92 = .ok (.aload_n 0, 1) := by decide +kernel
theorem dX13_swingAll_93 : decode cX13_swingAll 93 = .ok (.getfield 36, 3) := by decide +kernel
theorem dX13_swingAll_96 : decode cX13_swingAll 96 = .ok (.bipush 10, 2) := by decide +kernel
theorem dX13_swingAll_98 : decode cX13_swingAll 98 = .ok (.iload_n 1, 1) := by decide +kernel
theorem dX13_swingAll_99 : decode cX13_swingAll 99 = .ok (.invokevirtual 490, 3) := by decide +kernel
theorem dX13_swingAll_102 : decode cX13_swingAll 102 = .ok (.aload_n 0, 1) := by decide +kernel
theorem dX13_swingAll_103 : decode cX13_swingAll 103 = .ok (.aload_n 0, 1) := by decide +kernel
theorem dX13_swingAll_104 : decode cX13_swingAll 104 = .ok (.getfield 39, 3) := by decide +kernel
theorem dX13_swingAll_107 : decode cX13_swingAll 107 = .ok (.bipush 10, 2) := by decide +kernel
theorem dX13_swingAll_109 : decode cX13_swingAll 109 = .ok (.iload_n 1, 1) := by decide +kernel
theorem dX13_swingAll_110 : decode cX13_swingAll 110 = .ok (.invokevirtual 490, 3) := by decide +kernel
theorem dX13_swingAll_113 : decode cX13_swingAll 113 = .ok (.aload_n 0, 1) := by decide +kernel
theorem dX13_swingAll_114 : decode cX13_swingAll 114 = .ok (.aload_n 0, 1) := by decide +kernel
theorem dX13_swingAll_115 : decode cX13_swingAll 115 = .ok (.getfield 42, 3) := by decide +kernel
theorem dX13_swingAll_118 : decode cX13_swingAll 118 = .ok (.iconst 3, 1) := by decide +kernel
theorem dX13_swingAll_119 : decode cX13_swingAll 119 = .ok (.iload_n 1, 1) := by decide +kernel
theorem dX13_swingAll_120 : decode cX13_swingAll 120 = .ok (.invokevirtual 490, 3) := by decide +kernel
theorem dX13_swingAll_123 : decode cX13_swingAll 123 = .ok (.aload_n 0, 1) := by decide +kernel
theorem dX13_swingAll_124 : decode cX13_swingAll 124 = .ok (.aload_n 0, 1) := by decide +kernel
theorem dX13_swingAll_125 : decode cX13_swingAll 125 = .ok (.getfield 45, 3) := by decide +kernel
theorem dX13_swingAll_128 : decode cX13_swingAll 128 = .ok (.iconst 3, 1) := by decide +kernel
theorem dX13_swingAll_129 : decode cX13_swingAll 129 = .ok (.iload_n 1, 1) := by decide +kernel
theorem dX13_swingAll_130 : decode cX13_swingAll 130 = .ok (.invokevirtual 490, 3) := by decide +kernel
theorem dX13_swingAll_133 : decode cX13_swingAll 133 = .ok (.aload_n 0, 1) := by decide +kernel
theorem dX13_swingAll_134 : decode cX13_swingAll 134 = .ok (.aload_n 0, 1) := by decide +kernel
theorem dX13_swingAll_135 : decode cX13_swingAll 135 = .ok (.getfield 48, 3) := by decide +kernel
theorem dX13_swingAll_138 : decode cX13_swingAll 138 = .ok (.iconst 3, 1) := by decide +kernel
theorem dX13_swingAll_139 : decode cX13_swingAll 139 = .ok (.iload_n 1, 1) := by decide +kernel
theorem dX13_swingAll_140 : decode cX13_swingAll 140 = .ok (.invokevirtual 490, 3) := by decide +kernel
theorem dX13_swingAll_143 : decode cX13_swingAll 143 = .ok (.aload_n 0, 1) := by decide +kernel
theorem dX13_swingAll_144 : decode cX13_swingAll 144 = .ok (.aload_n 0, 1) := by decide +kernel
theorem dX13_swingAll_145 : decode cX13_swingAll 145 = .ok (.getfield 51, 3) := by decide +kernel
theorem dX13_swingAll_148 : decode cX13_swingAll 148 = .ok (.bipush 10, 2) := by decide +kernel
theorem dX13_swingAll_150 : decode cX13_swingAll 150 = .ok (.iload_n 1, 1) := by decide +kernel
theorem dX13_swingAll_151 : decode cX13_swingAll 151 = .ok (.invokevirtual 490, 3) := by decide +kernel
theorem dX13_swingAll_154 : decode cX13_swingAll 154 = .ok (.aload_n 0, 1) := by decide +kernel
theorem dX13_swingAll_155 : decode cX13_swingAll 155 = .ok (.aload_n 0, 1) := by decide +kernel
theorem dX13_swingAll_156 : decode cX13_swingAll 156 = .ok (.getfield 54, 3) := by decide +kernel
theorem dX13_swingAll_159 : decode cX13_swingAll 159 = .ok (.bipush 10, 2) := by decide +kernel
theorem dX13_swingAll_161 : decode cX13_swingAll 161 = .ok (.iload_n 1, 1) := by decide +kernel
theorem dX13_swingAll_162 : decode cX13_swingAll 162 = .ok (.invokevirtual 490, 3) := by decide +kernel
theorem dX13_swingAll_165 : decode cX13_swingAll 165 = .ok (.aload_n 0, 1) := by decide +kernel
theorem dX13_swingAll_166 : decode cX13_swingAll 166 = .ok (.aload_n 0, 1) := by decide +kernel
theorem dX13_swingAll_167 : decode cX13_swingAll 167 = .ok (.getfield 57, 3) := by decide +kernel
theorem dX13_swingAll_170 : decode cX13_swingAll 170 = .ok (.bipush 10, 2) := by decide +kernel
theorem dX13_swingAll_172 : decode cX13_swingAll 172 = .ok (.iload_n 1, 1) := by decide +kernel
theorem dX13_swingAll_173 : decode cX13_swingAll 173 = .ok (.invokevirtual 490, 3) := by decide +kernel
theorem dX13_swingAll_176 : decode cX13_swingAll 176 = .ok (.aload_n 0, 1) := by decide +kernel
theorem dX13_swingAll_177 : decode cX13_swingAll 177 = .ok (.aload_n 0, 1) := by decide +kernel
theorem dX13_swingAll_178 : decode cX13_swingAll 178 = .ok (.getfield 60, 3) := by decide +kernel
theorem dX13_swingAll_181 : decode cX13_swingAll 181 = .ok (.bipush 80, 2) := by decide +kernel
theorem dX13_swingAll_183 : decode cX13_swingAll 183 = .ok (.iload_n 1, 1) := by decide +kernel
theorem dX13_swingAll_184 : decode cX13_swingAll 184 = .ok (.invokevirtual 490, 3) := by decide +kernel
theorem dX13_swingAll_187 : decode cX13_swingAll 187 = .ok (.aload_n 0, 1) := by decide +kernel
theorem dX13_swingAll_188 : decode cX13_swingAll 188 = .ok (.aload_n 0, 1) := by decide +kernel
theorem dX13_swingAll_189 : decode cX13_swingAll 189 = .ok (.getfield 63, 3) := by decide +kernel
theorem dX13_swingAll_192 : decode cX13_swingAll 192 = .ok (.bipush 10, 2) := by decide +kernel
theorem dX13_swingAll_194 : decode cX13_swingAll 194 = .ok (.iload_n 1, 1) := by decide +kernel
theorem dX13_swingAll_195 : decode cX13_swingAll 195 = .ok (.invokevirtual 490, 3) := by decide +kernel
theorem dX13_swingAll_198 : decode cX13_swingAll 198 = .ok (.aload_n 0, 1) := by decide +kernel
theorem dX13_swingAll_199 : decode cX13_swingAll 199 = .ok (.aload_n 0, 1) := by decide +kernel
theorem dX13_swingAll_200 : decode cX13_swingAll 200 = .ok (.getfield 66, 3) := by decide +kernel
theorem dX13_swingAll_203 : decode cX13_swingAll 203 = .ok (.sipush 150, 3) := by decide +kernel
theorem dX13_swingAll_206 : decode cX13_swingAll 206 = .ok (.iload_n 1, 1) := by decide +kernel
theorem dX13_swingAll_207 : decode cX13_swingAll 207 = .ok (.invokevirtual 490, 3) := by decide +kernel
theorem dX13_swingAll_210 : decode cX13_swingAll 210 = .ok (.aload_n 0, 1) := by decide +kernel
theorem dX13_swingAll_211 : decode cX13_swingAll 211 = .ok (.aload_n 0, 1) := by decide +kernel
theorem dX13_swingAll_212 : decode cX13_swingAll 212 = .ok (.getfield 69, 3) := by decide +kernel
theorem dX13_swingAll_215 : decode cX13_swingAll 215 = .ok (.sipush 150, 3) := by decide +kernel
theorem dX13_swingAll_218 : decode cX13_swingAll 218 = .ok (.iload_n 1, 1) := by decide +kernel
theorem dX13_swingAll_219 : decode cX13_swingAll 219 = .ok (.invokevirtual 490, 3) := by decide +kernel
theorem dX13_swingAll_222 : decode cX13_swingAll 222 = .ok (.aload_n 0, 1) := by decide +kernel
theorem dX13_swingAll_223 : decode cX13_swingAll 223 = .ok (.aload_n 0, 1) := by decide +kernel
theorem dX13_swingAll_224 : decode cX13_swingAll 224 = .ok (.getfield 72, 3) := by decide +kernel
theorem dX13_swingAll_227 : decode cX13_swingAll 227 = .ok (.sipush 150, 3) := by decide +kernel
theorem dX13_swingAll_230 : decode cX13_swingAll 230 = .ok (.iload_n 1, 1) := by decide +kernel
theorem dX13_swingAll_231 : decode cX13_swingAll 231 = .ok (.invokevirtual 490, 3) := by decide +kernel
theorem dX13_swingAll_234 : decode cX13_swingAll 234 = .ok (.aload_n 0, 1) := by decide +kernel
theorem dX13_swingAll_235 : decode cX13_swingAll 235 = .ok (.aload_n 0, 1) := by decide +kernel
theorem dX13_swingAll_236 : decode cX13_swingAll 236 = .ok (.getfield 75, 3) := by decide +kernel
theorem dX13_swingAll_239 : decode cX13_swingAll 239 = .ok (.sipush 150, 3) := by decide +kernel
theorem dX13_swingAll_242 : decode cX13_swingAll 242 = .ok (.iload_n 1, 1) := by decide +kernel
theorem dX13_swingAll_243 : decode cX13_swingAll 243 = .ok (.invokevirtual 490, 3) := by decide +kernel
theorem dX13_swingAll_246 : decode cX13_swingAll 246 = .ok (.aload_n 0, 1) := by decide +kernel
theorem dX13_swingAll_247 : decode cX13_swingAll 247 = .ok (.aload_n 0, 1) := by decide +kernel
theorem dX13_swingAll_248 : decode cX13_swingAll 248 = .ok (.getfield 78, 3) := by decide +kernel
theorem dX13_swingAll_251 : decode cX13_swingAll 251 = .ok (.sipush 150, 3) := by decide +kernel
theorem dX13_swingAll_254 : decode cX13_swingAll 254 = .ok (.iload_n 1, 1) := by decide +kernel
theorem dX13_swingAll_255 : decode cX13_swingAll 255 = .ok (.invokevirtual 490, 3) := by decide +kernel
theorem dX13_swingAll_258 : decode cX13_swingAll 258 = .ok (.aload_n 0, 1) := by decide +kernel
theorem dX13_swingAll_259 : decode cX13_swingAll 259 = .ok (.aload_n 0, 1) := by decide +kernel
theorem dX13_swingAll_260 : decode cX13_swingAll 260 = .ok (.getfield 81, 3) := by decide +kernel
theorem dX13_swingAll_263 : decode cX13_swingAll 263 = .ok (.sipush 150, 3) := by decide +kernel
theorem dX13_swingAll_266 : decode cX13_swingAll 266 = .ok (.iload_n 1, 1) := by decide +kernel
theorem dX13_swingAll_267 : decode cX13_swingAll 267 = .ok (.invokevirtual 490, 3) := by decide +kernel
theorem dX13_swingAll_270 : decode cX13_swingAll 270 = .ok (.aload_n 0, 1) := by decide +kernel
theorem dX13_swingAll_271 : decode cX13_swingAll 271 = .ok (.aload_n 0, 1) := by decide +kernel
theorem dX13_swingAll_272 : decode cX13_swingAll 272 = .ok (.getfield 84, 3) := by decide +kernel
theorem dX13_swingAll_275 : decode cX13_swingAll 275 = .ok (.sipush 150, 3) := by decide +kernel
theorem dX13_swingAll_278 : decode cX13_swingAll 278 = .ok (.iload_n 1, 1) := by decide +kernel
theorem dX13_swingAll_279 : decode cX13_swingAll 279 = .ok (.invokevirtual 490, 3) := by decide +kernel
theorem dX13_swingAll_282 : decode cX13_swingAll 282 = .ok (.aload_n 0, 1) := by decide +kernel
theorem dX13_swingAll_283 : decode cX13_swingAll 283 = .ok (.aload_n 0, 1) := by decide +kernel
theorem dX13_swingAll_284 : decode cX13_swingAll 284 = .ok (.getfield 87, 3) := by decide +kernel
theorem dX13_swingAll_287 : decode cX13_swingAll 287 = .ok (.sipush 150, 3) := by decide +kernel
theorem dX13_swingAll_290 : decode cX13_swingAll 290 = .ok (.iload_n 1, 1) := by decide +kernel
theorem dX13_swingAll_291 : decode cX13_swingAll 291 = .ok (.invokevirtual 490, 3) := by decide +kernel
theorem dX13_swingAll_294 : decode cX13_swingAll 294 = .ok (.aload_n 0, 1) := by decide +kernel
theorem dX13_swingAll_295 : decode cX13_swingAll 295 = .ok (.aload_n 0, 1) := by decide +kernel
theorem dX13_swingAll_296 : decode cX13_swingAll 296 = .ok (.getfield 90, 3) := by decide +kernel
theorem dX13_swingAll_299 : decode cX13_swingAll 299 = .ok (.sipush 150, 3) := by decide +kernel
theorem dX13_swingAll_302 : decode cX13_swingAll 302 = .ok (.iload_n 1, 1) := by decide +kernel
theorem dX13_swingAll_303 : decode cX13_swingAll 303 = .ok (.invokevirtual 490, 3) := by decide +kernel
theorem dX13_swingAll_306 : decode cX13_swingAll 306 = .ok (.iload_n 1, 1) := by decide +kernel
theorem dX13_swingAll_307 : decode cX13_swingAll 307 = .ok (.ifCond .eq 74, 3) := by decide +kernel
theorem dX13_swingAll_310 : decode cX13_swingAll 310 = .ok (.aload_n 0, 1) := by decide +kernel
theorem dX13_swingAll_311 : decode cX13_swingAll 311 = .ok (.aload_n 0, 1) := by decide +kernel
theorem dX13_swingAll_312 : decode cX13_swingAll 312 = .ok (.getfield 119, 3) := by decide +kernel
theorem dX13_swingAll_315 : decode cX13_swingAll 315 = .ok (.iconst 0, 1) := by decide +kernel
theorem dX13_swingAll_316 : decode cX13_swingAll 316 = .ok (.iaload, 1) := by decide +kernel
theorem dX13_swingAll_317 : decode cX13_swingAll 317 = .ok (.putfield 333, 3) := by decide +kernel
theorem dX13_swingAll_320 : decode cX13_swingAll 320 = .ok (.aload_n 0, 1) := by decide +kernel
theorem dX13_swingAll_321 : decode cX13_swingAll 321 = .ok (.aload_n 0, 1) := by decide +kernel
theorem dX13_swingAll_322 : decode cX13_swingAll 322 = .ok (.getfield 119, 3) := by decide +kernel
theorem dX13_swingAll_325 : decode cX13_swingAll 325 = .ok (.iconst 1, 1) := by decide +kernel
theorem dX13_swingAll_326 : decode cX13_swingAll 326 = .ok (.iaload, 1) := by decide +kernel
theorem dX13_swingAll_327 : decode cX13_swingAll 327 = .ok (.putfield 340, 3) := by decide +kernel
theorem dX13_swingAll_330 : decode cX13_swingAll 330 = .ok (.aload_n 0, 1) := by decide +kernel
theorem dX13_swingAll_331 : decode cX13_swingAll 331 = .ok (.aload_n 0, 1) := by decide +kernel
theorem dX13_swingAll_332 : decode cX13_swingAll 332 = .ok (.getfield 119, 3) := by decide +kernel
theorem dX13_swingAll_335 : decode cX13_swingAll 335 = .ok (.iconst 2, 1) := by decide +kernel
theorem dX13_swingAll_336 : decode cX13_swingAll 336 = .ok (.iaload, 1) := by decide +kernel
theorem dX13_swingAll_337 : decode cX13_swingAll 337 = .ok (.putfield 369, 3) := by decide +kernel
theorem dX13_swingAll_340 : decode cX13_swingAll 340 = .ok (.aload_n 0, 1) := by decide +kernel
theorem dX13_swingAll_341 : decode cX13_swingAll 341 = .ok (.aload_n 0, 1) := by decide +kernel
theorem dX13_swingAll_342 : decode cX13_swingAll 342 = .ok (.getfield 119, 3) := by decide +kernel
theorem dX13_swingAll_345 : decode cX13_swingAll 345 = .ok (.iconst 3, 1) := by decide +kernel
theorem dX13_swingAll_346 : decode cX13_swingAll 346 = .ok (.iaload, 1) := by decide +kernel
theorem dX13_swingAll_347 : decode cX13_swingAll 347 = .ok (.putfield 343, 3) := by decide +kernel
theorem dX13_swingAll_350 : decode cX13_swingAll 350 = .ok (.aload_n 0, 1) := by decide +kernel
theorem dX13_swingAll_351 : decode cX13_swingAll 351 = .ok (.aload_n 0, 1) := by decide +kernel
theorem dX13_swingAll_352 : decode cX13_swingAll 352 = .ok (.getfield 119, 3) := by decide +kernel
theorem dX13_swingAll_355 : decode cX13_swingAll 355 = .ok (.iconst 4, 1) := by decide +kernel
theorem dX13_swingAll_356 : decode cX13_swingAll 356 = .ok (.iaload, 1) := by decide +kernel
theorem dX13_swingAll_357 : decode cX13_swingAll 357 = .ok (.putfield 378, 3) := by decide +kernel
theorem dX13_swingAll_360 : decode cX13_swingAll 360 = .ok (.aload_n 0, 1) := by decide +kernel
theorem dX13_swingAll_361 : decode cX13_swingAll 361 = .ok (.aload_n 0, 1) := by decide +kernel
theorem dX13_swingAll_362 : decode cX13_swingAll 362 = .ok (.getfield 119, 3) := by decide +kernel
theorem dX13_swingAll_365 : decode cX13_swingAll 365 = .ok (.iconst 5, 1) := by decide +kernel
theorem dX13_swingAll_366 : decode cX13_swingAll 366 = .ok (.iaload, 1) := by decide +kernel
theorem dX13_swingAll_367 : decode cX13_swingAll 367 = .ok (.putfield 487, 3) := by decide +kernel
theorem dX13_swingAll_370 : decode cX13_swingAll 370 = .ok (.aload_n 0, 1) := by decide +kernel
theorem dX13_swingAll_371 : decode cX13_swingAll 371 = .ok (.aload_n 0, 1) := by decide +kernel
theorem dX13_swingAll_372 : decode cX13_swingAll 372 = .ok (.getfield 119, 3) := by decide +kernel
theorem dX13_swingAll_375 : decode cX13_swingAll 375 = .ok (.bipush 6, 2) := by decide +kernel
theorem dX13_swingAll_377 : decode cX13_swingAll 377 = .ok (.iaload, 1) := by decide +kernel
theorem dX13_swingAll_378 : decode cX13_swingAll 378 = .ok (.putfield 281, 3) := by decide +kernel
theorem dX13_swingAll_381 : decode cX13_swingAll 381 = .ok (.return_, 1) := by decide +kernel
def w_swingAll_80 (C : rCx) (Q : rS → Prop)  (a1 : Int32) (σ : rS) : Prop :=
  cV C 0 m_swing [.ref (co C), .ref (cad C 56), .int (8 : Int32), .int a1] σ (fun σ1 =>
    cV C 0 m_swing [.ref (co C), .ref (cad C 20), .int (10 : Int32), .int a1] σ1 (fun σ3 =>
      cV C 0 m_swing [.ref (co C), .ref (cad C 21), .int (10 : Int32), .int a1] σ3 (fun σ5 =>
        cV C 0 m_swing [.ref (co C), .ref (cad C 22), .int (3 : Int32), .int a1] σ5 (fun σ7 =>
          cV C 0 m_swing [.ref (co C), .ref (cad C 23), .int (3 : Int32), .int a1] σ7 (fun σ9 =>
            cV C 0 m_swing [.ref (co C), .ref (cad C 24), .int (3 : Int32), .int a1] σ9 (fun σ11 =>
              cV C 0 m_swing [.ref (co C), .ref (cad C 25), .int (10 : Int32), .int a1] σ11 (fun σ13 =>
                cV C 0 m_swing [.ref (co C), .ref (cad C 26), .int (10 : Int32), .int a1] σ13 (fun σ15 =>
                  cV C 0 m_swing [.ref (co C), .ref (cad C 27), .int (10 : Int32), .int a1] σ15 (fun σ17 =>
                    cV C 0 m_swing [.ref (co C), .ref (cad C 28), .int (80 : Int32), .int a1] σ17 (fun σ19 =>
                      cV C 0 m_swing [.ref (co C), .ref (cad C 29), .int (10 : Int32), .int a1] σ19 (fun σ21 =>
                        cV C 0 m_swing [.ref (co C), .ref (cad C 30), .int (150 : Int32), .int a1] σ21 (fun σ23 =>
                          cV C 0 m_swing [.ref (co C), .ref (cad C 31), .int (150 : Int32), .int a1] σ23 (fun σ25 =>
                            cV C 0 m_swing [.ref (co C), .ref (cad C 32), .int (150 : Int32), .int a1] σ25 (fun σ27 =>
                              cV C 0 m_swing [.ref (co C), .ref (cad C 33), .int (150 : Int32), .int a1] σ27 (fun σ29 =>
                                cV C 0 m_swing [.ref (co C), .ref (cad C 34), .int (150 : Int32), .int a1] σ29 (fun σ31 =>
                                  cV C 0 m_swing [.ref (co C), .ref (cad C 35), .int (150 : Int32), .int a1] σ31 (fun σ33 =>
                                    cV C 0 m_swing [.ref (co C), .ref (cad C 36), .int (150 : Int32), .int a1] σ33 (fun σ35 =>
                                      cV C 0 m_swing [.ref (co C), .ref (cad C 37), .int (150 : Int32), .int a1] σ35 (fun σ37 =>
                                        cV C 0 m_swing [.ref (co C), .ref (cad C 38), .int (150 : Int32), .int a1] σ37 (fun σ39 =>
                                          (a1 = 0 →
                                            Q σ39) ∧
                                          (¬ (a1 = 0) →
                                            inb (0 : Int32) 8 ∧
                                            ∀ σ41, σ41 = siU σ39 15 (σ39.2.2.1 56 ((0 : Int32)).toNatClampNeg) →
                                            inb (1 : Int32) 8 ∧
                                            ∀ σ42, σ42 = siU σ41 16 (σ41.2.2.1 56 ((1 : Int32)).toNatClampNeg) →
                                            inb (2 : Int32) 8 ∧
                                            ∀ σ43, σ43 = siU σ42 17 (σ42.2.2.1 56 ((2 : Int32)).toNatClampNeg) →
                                            inb (3 : Int32) 8 ∧
                                            ∀ σ44, σ44 = siU σ43 18 (σ43.2.2.1 56 ((3 : Int32)).toNatClampNeg) →
                                            inb (4 : Int32) 8 ∧
                                            ∀ σ45, σ45 = siU σ44 19 (σ44.2.2.1 56 ((4 : Int32)).toNatClampNeg) →
                                            inb (5 : Int32) 8 ∧
                                            ∀ σ46, σ46 = siU σ45 40 (σ45.2.2.1 56 ((5 : Int32)).toNatClampNeg) →
                                            inb (6 : Int32) 8 ∧
                                            ∀ σ47, σ47 = siU σ46 3 (σ46.2.2.1 56 ((6 : Int32)).toNatClampNeg) →
                                            Q σ47)))))))))))))))))))))
theorem t_swingAll_80 {C : rCx} (hC : cOK C) {Q : rS → Prop}   {a1 : Int32} {σ : rS} (F : w_swingAll_80 C Q  a1 σ) : wG C 1 m_swingAll 80 [some (.ref (co C)), some (.int a1)] [] σ (qV Q) := by
  unfold w_swingAll_80 at F
  refine s_aln dX13_swingAll_80 rfl ?_
  refine s_aln dX13_swingAll_81 rfl ?_
  refine gf_119 dX13_swingAll_82 rfl ?_
  refine s_bi dX13_swingAll_85 kb_8 ?_
  refine s_iln dX13_swingAll_87 rfl ?_
  refine k_490 dX13_swingAll_88 rfl (Nat.le_of_ble_eq_true rfl) (Nat.le_of_ble_eq_true rfl) F (fun σ1 F => ?_)
  refine s_aln dX13_swingAll_91 rfl ?_
  refine s_aln dX13_swingAll_92 rfl ?_
  refine gf_36 dX13_swingAll_93 rfl ?_
  refine s_bi dX13_swingAll_96 kb_10 ?_
  refine s_iln dX13_swingAll_98 rfl ?_
  refine k_490 dX13_swingAll_99 rfl (Nat.le_of_ble_eq_true rfl) (Nat.le_of_ble_eq_true rfl) F (fun σ3 F => ?_)
  refine s_aln dX13_swingAll_102 rfl ?_
  refine s_aln dX13_swingAll_103 rfl ?_
  refine gf_39 dX13_swingAll_104 rfl ?_
  refine s_bi dX13_swingAll_107 kb_10 ?_
  refine s_iln dX13_swingAll_109 rfl ?_
  refine k_490 dX13_swingAll_110 rfl (Nat.le_of_ble_eq_true rfl) (Nat.le_of_ble_eq_true rfl) F (fun σ5 F => ?_)
  refine s_aln dX13_swingAll_113 rfl ?_
  refine s_aln dX13_swingAll_114 rfl ?_
  refine gf_42 dX13_swingAll_115 rfl ?_
  refine s_ic dX13_swingAll_118 ki_3 ?_
  refine s_iln dX13_swingAll_119 rfl ?_
  refine k_490 dX13_swingAll_120 rfl (Nat.le_of_ble_eq_true rfl) (Nat.le_of_ble_eq_true rfl) F (fun σ7 F => ?_)
  refine s_aln dX13_swingAll_123 rfl ?_
  refine s_aln dX13_swingAll_124 rfl ?_
  refine gf_45 dX13_swingAll_125 rfl ?_
  refine s_ic dX13_swingAll_128 ki_3 ?_
  refine s_iln dX13_swingAll_129 rfl ?_
  refine k_490 dX13_swingAll_130 rfl (Nat.le_of_ble_eq_true rfl) (Nat.le_of_ble_eq_true rfl) F (fun σ9 F => ?_)
  refine s_aln dX13_swingAll_133 rfl ?_
  refine s_aln dX13_swingAll_134 rfl ?_
  refine gf_48 dX13_swingAll_135 rfl ?_
  refine s_ic dX13_swingAll_138 ki_3 ?_
  refine s_iln dX13_swingAll_139 rfl ?_
  refine k_490 dX13_swingAll_140 rfl (Nat.le_of_ble_eq_true rfl) (Nat.le_of_ble_eq_true rfl) F (fun σ11 F => ?_)
  refine s_aln dX13_swingAll_143 rfl ?_
  refine s_aln dX13_swingAll_144 rfl ?_
  refine gf_51 dX13_swingAll_145 rfl ?_
  refine s_bi dX13_swingAll_148 kb_10 ?_
  refine s_iln dX13_swingAll_150 rfl ?_
  refine k_490 dX13_swingAll_151 rfl (Nat.le_of_ble_eq_true rfl) (Nat.le_of_ble_eq_true rfl) F (fun σ13 F => ?_)
  refine s_aln dX13_swingAll_154 rfl ?_
  refine s_aln dX13_swingAll_155 rfl ?_
  refine gf_54 dX13_swingAll_156 rfl ?_
  refine s_bi dX13_swingAll_159 kb_10 ?_
  refine s_iln dX13_swingAll_161 rfl ?_
  refine k_490 dX13_swingAll_162 rfl (Nat.le_of_ble_eq_true rfl) (Nat.le_of_ble_eq_true rfl) F (fun σ15 F => ?_)
  refine s_aln dX13_swingAll_165 rfl ?_
  refine s_aln dX13_swingAll_166 rfl ?_
  refine gf_57 dX13_swingAll_167 rfl ?_
  refine s_bi dX13_swingAll_170 kb_10 ?_
  refine s_iln dX13_swingAll_172 rfl ?_
  refine k_490 dX13_swingAll_173 rfl (Nat.le_of_ble_eq_true rfl) (Nat.le_of_ble_eq_true rfl) F (fun σ17 F => ?_)
  refine s_aln dX13_swingAll_176 rfl ?_
  refine s_aln dX13_swingAll_177 rfl ?_
  refine gf_60 dX13_swingAll_178 rfl ?_
  refine s_bi dX13_swingAll_181 kb_80 ?_
  refine s_iln dX13_swingAll_183 rfl ?_
  refine k_490 dX13_swingAll_184 rfl (Nat.le_of_ble_eq_true rfl) (Nat.le_of_ble_eq_true rfl) F (fun σ19 F => ?_)
  refine s_aln dX13_swingAll_187 rfl ?_
  refine s_aln dX13_swingAll_188 rfl ?_
  refine gf_63 dX13_swingAll_189 rfl ?_
  refine s_bi dX13_swingAll_192 kb_10 ?_
  refine s_iln dX13_swingAll_194 rfl ?_
  refine k_490 dX13_swingAll_195 rfl (Nat.le_of_ble_eq_true rfl) (Nat.le_of_ble_eq_true rfl) F (fun σ21 F => ?_)
  refine s_aln dX13_swingAll_198 rfl ?_
  refine s_aln dX13_swingAll_199 rfl ?_
  refine gf_66 dX13_swingAll_200 rfl ?_
  refine s_si dX13_swingAll_203 ks_150 ?_
  refine s_iln dX13_swingAll_206 rfl ?_
  refine k_490 dX13_swingAll_207 rfl (Nat.le_of_ble_eq_true rfl) (Nat.le_of_ble_eq_true rfl) F (fun σ23 F => ?_)
  refine s_aln dX13_swingAll_210 rfl ?_
  refine s_aln dX13_swingAll_211 rfl ?_
  refine gf_69 dX13_swingAll_212 rfl ?_
  refine s_si dX13_swingAll_215 ks_150 ?_
  refine s_iln dX13_swingAll_218 rfl ?_
  refine k_490 dX13_swingAll_219 rfl (Nat.le_of_ble_eq_true rfl) (Nat.le_of_ble_eq_true rfl) F (fun σ25 F => ?_)
  refine s_aln dX13_swingAll_222 rfl ?_
  refine s_aln dX13_swingAll_223 rfl ?_
  refine gf_72 dX13_swingAll_224 rfl ?_
  refine s_si dX13_swingAll_227 ks_150 ?_
  refine s_iln dX13_swingAll_230 rfl ?_
  refine k_490 dX13_swingAll_231 rfl (Nat.le_of_ble_eq_true rfl) (Nat.le_of_ble_eq_true rfl) F (fun σ27 F => ?_)
  refine s_aln dX13_swingAll_234 rfl ?_
  refine s_aln dX13_swingAll_235 rfl ?_
  refine gf_75 dX13_swingAll_236 rfl ?_
  refine s_si dX13_swingAll_239 ks_150 ?_
  refine s_iln dX13_swingAll_242 rfl ?_
  refine k_490 dX13_swingAll_243 rfl (Nat.le_of_ble_eq_true rfl) (Nat.le_of_ble_eq_true rfl) F (fun σ29 F => ?_)
  refine s_aln dX13_swingAll_246 rfl ?_
  refine s_aln dX13_swingAll_247 rfl ?_
  refine gf_78 dX13_swingAll_248 rfl ?_
  refine s_si dX13_swingAll_251 ks_150 ?_
  refine s_iln dX13_swingAll_254 rfl ?_
  refine k_490 dX13_swingAll_255 rfl (Nat.le_of_ble_eq_true rfl) (Nat.le_of_ble_eq_true rfl) F (fun σ31 F => ?_)
  refine s_aln dX13_swingAll_258 rfl ?_
  refine s_aln dX13_swingAll_259 rfl ?_
  refine gf_81 dX13_swingAll_260 rfl ?_
  refine s_si dX13_swingAll_263 ks_150 ?_
  refine s_iln dX13_swingAll_266 rfl ?_
  refine k_490 dX13_swingAll_267 rfl (Nat.le_of_ble_eq_true rfl) (Nat.le_of_ble_eq_true rfl) F (fun σ33 F => ?_)
  refine s_aln dX13_swingAll_270 rfl ?_
  refine s_aln dX13_swingAll_271 rfl ?_
  refine gf_84 dX13_swingAll_272 rfl ?_
  refine s_si dX13_swingAll_275 ks_150 ?_
  refine s_iln dX13_swingAll_278 rfl ?_
  refine k_490 dX13_swingAll_279 rfl (Nat.le_of_ble_eq_true rfl) (Nat.le_of_ble_eq_true rfl) F (fun σ35 F => ?_)
  refine s_aln dX13_swingAll_282 rfl ?_
  refine s_aln dX13_swingAll_283 rfl ?_
  refine gf_87 dX13_swingAll_284 rfl ?_
  refine s_si dX13_swingAll_287 ks_150 ?_
  refine s_iln dX13_swingAll_290 rfl ?_
  refine k_490 dX13_swingAll_291 rfl (Nat.le_of_ble_eq_true rfl) (Nat.le_of_ble_eq_true rfl) F (fun σ37 F => ?_)
  refine s_aln dX13_swingAll_294 rfl ?_
  refine s_aln dX13_swingAll_295 rfl ?_
  refine gf_90 dX13_swingAll_296 rfl ?_
  refine s_si dX13_swingAll_299 ks_150 ?_
  refine s_iln dX13_swingAll_302 rfl ?_
  refine k_490 dX13_swingAll_303 rfl (Nat.le_of_ble_eq_true rfl) (Nat.le_of_ble_eq_true rfl) F (fun σ39 F => ?_)
  refine s_iln dX13_swingAll_306 rfl ?_
  refine s_i (t := 381) (a1 = 0) dX13_swingAll_307 rfl rfl (fun hc => ?_) (fun hc => ?_)
  · replace F := F.1 hc
    exact s_rv dX13_swingAll_381 rfl F
  · replace F := F.2 hc
    refine s_aln dX13_swingAll_310 rfl ?_
    refine s_aln dX13_swingAll_311 rfl ?_
    refine gf_119 dX13_swingAll_312 rfl ?_
    refine s_ic dX13_swingAll_315 ki_0 ?_
    refine s_ald hC dX13_swingAll_316 rt_56 F.1 ?_
    replace F := F.2
    refine pf_333 hC dX13_swingAll_317 rfl (fun σ41 eσ41 => ?_)
    replace F := F σ41 eσ41
    refine s_aln dX13_swingAll_320 rfl ?_
    refine s_aln dX13_swingAll_321 rfl ?_
    refine gf_119 dX13_swingAll_322 rfl ?_
    refine s_ic dX13_swingAll_325 ki_1 ?_
    refine s_ald hC dX13_swingAll_326 rt_56 F.1 ?_
    replace F := F.2
    refine pf_340 hC dX13_swingAll_327 rfl (fun σ42 eσ42 => ?_)
    replace F := F σ42 eσ42
    refine s_aln dX13_swingAll_330 rfl ?_
    refine s_aln dX13_swingAll_331 rfl ?_
    refine gf_119 dX13_swingAll_332 rfl ?_
    refine s_ic dX13_swingAll_335 ki_2 ?_
    refine s_ald hC dX13_swingAll_336 rt_56 F.1 ?_
    replace F := F.2
    refine pf_369 hC dX13_swingAll_337 rfl (fun σ43 eσ43 => ?_)
    replace F := F σ43 eσ43
    refine s_aln dX13_swingAll_340 rfl ?_
    refine s_aln dX13_swingAll_341 rfl ?_
    refine gf_119 dX13_swingAll_342 rfl ?_
    refine s_ic dX13_swingAll_345 ki_3 ?_
    refine s_ald hC dX13_swingAll_346 rt_56 F.1 ?_
    replace F := F.2
    refine pf_343 hC dX13_swingAll_347 rfl (fun σ44 eσ44 => ?_)
    replace F := F σ44 eσ44
    refine s_aln dX13_swingAll_350 rfl ?_
    refine s_aln dX13_swingAll_351 rfl ?_
    refine gf_119 dX13_swingAll_352 rfl ?_
    refine s_ic dX13_swingAll_355 ki_4 ?_
    refine s_ald hC dX13_swingAll_356 rt_56 F.1 ?_
    replace F := F.2
    refine pf_378 hC dX13_swingAll_357 rfl (fun σ45 eσ45 => ?_)
    replace F := F σ45 eσ45
    refine s_aln dX13_swingAll_360 rfl ?_
    refine s_aln dX13_swingAll_361 rfl ?_
    refine gf_119 dX13_swingAll_362 rfl ?_
    refine s_ic dX13_swingAll_365 ki_5 ?_
    refine s_ald hC dX13_swingAll_366 rt_56 F.1 ?_
    replace F := F.2
    refine pf_487 hC dX13_swingAll_367 rfl (fun σ46 eσ46 => ?_)
    replace F := F σ46 eσ46
    refine s_aln dX13_swingAll_370 rfl ?_
    refine s_aln dX13_swingAll_371 rfl ?_
    refine gf_119 dX13_swingAll_372 rfl ?_
    refine s_bi dX13_swingAll_375 kb_6 ?_
    refine s_ald hC dX13_swingAll_377 rt_56 F.1 ?_
    replace F := F.2
    refine pf_281 hC dX13_swingAll_378 rfl (fun σ47 eσ47 => ?_)
    replace F := F σ47 eσ47
    exact s_rv dX13_swingAll_381 rfl F

def w_swingAll_0 (C : rCx) (Q : rS → Prop)  (a1 : Int32) (σ : rS) : Prop :=
  ∀ σ1, σ1 = siU σ 55 (0 : Int32) →
  (¬ (a1 = 0) →
    w_swingAll_80 C Q  a1 σ1) ∧
  (a1 = 0 →
    inb (0 : Int32) 8 ∧
    ∀ σ2, σ2 = riU σ1 56 ((0 : Int32)).toNatClampNeg (σ1.1 15) →
    inb (1 : Int32) 8 ∧
    ∀ σ3, σ3 = riU σ2 56 ((1 : Int32)).toNatClampNeg (σ2.1 16) →
    inb (2 : Int32) 8 ∧
    ∀ σ4, σ4 = riU σ3 56 ((2 : Int32)).toNatClampNeg (σ3.1 17) →
    inb (3 : Int32) 8 ∧
    ∀ σ5, σ5 = riU σ4 56 ((3 : Int32)).toNatClampNeg (σ4.1 18) →
    inb (4 : Int32) 8 ∧
    ∀ σ6, σ6 = riU σ5 56 ((4 : Int32)).toNatClampNeg (σ5.1 19) →
    inb (5 : Int32) 8 ∧
    ∀ σ7, σ7 = riU σ6 56 ((5 : Int32)).toNatClampNeg (σ6.1 40) →
    inb (6 : Int32) 8 ∧
    ∀ σ8, σ8 = riU σ7 56 ((6 : Int32)).toNatClampNeg (σ7.1 3) →
    w_swingAll_80 C Q  a1 σ8)
theorem t_swingAll_0 {C : rCx} (hC : cOK C) {Q : rS → Prop}   {a1 : Int32} {σ : rS} (F : w_swingAll_0 C Q  a1 σ) : wG C 1 m_swingAll 0 [some (.ref (co C)), some (.int a1)] [] σ (qV Q) := by
  unfold w_swingAll_0 at F
  refine s_aln dX13_swingAll_0 rfl ?_
  refine s_ic dX13_swingAll_1 ki_0 ?_
  refine pf_484 hC dX13_swingAll_2 rfl (fun σ1 eσ1 => ?_)
  replace F := F σ1 eσ1
  refine s_iln dX13_swingAll_5 rfl ?_
  refine s_in (t := 80) (a1 = 0) dX13_swingAll_6 rfl rfl (fun hc => ?_) (fun hc => ?_)
  · replace F := F.1 hc
    exact s_k (t_swingAll_80 hC  F) ⟨rfl, rfl, trivial⟩
  · replace F := F.2 hc
    refine s_aln dX13_swingAll_9 rfl ?_
    refine gf_119 dX13_swingAll_10 rfl ?_
    refine s_ic dX13_swingAll_13 ki_0 ?_
    refine s_aln dX13_swingAll_14 rfl ?_
    refine gf_333 dX13_swingAll_15 rfl ?_
    refine s_astb hC dX13_swingAll_18 rt_56 F.1 (fun σ2 eσ2 => ?_)
    replace F := F.2 σ2 eσ2
    refine s_aln dX13_swingAll_19 rfl ?_
    refine gf_119 dX13_swingAll_20 rfl ?_
    refine s_ic dX13_swingAll_23 ki_1 ?_
    refine s_aln dX13_swingAll_24 rfl ?_
    refine gf_340 dX13_swingAll_25 rfl ?_
    refine s_astb hC dX13_swingAll_28 rt_56 F.1 (fun σ3 eσ3 => ?_)
    replace F := F.2 σ3 eσ3
    refine s_aln dX13_swingAll_29 rfl ?_
    refine gf_119 dX13_swingAll_30 rfl ?_
    refine s_ic dX13_swingAll_33 ki_2 ?_
    refine s_aln dX13_swingAll_34 rfl ?_
    refine gf_369 dX13_swingAll_35 rfl ?_
    refine s_astb hC dX13_swingAll_38 rt_56 F.1 (fun σ4 eσ4 => ?_)
    replace F := F.2 σ4 eσ4
    refine s_aln dX13_swingAll_39 rfl ?_
    refine gf_119 dX13_swingAll_40 rfl ?_
    refine s_ic dX13_swingAll_43 ki_3 ?_
    refine s_aln dX13_swingAll_44 rfl ?_
    refine gf_343 dX13_swingAll_45 rfl ?_
    refine s_astb hC dX13_swingAll_48 rt_56 F.1 (fun σ5 eσ5 => ?_)
    replace F := F.2 σ5 eσ5
    refine s_aln dX13_swingAll_49 rfl ?_
    refine gf_119 dX13_swingAll_50 rfl ?_
    refine s_ic dX13_swingAll_53 ki_4 ?_
    refine s_aln dX13_swingAll_54 rfl ?_
    refine gf_378 dX13_swingAll_55 rfl ?_
    refine s_astb hC dX13_swingAll_58 rt_56 F.1 (fun σ6 eσ6 => ?_)
    replace F := F.2 σ6 eσ6
    refine s_aln dX13_swingAll_59 rfl ?_
    refine gf_119 dX13_swingAll_60 rfl ?_
    refine s_ic dX13_swingAll_63 ki_5 ?_
    refine s_aln dX13_swingAll_64 rfl ?_
    refine gf_487 dX13_swingAll_65 rfl ?_
    refine s_astb hC dX13_swingAll_68 rt_56 F.1 (fun σ7 eσ7 => ?_)
    replace F := F.2 σ7 eσ7
    refine s_aln dX13_swingAll_69 rfl ?_
    refine gf_119 dX13_swingAll_70 rfl ?_
    refine s_bi dX13_swingAll_73 kb_6 ?_
    refine s_aln dX13_swingAll_75 rfl ?_
    refine gf_281 dX13_swingAll_76 rfl ?_
    refine s_astb hC dX13_swingAll_79 rt_56 F.1 (fun σ8 eσ8 => ?_)
    replace F := F.2 σ8 eσ8
    exact s_k (t_swingAll_80 hC  F) ⟨rfl, rfl, trivial⟩

theorem m_swingAll_run {C : rCx} (hC : cOK C) {Q : rS → Prop} {a1 : Int32} {σ : rS} (F : w_swingAll_0 C Q a1 σ) : cV C 1 m_swingAll [.ref (co C), .int a1] σ Q := m_V (m_ent _ 0) (t_swingAll_0 hC F)

theorem dX13_calledBy_0 : decode cX13_calledBy 0 = .ok (.aload_n 0, 1) := by decide +kernel
theorem dX13_calledBy_1 : decode cX13_calledBy 1 = .ok (.getfield 72, 3) := by decide +kernel
theorem dX13_calledBy_4 : decode cX13_calledBy 4 = .ok (.iload_n 1, 1) := by decide +kernel
theorem dX13_calledBy_5 : decode cX13_calledBy 5 = .ok (.iaload, 1) := by decide +kernel
theorem dX13_calledBy_6 : decode cX13_calledBy 6 = .ok (.ireturn, 1) := by decide +kernel
def w_calledBy_0 (C : rCx) (Q : Int32 → rS → Prop)  (a1 : Int32) (σ : rS) : Prop :=
  inb a1 150 ∧
  Q (σ.2.2.1 32 (a1).toNatClampNeg) σ
theorem t_calledBy_0 {C : rCx} (hC : cOK C) {Q : Int32 → rS → Prop}   {a1 : Int32} {σ : rS} (F : w_calledBy_0 C Q  a1 σ) : wG C 0 m_calledBy 0 [some (.ref (co C)), some (.int a1)] [] σ (qI Q) := by
  unfold w_calledBy_0 at F
  refine s_aln dX13_calledBy_0 rfl ?_
  refine gf_72 dX13_calledBy_1 rfl ?_
  refine s_iln dX13_calledBy_4 rfl ?_
  refine s_ald hC dX13_calledBy_5 rt_32 F.1 ?_
  replace F := F.2
  exact s_ri dX13_calledBy_6 rfl in_nar F

theorem m_calledBy_run {C : rCx} (hC : cOK C) {Q : Int32 → rS → Prop} {a1 : Int32} {σ : rS} (F : w_calledBy_0 C Q a1 σ) : cI C 0 m_calledBy [.ref (co C), .int a1] σ Q := m_I (m_ent _ 0) (t_calledBy_0 hC F)

theorem dX13_countArguments_0 : decode cX13_countArguments 0 = .ok (.iload_n 1, 1) := by decide +kernel
theorem dX13_countArguments_1 : decode cX13_countArguments 1 = .ok (.iconst 2, 1) := by decide +kernel
theorem dX13_countArguments_2 : decode cX13_countArguments 2 = .ok (.iadd, 1) := by decide +kernel
theorem dX13_countArguments_3 : decode cX13_countArguments 3 = .ok (.istore_n 2, 1) := by decide +kernel
theorem dX13_countArguments_4 : decode cX13_countArguments 4 = .ok (.aload_n 0, 1) := by decide +kernel
theorem dX13_countArguments_5 : decode cX13_countArguments 5 = .ok (.getfield 19, 3) := by decide +kernel
theorem dX13_countArguments_8 : decode cX13_countArguments 8 = .ok (.iload_n 2, 1) := by decide +kernel
theorem dX13_countArguments_9 : decode cX13_countArguments 9 = .ok (.baload, 1) := by decide +kernel
theorem dX13_countArguments_10 : decode cX13_countArguments 10 = .ok (.iconst 3, 1) := by decide +kernel
theorem dX13_countArguments_11 : decode cX13_countArguments 11 = .ok (.if_icmp .ne 18, 3) := by decide +kernel
theorem dX13_countArguments_14 : decode cX13_countArguments 14 = .ok (.aload_n 0, 1) := by decide +kernel
theorem dX13_countArguments_15 : decode cX13_countArguments 15 = .ok (.getfield 26, 3) := by decide +kernel
theorem dX13_countArguments_18 : decode cX13_countArguments 18 = .ok (.iload_n 2, 1) := by decide +kernel
theorem dX13_countArguments_19 : decode cX13_countArguments 19 = .ok (.iaload, 1) := by decide +kernel
theorem dX13_countArguments_20 : decode cX13_countArguments 20 = .ok (.bipush 41, 2) := by decide +kernel
theorem dX13_countArguments_22 : decode cX13_countArguments 22 = .ok (.if_icmp .ne 7, 3) := by decide +kernel
theorem dX13_countArguments_25 : decode cX13_countArguments 25 = .ok (.iconst 1, 1) := by decide +kernel
theorem dX13_countArguments_26 : decode cX13_countArguments 26 = .ok (.goto 4, 3) := by decide +kernel
theorem dX13_countArguments_29 : decode cX13_countArguments 29 = .ok (.iconst 0, 1) := by decide +kernel
theorem dX13_countArguments_30 : decode cX13_countArguments 30 = .ok (.istore_n 3, 1) := by decide +kernel
theorem dX13_countArguments_31 : decode cX13_countArguments 31 = .ok (.iconst 0, 1) := by decide +kernel
theorem dX13_countArguments_32 : decode cX13_countArguments 32 = .ok (.istore 4, 2) := by decide +kernel
theorem dX13_countArguments_34 : decode cX13_countArguments 34 = .ok (.iload_n 3, 1) := by decide +kernel
theorem dX13_countArguments_35 : decode cX13_countArguments 35 = .ok (.ifCond .eq 7, 3) := by decide +kernel
theorem dX13_countArguments_38 : decode cX13_countArguments 38 = .ok (.iconst 0, 1) := by decide +kernel
theorem dX13_countArguments_39 : decode cX13_countArguments 39 = .ok (.goto 4, 3) := by decide +kernel
theorem dX13_countArguments_42 : decode cX13_countArguments 42 = .ok (.iconst 1, 1) := by decide +kernel
theorem dX13_countArguments_43 : decode cX13_countArguments 43 = .ok (.istore 5, 2) := by decide +kernel
theorem dX13_countArguments_45 : decode cX13_countArguments 45 = .ok (.iload 4, 2) := by decide +kernel
theorem dX13_countArguments_47 : decode cX13_countArguments 47 = .ok (.ifCond .gt 24, 3) := by decide +kernel
theorem dX13_countArguments_50 : decode cX13_countArguments 50 = .ok (.aload_n 0, 1) := by decide +kernel
theorem dX13_countArguments_51 : decode cX13_countArguments 51 = .ok (.getfield 19, 3) := by decide +kernel
theorem dX13_countArguments_54 : decode cX13_countArguments 54 = .ok (.iload_n 2, 1) := by decide +kernel
theorem dX13_countArguments_55 : decode cX13_countArguments 55 = .ok (.baload, 1) := by decide +kernel
theorem dX13_countArguments_56 : decode cX13_countArguments 56 = .ok (.iconst 3, 1) := by decide +kernel
theorem dX13_countArguments_57 : decode cX13_countArguments 57 = .ok (.if_icmp .ne 14, 3) := by decide +kernel
theorem dX13_countArguments_60 : decode cX13_countArguments 60 = .ok (.aload_n 0, 1) := by decide +kernel
theorem dX13_countArguments_61 : decode cX13_countArguments 61 = .ok (.getfield 26, 3) := by decide +kernel
theorem dX13_countArguments_64 : decode cX13_countArguments 64 = .ok (.iload_n 2, 1) := by decide +kernel
theorem dX13_countArguments_65 : decode cX13_countArguments 65 = .ok (.iaload, 1) := by decide +kernel
theorem dX13_countArguments_66 : decode cX13_countArguments 66 = .ok (.bipush 41, 2) := by decide +kernel
theorem dX13_countArguments_68 : decode cX13_countArguments 68 = .ok (.if_icmp .eq 125, 3) := by decide +kernel
theorem dX13_countArguments_71 : decode cX13_countArguments 71 = .ok (.aload_n 0, 1) := by decide +kernel
theorem dX13_countArguments_72 : decode cX13_countArguments 72 = .ok (.getfield 19, 3) := by decide +kernel
theorem dX13_countArguments_75 : decode cX13_countArguments 75 = .ok (.iload_n 2, 1) := by decide +kernel
theorem dX13_countArguments_76 : decode cX13_countArguments 76 = .ok (.baload, 1) := by decide +kernel
theorem dX13_countArguments_77 : decode cX13_countArguments 77 = .ok (.iconst 3, 1) := by decide +kernel
theorem dX13_countArguments_78 : decode cX13_countArguments 78 = .ok (.if_icmp .ne 7, 3) := by decide +kernel
theorem dX13_countArguments_81 : decode cX13_countArguments 81 = .ok (.iconst 1, 1) := by decide +kernel
theorem dX13_countArguments_82 : decode cX13_countArguments 82 = .ok (.goto 4, 3) := by decide +kernel
theorem dX13_countArguments_85 : decode cX13_countArguments 85 = .ok (.iconst 0, 1) := by decide +kernel
theorem dX13_countArguments_86 : decode cX13_countArguments 86 = .ok (.istore 6, 2) := by decide +kernel
theorem dX13_countArguments_88 : decode cX13_countArguments 88 = .ok (.iload 4, 2) := by decide +kernel
theorem dX13_countArguments_90 : decode cX13_countArguments 90 = .ok (.iload 6, 2) := by decide +kernel
theorem dX13_countArguments_92 : decode cX13_countArguments 92 = .ok (.ifCond .eq 29, 3) := by decide +kernel
theorem dX13_countArguments_95 : decode cX13_countArguments 95 = .ok (.aload_n 0, 1) := by decide +kernel
theorem dX13_countArguments_96 : decode cX13_countArguments 96 = .ok (.getfield 26, 3) := by decide +kernel
theorem dX13_countArguments_99 : decode cX13_countArguments 99 = .ok (.iload_n 2, 1) := by decide +kernel
theorem dX13_countArguments_100 : decode cX13_countArguments 100 = .ok (.iaload, 1) := by decide +kernel
theorem dX13_countArguments_101 : decode cX13_countArguments 101 = .ok (.bipush 40, 2) := by decide +kernel
theorem dX13_countArguments_103 : decode cX13_countArguments 103 = .ok (.if_icmp .eq 14, 3) := by decide +kernel
theorem dX13_countArguments_106 : decode cX13_countArguments 106 = .ok (.aload_n 0, 1) := by decide +kernel
theorem dX13_countArguments_107 : decode cX13_countArguments 107 = .ok (.getfield 26, 3) := by decide +kernel
theorem dX13_countArguments_110 : decode cX13_countArguments 110 = .ok (.iload_n 2, 1) := by decide +kernel
theorem dX13_countArguments_111 : decode cX13_countArguments 111 = .ok (.iaload, 1) := by decide +kernel
theorem dX13_countArguments_112 : decode cX13_countArguments 112 = .ok (.bipush 91, 2) := by decide +kernel
theorem dX13_countArguments_114 : decode cX13_countArguments 114 = .ok (.if_icmp .ne 7, 3) := by decide +kernel
theorem dX13_countArguments_117 : decode cX13_countArguments 117 = .ok (.iconst 1, 1) := by decide +kernel
theorem dX13_countArguments_118 : decode cX13_countArguments 118 = .ok (.goto 35, 3) := by decide +kernel
theorem dX13_countArguments_121 : decode cX13_countArguments 121 = .ok (.iload 6, 2) := by decide +kernel
theorem dX13_countArguments_123 : decode cX13_countArguments 123 = .ok (.ifCond .eq 29, 3) := by decide +kernel
theorem dX13_countArguments_126 : decode cX13_countArguments 126 = .ok (.aload_n 0, 1) := by decide +kernel
theorem dX13_countArguments_127 : decode cX13_countArguments 127 = .ok (.getfield 26, 3) := by decide +kernel
theorem dX13_countArguments_130 : decode cX13_countArguments 130 = .ok (.iload_n 2, 1) := by decide +kernel
theorem dX13_countArguments_131 : decode cX13_countArguments 131 = .ok (.iaload, 1) := by decide +kernel
theorem dX13_countArguments_132 : decode cX13_countArguments 132 = .ok (.bipush 41, 2) := by decide +kernel
theorem dX13_countArguments_134 : decode cX13_countArguments 134 = .ok (.if_icmp .eq 14, 3) := by decide +kernel
theorem dX13_countArguments_137 : decode cX13_countArguments 137 = .ok (.aload_n 0, 1) := by decide +kernel
theorem dX13_countArguments_138 : decode cX13_countArguments 138 = .ok (.getfield 26, 3) := by decide +kernel
theorem dX13_countArguments_141 : decode cX13_countArguments 141 = .ok (.iload_n 2, 1) := by decide +kernel
theorem dX13_countArguments_142 : decode cX13_countArguments 142 = .ok (.iaload, 1) := by decide +kernel
theorem dX13_countArguments_143 : decode cX13_countArguments 143 = .ok (.bipush 93, 2) := by decide +kernel
theorem dX13_countArguments_145 : decode cX13_countArguments 145 = .ok (.if_icmp .ne 7, 3) := by decide +kernel
theorem dX13_countArguments_148 : decode cX13_countArguments 148 = .ok (.iconst (-1), 1) := by decide +kernel
theorem dX13_countArguments_149 : decode cX13_countArguments 149 = .ok (.goto 4, 3) := by decide +kernel
theorem dX13_countArguments_152 : decode cX13_countArguments 152 = .ok (.iconst 0, 1) := by decide +kernel
theorem dX13_countArguments_153 : decode cX13_countArguments 153 = .ok (.iadd, 1) := by decide +kernel
theorem dX13_countArguments_154 : decode cX13_countArguments 154 = .ok (.istore 4, 2) := by decide +kernel
theorem dX13_countArguments_156 : decode cX13_countArguments 156 = .ok (.iload 5, 2) := by decide +kernel
theorem dX13_countArguments_158 : decode cX13_countArguments 158 = .ok (.iload 4, 2) := by decide +kernel
theorem dX13_countArguments_160 : decode cX13_countArguments 160 = .ok (.ifCond .ne 23, 3) := by decide +kernel
theorem dX13_countArguments_163 : decode cX13_countArguments 163 = .ok (.iload 6, 2) := by decide +kernel
theorem dX13_countArguments_165 : decode cX13_countArguments 165 = .ok (.ifCond .eq 18, 3) := by decide +kernel
theorem dX13_countArguments_168 : decode cX13_countArguments 168 = .ok (.aload_n 0, 1) := by decide +kernel
theorem dX13_countArguments_169 : decode cX13_countArguments 169 = .ok (.getfield 26, 3) := by decide +kernel
theorem dX13_countArguments_172 : decode cX13_countArguments 172 = .ok (.iload_n 2, 1) := by decide +kernel
theorem dX13_countArguments_173 : decode cX13_countArguments 173 = .ok (.iaload, 1) := by decide +kernel
theorem dX13_countArguments_174 : decode cX13_countArguments 174 = .ok (.bipush 44, 2) := by decide +kernel
theorem dX13_countArguments_176 : decode cX13_countArguments 176 = .ok (.if_icmp .ne 7, 3) := by decide +kernel
theorem dX13_countArguments_179 : decode cX13_countArguments 179 = .ok (.iconst 1, 1) := by decide +kernel
theorem dX13_countArguments_180 : decode cX13_countArguments 180 = .ok (.goto 4, 3) := by decide +kernel
theorem dX13_countArguments_183 : decode cX13_countArguments 183 = .ok (.iconst 0, 1) := by decide +kernel
theorem dX13_countArguments_184 : decode cX13_countArguments 184 = .ok (.iadd, 1) := by decide +kernel
theorem dX13_countArguments_185 : decode cX13_countArguments 185 = .ok (.istore 5, 2) := by decide +kernel
theorem dX13_countArguments_187 : decode cX13_countArguments 187 = .ok (.iinc 2 1, 3) := by decide +kernel
theorem dX13_countArguments_190 : decode cX13_countArguments 190 = .ok (.goto (-145), 3) := by decide +kernel
theorem dX13_countArguments_193 : decode cX13_countArguments 193 = .ok (.iload 5, 2) := by decide +kernel
theorem dX13_countArguments_195 : decode cX13_countArguments 195 = .ok (.ireturn, 1) := by decide +kernel
def w_countArguments_184 (C : rCx) (Q : Int32 → rS → Prop) (B45 : Int32 → Int32 → Int32 → rS → Prop) (a2 : Int32) (a4 : Int32) (s0 : Int32) (s1 : Int32) (σ : rS) : Prop :=
  ∀ v5_1 : Int32, v5_1 = (s0 + s1) →
  ∀ v2_2 : Int32, v2_2 = a2 + (1 : Int32) →
  B45 v2_2 a4 v5_1 σ
theorem t_countArguments_184 {C : rCx} (hC : cOK C) {Q : Int32 → rS → Prop} {B45 : Int32 → Int32 → Int32 → rS → Prop} (hB45 : ∀ a2' a4' a5' τ, B45 a2' a4' a5' τ → wG C 0 m_countArguments 45 [some (.ref (co C)), none, some (.int a2'), none, some (.int a4'), some (.int a5'), none] [] τ (qI Q)) {a2 : Int32} {a4 : Int32} {s0 : Int32} {s1 : Int32} {σ : rS} (F : w_countArguments_184 C Q B45 a2 a4 s0 s1 σ) : wG C 0 m_countArguments 184 [some (.ref (co C)), none, some (.int a2), none, some (.int a4), none, none] [.int s1, .int s0] σ (qI Q) := by
  unfold w_countArguments_184 at F
  refine s_iadd dX13_countArguments_184 ?_
  refine s_isb dX13_countArguments_185 (Nat.le_of_ble_eq_true rfl) (fun v5_1 ev5_1 => ?_)
  replace F := F v5_1 ev5_1
  refine s_incb dX13_countArguments_187 ki_1 rfl (Nat.le_of_ble_eq_true rfl) (fun v2_2 ev2_2 => ?_)
  replace F := F v2_2 ev2_2
  refine s_goto (t := 45) dX13_countArguments_190 rfl ?_
  exact s_k (hB45 _ _ _ _ F) ⟨rfl, rfl, rfl, rfl, trivial⟩

def w_countArguments_153 (C : rCx) (Q : Int32 → rS → Prop) (B45 : Int32 → Int32 → Int32 → rS → Prop) (a2 : Int32) (a5 : Int32) (a6 : Int32) (s0 : Int32) (s1 : Int32) (σ : rS) : Prop :=
  ∀ v4_1 : Int32, v4_1 = (s0 + s1) →
  (¬ (v4_1 = 0) →
    w_countArguments_184 C Q B45 a2 v4_1 a5 (0 : Int32) σ) ∧
  (v4_1 = 0 →
    (a6 = 0 →
      w_countArguments_184 C Q B45 a2 v4_1 a5 (0 : Int32) σ) ∧
    (¬ (a6 = 0) →
      inb a2 131074 ∧
      (¬ ((σ.2.2.1 7 (a2).toNatClampNeg) = (44 : Int32)) →
        w_countArguments_184 C Q B45 a2 v4_1 a5 (0 : Int32) σ) ∧
      ((σ.2.2.1 7 (a2).toNatClampNeg) = (44 : Int32) →
        w_countArguments_184 C Q B45 a2 v4_1 a5 (1 : Int32) σ)))
theorem t_countArguments_153 {C : rCx} (hC : cOK C) {Q : Int32 → rS → Prop} {B45 : Int32 → Int32 → Int32 → rS → Prop} (hB45 : ∀ a2' a4' a5' τ, B45 a2' a4' a5' τ → wG C 0 m_countArguments 45 [some (.ref (co C)), none, some (.int a2'), none, some (.int a4'), some (.int a5'), none] [] τ (qI Q)) {a2 : Int32} {a5 : Int32} {a6 : Int32} {s0 : Int32} {s1 : Int32} {σ : rS} (F : w_countArguments_153 C Q B45 a2 a5 a6 s0 s1 σ) : wG C 0 m_countArguments 153 [some (.ref (co C)), none, some (.int a2), none, none, some (.int a5), some (.int a6)] [.int s1, .int s0] σ (qI Q) := by
  unfold w_countArguments_153 at F
  refine s_iadd dX13_countArguments_153 ?_
  refine s_isb dX13_countArguments_154 (Nat.le_of_ble_eq_true rfl) (fun v4_1 ev4_1 => ?_)
  replace F := F v4_1 ev4_1
  refine s_il dX13_countArguments_156 rfl ?_
  refine s_il dX13_countArguments_158 rfl ?_
  refine s_in (t := 183) (v4_1 = 0) dX13_countArguments_160 rfl rfl (fun hc => ?_) (fun hc => ?_)
  · replace F := F.1 hc
    refine s_ic dX13_countArguments_183 ki_0 ?_
    exact s_k (t_countArguments_184 hC hB45 F) ⟨rfl, rfl, rfl, trivial⟩
  · replace F := F.2 hc
    refine s_il dX13_countArguments_163 rfl ?_
    refine s_i (t := 183) (a6 = 0) dX13_countArguments_165 rfl rfl (fun hc => ?_) (fun hc => ?_)
    · replace F := F.1 hc
      refine s_ic dX13_countArguments_183 ki_0 ?_
      exact s_k (t_countArguments_184 hC hB45 F) ⟨rfl, rfl, rfl, trivial⟩
    · replace F := F.2 hc
      refine s_aln dX13_countArguments_168 rfl ?_
      refine gf_26 dX13_countArguments_169 rfl ?_
      refine s_iln dX13_countArguments_172 rfl ?_
      refine s_ald hC dX13_countArguments_173 rt_7 F.1 ?_
      replace F := F.2
      refine s_bi dX13_countArguments_174 kb_44 ?_
      refine s_iin (t := 183) ((σ.2.2.1 7 (a2).toNatClampNeg) = (44 : Int32)) dX13_countArguments_176 rfl rfl (fun hc => ?_) (fun hc => ?_)
      · replace F := F.1 hc
        refine s_ic dX13_countArguments_183 ki_0 ?_
        exact s_k (t_countArguments_184 hC hB45 F) ⟨rfl, rfl, rfl, trivial⟩
      · replace F := F.2 hc
        refine s_ic dX13_countArguments_179 ki_1 ?_
        refine s_goto (t := 184) dX13_countArguments_180 rfl ?_
        exact s_k (t_countArguments_184 hC hB45 F) ⟨rfl, rfl, rfl, trivial⟩

def w_countArguments_121 (C : rCx) (Q : Int32 → rS → Prop) (B45 : Int32 → Int32 → Int32 → rS → Prop) (a2 : Int32) (a5 : Int32) (a6 : Int32) (s0 : Int32) (σ : rS) : Prop :=
  (a6 = 0 →
    w_countArguments_153 C Q B45 a2 a5 a6 s0 (0 : Int32) σ) ∧
  (¬ (a6 = 0) →
    inb a2 131074 ∧
    ((σ.2.2.1 7 (a2).toNatClampNeg) = (41 : Int32) →
      w_countArguments_153 C Q B45 a2 a5 a6 s0 (-1 : Int32) σ) ∧
    (¬ ((σ.2.2.1 7 (a2).toNatClampNeg) = (41 : Int32)) →
      inb a2 131074 ∧
      (¬ ((σ.2.2.1 7 (a2).toNatClampNeg) = (93 : Int32)) →
        w_countArguments_153 C Q B45 a2 a5 a6 s0 (0 : Int32) σ) ∧
      ((σ.2.2.1 7 (a2).toNatClampNeg) = (93 : Int32) →
        w_countArguments_153 C Q B45 a2 a5 a6 s0 (-1 : Int32) σ)))
theorem t_countArguments_121 {C : rCx} (hC : cOK C) {Q : Int32 → rS → Prop} {B45 : Int32 → Int32 → Int32 → rS → Prop} (hB45 : ∀ a2' a4' a5' τ, B45 a2' a4' a5' τ → wG C 0 m_countArguments 45 [some (.ref (co C)), none, some (.int a2'), none, some (.int a4'), some (.int a5'), none] [] τ (qI Q)) {a2 : Int32} {a5 : Int32} {a6 : Int32} {s0 : Int32} {σ : rS} (F : w_countArguments_121 C Q B45 a2 a5 a6 s0 σ) : wG C 0 m_countArguments 121 [some (.ref (co C)), none, some (.int a2), none, none, some (.int a5), some (.int a6)] [.int s0] σ (qI Q) := by
  unfold w_countArguments_121 at F
  refine s_il dX13_countArguments_121 rfl ?_
  refine s_i (t := 152) (a6 = 0) dX13_countArguments_123 rfl rfl (fun hc => ?_) (fun hc => ?_)
  · replace F := F.1 hc
    refine s_ic dX13_countArguments_152 ki_0 ?_
    exact s_k (t_countArguments_153 hC hB45 F) ⟨rfl, rfl, rfl, rfl, trivial⟩
  · replace F := F.2 hc
    refine s_aln dX13_countArguments_126 rfl ?_
    refine gf_26 dX13_countArguments_127 rfl ?_
    refine s_iln dX13_countArguments_130 rfl ?_
    refine s_ald hC dX13_countArguments_131 rt_7 F.1 ?_
    replace F := F.2
    refine s_bi dX13_countArguments_132 kb_41 ?_
    refine s_ii (t := 148) ((σ.2.2.1 7 (a2).toNatClampNeg) = (41 : Int32)) dX13_countArguments_134 rfl rfl (fun hc => ?_) (fun hc => ?_)
    · replace F := F.1 hc
      refine s_ic dX13_countArguments_148 ki_m1 ?_
      refine s_goto (t := 153) dX13_countArguments_149 rfl ?_
      exact s_k (t_countArguments_153 hC hB45 F) ⟨rfl, rfl, rfl, rfl, trivial⟩
    · replace F := F.2 hc
      refine s_aln dX13_countArguments_137 rfl ?_
      refine gf_26 dX13_countArguments_138 rfl ?_
      refine s_iln dX13_countArguments_141 rfl ?_
      refine s_ald hC dX13_countArguments_142 rt_7 F.1 ?_
      replace F := F.2
      refine s_bi dX13_countArguments_143 kb_93 ?_
      refine s_iin (t := 152) ((σ.2.2.1 7 (a2).toNatClampNeg) = (93 : Int32)) dX13_countArguments_145 rfl rfl (fun hc => ?_) (fun hc => ?_)
      · replace F := F.1 hc
        refine s_ic dX13_countArguments_152 ki_0 ?_
        exact s_k (t_countArguments_153 hC hB45 F) ⟨rfl, rfl, rfl, rfl, trivial⟩
      · replace F := F.2 hc
        refine s_ic dX13_countArguments_148 ki_m1 ?_
        refine s_goto (t := 153) dX13_countArguments_149 rfl ?_
        exact s_k (t_countArguments_153 hC hB45 F) ⟨rfl, rfl, rfl, rfl, trivial⟩

def w_countArguments_86 (C : rCx) (Q : Int32 → rS → Prop) (B45 : Int32 → Int32 → Int32 → rS → Prop) (a2 : Int32) (a4 : Int32) (a5 : Int32) (s0 : Int32) (σ : rS) : Prop :=
  (s0 = 0 →
    w_countArguments_121 C Q B45 a2 a5 s0 a4 σ) ∧
  (¬ (s0 = 0) →
    inb a2 131074 ∧
    ((σ.2.2.1 7 (a2).toNatClampNeg) = (40 : Int32) →
      w_countArguments_153 C Q B45 a2 a5 s0 a4 (1 : Int32) σ) ∧
    (¬ ((σ.2.2.1 7 (a2).toNatClampNeg) = (40 : Int32)) →
      inb a2 131074 ∧
      (¬ ((σ.2.2.1 7 (a2).toNatClampNeg) = (91 : Int32)) →
        w_countArguments_121 C Q B45 a2 a5 s0 a4 σ) ∧
      ((σ.2.2.1 7 (a2).toNatClampNeg) = (91 : Int32) →
        w_countArguments_153 C Q B45 a2 a5 s0 a4 (1 : Int32) σ)))
theorem t_countArguments_86 {C : rCx} (hC : cOK C) {Q : Int32 → rS → Prop} {B45 : Int32 → Int32 → Int32 → rS → Prop} (hB45 : ∀ a2' a4' a5' τ, B45 a2' a4' a5' τ → wG C 0 m_countArguments 45 [some (.ref (co C)), none, some (.int a2'), none, some (.int a4'), some (.int a5'), none] [] τ (qI Q)) {a2 : Int32} {a4 : Int32} {a5 : Int32} {s0 : Int32} {σ : rS} (F : w_countArguments_86 C Q B45 a2 a4 a5 s0 σ) : wG C 0 m_countArguments 86 [some (.ref (co C)), none, some (.int a2), none, some (.int a4), some (.int a5), none] [.int s0] σ (qI Q) := by
  unfold w_countArguments_86 at F
  refine s_is dX13_countArguments_86 (Nat.le_of_ble_eq_true rfl) rfl ?_
  refine s_il dX13_countArguments_88 rfl ?_
  refine s_il dX13_countArguments_90 rfl ?_
  refine s_i (t := 121) (s0 = 0) dX13_countArguments_92 rfl rfl (fun hc => ?_) (fun hc => ?_)
  · replace F := F.1 hc
    exact s_k (t_countArguments_121 hC hB45 F) ⟨rfl, rfl, rfl, rfl, trivial⟩
  · replace F := F.2 hc
    refine s_aln dX13_countArguments_95 rfl ?_
    refine gf_26 dX13_countArguments_96 rfl ?_
    refine s_iln dX13_countArguments_99 rfl ?_
    refine s_ald hC dX13_countArguments_100 rt_7 F.1 ?_
    replace F := F.2
    refine s_bi dX13_countArguments_101 kb_40 ?_
    refine s_ii (t := 117) ((σ.2.2.1 7 (a2).toNatClampNeg) = (40 : Int32)) dX13_countArguments_103 rfl rfl (fun hc => ?_) (fun hc => ?_)
    · replace F := F.1 hc
      refine s_ic dX13_countArguments_117 ki_1 ?_
      refine s_goto (t := 153) dX13_countArguments_118 rfl ?_
      exact s_k (t_countArguments_153 hC hB45 F) ⟨rfl, rfl, rfl, rfl, trivial⟩
    · replace F := F.2 hc
      refine s_aln dX13_countArguments_106 rfl ?_
      refine gf_26 dX13_countArguments_107 rfl ?_
      refine s_iln dX13_countArguments_110 rfl ?_
      refine s_ald hC dX13_countArguments_111 rt_7 F.1 ?_
      replace F := F.2
      refine s_bi dX13_countArguments_112 kb_91 ?_
      refine s_iin (t := 121) ((σ.2.2.1 7 (a2).toNatClampNeg) = (91 : Int32)) dX13_countArguments_114 rfl rfl (fun hc => ?_) (fun hc => ?_)
      · replace F := F.1 hc
        exact s_k (t_countArguments_121 hC hB45 F) ⟨rfl, rfl, rfl, rfl, trivial⟩
      · replace F := F.2 hc
        refine s_ic dX13_countArguments_117 ki_1 ?_
        refine s_goto (t := 153) dX13_countArguments_118 rfl ?_
        exact s_k (t_countArguments_153 hC hB45 F) ⟨rfl, rfl, rfl, rfl, trivial⟩

def w_countArguments_71 (C : rCx) (Q : Int32 → rS → Prop) (B45 : Int32 → Int32 → Int32 → rS → Prop) (a2 : Int32) (a4 : Int32) (a5 : Int32) (σ : rS) : Prop :=
  inb a2 131074 ∧
  (¬ ((σ.2.2.1 5 (a2).toNatClampNeg) = (3 : Int32)) →
    w_countArguments_86 C Q B45 a2 a4 a5 (0 : Int32) σ) ∧
  ((σ.2.2.1 5 (a2).toNatClampNeg) = (3 : Int32) →
    w_countArguments_86 C Q B45 a2 a4 a5 (1 : Int32) σ)
theorem t_countArguments_71 {C : rCx} (hC : cOK C) {Q : Int32 → rS → Prop} {B45 : Int32 → Int32 → Int32 → rS → Prop} (hB45 : ∀ a2' a4' a5' τ, B45 a2' a4' a5' τ → wG C 0 m_countArguments 45 [some (.ref (co C)), none, some (.int a2'), none, some (.int a4'), some (.int a5'), none] [] τ (qI Q)) {a2 : Int32} {a4 : Int32} {a5 : Int32} {σ : rS} (F : w_countArguments_71 C Q B45 a2 a4 a5 σ) : wG C 0 m_countArguments 71 [some (.ref (co C)), none, some (.int a2), none, some (.int a4), some (.int a5), none] [] σ (qI Q) := by
  unfold w_countArguments_71 at F
  refine s_aln dX13_countArguments_71 rfl ?_
  refine gf_19 dX13_countArguments_72 rfl ?_
  refine s_iln dX13_countArguments_75 rfl ?_
  refine s_bld hC dX13_countArguments_76 rt_5 F.1 ?_
  replace F := F.2
  refine s_ic dX13_countArguments_77 ki_3 ?_
  refine s_iin (t := 85) ((σ.2.2.1 5 (a2).toNatClampNeg) = (3 : Int32)) dX13_countArguments_78 rfl rfl (fun hc => ?_) (fun hc => ?_)
  · replace F := F.1 hc
    refine s_ic dX13_countArguments_85 ki_0 ?_
    exact s_k (t_countArguments_86 hC hB45 F) ⟨rfl, rfl, rfl, rfl, trivial⟩
  · replace F := F.2 hc
    refine s_ic dX13_countArguments_81 ki_1 ?_
    refine s_goto (t := 86) dX13_countArguments_82 rfl ?_
    exact s_k (t_countArguments_86 hC hB45 F) ⟨rfl, rfl, rfl, rfl, trivial⟩

def w_countArguments_45 (C : rCx) (Q : Int32 → rS → Prop)  (a2 : Int32) (a4 : Int32) (a5 : Int32) (σ : rS) : Prop :=
  ∃ I : Nat → Int32 → Int32 → Int32 → rS → Prop, (∃ n, I n a2 a4 a5 σ) ∧ ∀ n a2 a4 a5 σ, I n a2 a4 a5 σ →
    (0 < a4 →
      w_countArguments_71 C Q (fun a2' a4' a5' τ => ∃ k < n, I k a2' a4' a5' τ) a2 a4 a5 σ) ∧
    (¬ (0 < a4) →
      inb a2 131074 ∧
      (¬ ((σ.2.2.1 5 (a2).toNatClampNeg) = (3 : Int32)) →
        w_countArguments_71 C Q (fun a2' a4' a5' τ => ∃ k < n, I k a2' a4' a5' τ) a2 a4 a5 σ) ∧
      ((σ.2.2.1 5 (a2).toNatClampNeg) = (3 : Int32) →
        inb a2 131074 ∧
        ((σ.2.2.1 7 (a2).toNatClampNeg) = (41 : Int32) →
          Q a5 σ) ∧
        (¬ ((σ.2.2.1 7 (a2).toNatClampNeg) = (41 : Int32)) →
          w_countArguments_71 C Q (fun a2' a4' a5' τ => ∃ k < n, I k a2' a4' a5' τ) a2 a4 a5 σ)))
theorem t_countArguments_45 {C : rCx} (hC : cOK C) {Q : Int32 → rS → Prop}   {a2 : Int32} {a4 : Int32} {a5 : Int32} {σ : rS} (F : w_countArguments_45 C Q  a2 a4 a5 σ) : wG C 0 m_countArguments 45 [some (.ref (co C)), none, some (.int a2), none, some (.int a4), some (.int a5), none] [] σ (qI Q) := by
  obtain ⟨I, ⟨n0, hI0⟩, F0⟩ := F
  have key : ∀ n a2 a4 a5 σ, I n a2 a4 a5 σ → wG C 0 m_countArguments 45 [some (.ref (co C)), none, some (.int a2), none, some (.int a4), some (.int a5), none] [] σ (qI Q) := by
    intro n
    induction n using Nat.strongRecOn with
    | _ n ih =>
      intro a2 a4 a5 σ hI
      have F := F0 n a2 a4 a5 σ hI
      clear hI hI0
      refine s_il dX13_countArguments_45 rfl ?_
      refine s_i (t := 71) (0 < a4) dX13_countArguments_47 rfl rfl (fun hc => ?_) (fun hc => ?_)
      · replace F := F.1 hc
        exact s_k (t_countArguments_71 hC (fun a2' a4' a5' τ hb => by obtain ⟨k, hk, hI⟩ := hb; exact ih k hk a2' a4' a5' τ hI) F) ⟨rfl, rfl, rfl, rfl, trivial⟩
      · replace F := F.2 hc
        refine s_aln dX13_countArguments_50 rfl ?_
        refine gf_19 dX13_countArguments_51 rfl ?_
        refine s_iln dX13_countArguments_54 rfl ?_
        refine s_bld hC dX13_countArguments_55 rt_5 F.1 ?_
        replace F := F.2
        refine s_ic dX13_countArguments_56 ki_3 ?_
        refine s_iin (t := 71) ((σ.2.2.1 5 (a2).toNatClampNeg) = (3 : Int32)) dX13_countArguments_57 rfl rfl (fun hc => ?_) (fun hc => ?_)
        · replace F := F.1 hc
          exact s_k (t_countArguments_71 hC (fun a2' a4' a5' τ hb => by obtain ⟨k, hk, hI⟩ := hb; exact ih k hk a2' a4' a5' τ hI) F) ⟨rfl, rfl, rfl, rfl, trivial⟩
        · replace F := F.2 hc
          refine s_aln dX13_countArguments_60 rfl ?_
          refine gf_26 dX13_countArguments_61 rfl ?_
          refine s_iln dX13_countArguments_64 rfl ?_
          refine s_ald hC dX13_countArguments_65 rt_7 F.1 ?_
          replace F := F.2
          refine s_bi dX13_countArguments_66 kb_41 ?_
          refine s_ii (t := 193) ((σ.2.2.1 7 (a2).toNatClampNeg) = (41 : Int32)) dX13_countArguments_68 rfl rfl (fun hc => ?_) (fun hc => ?_)
          · replace F := F.1 hc
            refine s_il dX13_countArguments_193 rfl ?_
            exact s_ri dX13_countArguments_195 rfl in_nar F
          · replace F := F.2 hc
            exact s_k (t_countArguments_71 hC (fun a2' a4' a5' τ hb => by obtain ⟨k, hk, hI⟩ := hb; exact ih k hk a2' a4' a5' τ hI) F) ⟨rfl, rfl, rfl, rfl, trivial⟩
  exact key n0 a2 a4 a5 σ hI0

def w_countArguments_30 (C : rCx) (Q : Int32 → rS → Prop)  (a2 : Int32) (s0 : Int32) (σ : rS) : Prop :=
  (s0 = 0 →
    w_countArguments_45 C Q  a2 (0 : Int32) (1 : Int32) σ) ∧
  (¬ (s0 = 0) →
    w_countArguments_45 C Q  a2 (0 : Int32) (0 : Int32) σ)
theorem t_countArguments_30 {C : rCx} (hC : cOK C) {Q : Int32 → rS → Prop}   {a2 : Int32} {s0 : Int32} {σ : rS} (F : w_countArguments_30 C Q  a2 s0 σ) : wG C 0 m_countArguments 30 [some (.ref (co C)), none, some (.int a2), none, none, none, none] [.int s0] σ (qI Q) := by
  unfold w_countArguments_30 at F
  refine s_isn dX13_countArguments_30 (Nat.le_of_ble_eq_true rfl) rfl ?_
  refine s_ic dX13_countArguments_31 ki_0 ?_
  refine s_is dX13_countArguments_32 (Nat.le_of_ble_eq_true rfl) rfl ?_
  refine s_iln dX13_countArguments_34 rfl ?_
  refine s_i (t := 42) (s0 = 0) dX13_countArguments_35 rfl rfl (fun hc => ?_) (fun hc => ?_)
  · replace F := F.1 hc
    refine s_ic dX13_countArguments_42 ki_1 ?_
    refine s_is dX13_countArguments_43 (Nat.le_of_ble_eq_true rfl) rfl ?_
    exact s_k (t_countArguments_45 hC  F) ⟨rfl, rfl, rfl, rfl, trivial⟩
  · replace F := F.2 hc
    refine s_ic dX13_countArguments_38 ki_0 ?_
    refine s_goto (t := 43) dX13_countArguments_39 rfl ?_
    refine s_is dX13_countArguments_43 (Nat.le_of_ble_eq_true rfl) rfl ?_
    exact s_k (t_countArguments_45 hC  F) ⟨rfl, rfl, rfl, rfl, trivial⟩

def w_countArguments_0 (C : rCx) (Q : Int32 → rS → Prop)  (a1 : Int32) (σ : rS) : Prop :=
  ∀ v2_1 : Int32, v2_1 = (a1 + (2 : Int32)) →
  inb v2_1 131074 ∧
  (¬ ((σ.2.2.1 5 (v2_1).toNatClampNeg) = (3 : Int32)) →
    w_countArguments_30 C Q  v2_1 (0 : Int32) σ) ∧
  ((σ.2.2.1 5 (v2_1).toNatClampNeg) = (3 : Int32) →
    inb v2_1 131074 ∧
    (¬ ((σ.2.2.1 7 (v2_1).toNatClampNeg) = (41 : Int32)) →
      w_countArguments_30 C Q  v2_1 (0 : Int32) σ) ∧
    ((σ.2.2.1 7 (v2_1).toNatClampNeg) = (41 : Int32) →
      w_countArguments_30 C Q  v2_1 (1 : Int32) σ))
theorem t_countArguments_0 {C : rCx} (hC : cOK C) {Q : Int32 → rS → Prop}   {a1 : Int32} {σ : rS} (F : w_countArguments_0 C Q  a1 σ) : wG C 0 m_countArguments 0 [some (.ref (co C)), some (.int a1), none, none, none, none, none] [] σ (qI Q) := by
  unfold w_countArguments_0 at F
  refine s_iln dX13_countArguments_0 rfl ?_
  refine s_ic dX13_countArguments_1 ki_2 ?_
  refine s_iadd dX13_countArguments_2 ?_
  refine s_isnb dX13_countArguments_3 (Nat.le_of_ble_eq_true rfl) (fun v2_1 ev2_1 => ?_)
  replace F := F v2_1 ev2_1
  refine s_aln dX13_countArguments_4 rfl ?_
  refine gf_19 dX13_countArguments_5 rfl ?_
  refine s_iln dX13_countArguments_8 rfl ?_
  refine s_bld hC dX13_countArguments_9 rt_5 F.1 ?_
  replace F := F.2
  refine s_ic dX13_countArguments_10 ki_3 ?_
  refine s_iin (t := 29) ((σ.2.2.1 5 (v2_1).toNatClampNeg) = (3 : Int32)) dX13_countArguments_11 rfl rfl (fun hc => ?_) (fun hc => ?_)
  · replace F := F.1 hc
    refine s_ic dX13_countArguments_29 ki_0 ?_
    exact s_k (t_countArguments_30 hC  F) ⟨rfl, rfl, trivial⟩
  · replace F := F.2 hc
    refine s_aln dX13_countArguments_14 rfl ?_
    refine gf_26 dX13_countArguments_15 rfl ?_
    refine s_iln dX13_countArguments_18 rfl ?_
    refine s_ald hC dX13_countArguments_19 rt_7 F.1 ?_
    replace F := F.2
    refine s_bi dX13_countArguments_20 kb_41 ?_
    refine s_iin (t := 29) ((σ.2.2.1 7 (v2_1).toNatClampNeg) = (41 : Int32)) dX13_countArguments_22 rfl rfl (fun hc => ?_) (fun hc => ?_)
    · replace F := F.1 hc
      refine s_ic dX13_countArguments_29 ki_0 ?_
      exact s_k (t_countArguments_30 hC  F) ⟨rfl, rfl, trivial⟩
    · replace F := F.2 hc
      refine s_ic dX13_countArguments_25 ki_1 ?_
      refine s_goto (t := 30) dX13_countArguments_26 rfl ?_
      exact s_k (t_countArguments_30 hC  F) ⟨rfl, rfl, trivial⟩

theorem m_countArguments_run {C : rCx} (hC : cOK C) {Q : Int32 → rS → Prop} {a1 : Int32} {σ : rS} (F : w_countArguments_0 C Q a1 σ) : cI C 0 m_countArguments [.ref (co C), .int a1] σ Q := m_I (m_ent _ 5) (t_countArguments_0 hC F)

theorem dX13_lookAtCalls_0 : decode cX13_lookAtCalls 0 = .ok (.iconst 0, 1) := by decide +kernel
theorem dX13_lookAtCalls_1 : decode cX13_lookAtCalls 1 = .ok (.istore_n 1, 1) := by decide +kernel
theorem dX13_lookAtCalls_2 : decode cX13_lookAtCalls 2 = .ok (.iload_n 1, 1) := by decide +kernel
theorem dX13_lookAtCalls_3 : decode cX13_lookAtCalls 3 = .ok (.aload_n 0, 1) := by decide +kernel
theorem dX13_lookAtCalls_4 : decode cX13_lookAtCalls 4 = .ok (.getfield 378, 3) := by decide +kernel
theorem dX13_lookAtCalls_7 : decode cX13_lookAtCalls 7 = .ok (.if_icmp .ge 84, 3) := by decide +kernel
theorem dX13_lookAtCalls_10 : decode cX13_lookAtCalls 10 = .ok (.aload_n 0, 1) := by decide +kernel
theorem dX13_lookAtCalls_11 : decode cX13_lookAtCalls 11 = .ok (.getfield 66, 3) := by decide +kernel
theorem dX13_lookAtCalls_14 : decode cX13_lookAtCalls 14 = .ok (.iload_n 1, 1) := by decide +kernel
theorem dX13_lookAtCalls_15 : decode cX13_lookAtCalls 15 = .ok (.iaload, 1) := by decide +kernel
theorem dX13_lookAtCalls_16 : decode cX13_lookAtCalls 16 = .ok (.iconst 5, 1) := by decide +kernel
theorem dX13_lookAtCalls_17 : decode cX13_lookAtCalls 17 = .ok (.if_icmp .ne 68, 3) := by decide +kernel
theorem dX13_lookAtCalls_20 : decode cX13_lookAtCalls 20 = .ok (.aload_n 0, 1) := by decide +kernel
theorem dX13_lookAtCalls_21 : decode cX13_lookAtCalls 21 = .ok (.invokevirtual 325, 3) := by decide +kernel
theorem dX13_lookAtCalls_24 : decode cX13_lookAtCalls 24 = .ok (.ifCond .eq 61, 3) := by decide +kernel
theorem dX13_lookAtCalls_27 : decode cX13_lookAtCalls 27 = .ok (.aload_n 0, 1) := by decide +kernel
theorem dX13_lookAtCalls_28 : decode cX13_lookAtCalls 28 = .ok (.iload_n 1, 1) := by decide +kernel
theorem dX13_lookAtCalls_29 : decode cX13_lookAtCalls 29 = .ok (.invokevirtual 510, 3) := by decide +kernel
theorem dX13_lookAtCalls_32 : decode cX13_lookAtCalls 32 = .ok (.istore_n 2, 1) := by decide +kernel
theorem dX13_lookAtCalls_33 : decode cX13_lookAtCalls 33 = .ok (.aload_n 0, 1) := by decide +kernel
theorem dX13_lookAtCalls_34 : decode cX13_lookAtCalls 34 = .ok (.iload_n 2, 1) := by decide +kernel
theorem dX13_lookAtCalls_35 : decode cX13_lookAtCalls 35 = .ok (.invokevirtual 513, 3) := by decide +kernel
theorem dX13_lookAtCalls_38 : decode cX13_lookAtCalls 38 = .ok (.istore_n 3, 1) := by decide +kernel
theorem dX13_lookAtCalls_39 : decode cX13_lookAtCalls 39 = .ok (.iload_n 3, 1) := by decide +kernel
theorem dX13_lookAtCalls_40 : decode cX13_lookAtCalls 40 = .ok (.iconst (-1), 1) := by decide +kernel
theorem dX13_lookAtCalls_41 : decode cX13_lookAtCalls 41 = .ok (.if_icmp .eq 17, 3) := by decide +kernel
theorem dX13_lookAtCalls_44 : decode cX13_lookAtCalls 44 = .ok (.aload_n 0, 1) := by decide +kernel
theorem dX13_lookAtCalls_45 : decode cX13_lookAtCalls 45 = .ok (.getfield 54, 3) := by decide +kernel
theorem dX13_lookAtCalls_48 : decode cX13_lookAtCalls 48 = .ok (.iload_n 3, 1) := by decide +kernel
theorem dX13_lookAtCalls_49 : decode cX13_lookAtCalls 49 = .ok (.iaload, 1) := by decide +kernel
theorem dX13_lookAtCalls_50 : decode cX13_lookAtCalls 50 = .ok (.aload_n 0, 1) := by decide +kernel
theorem dX13_lookAtCalls_51 : decode cX13_lookAtCalls 51 = .ok (.iload_n 2, 1) := by decide +kernel
theorem dX13_lookAtCalls_52 : decode cX13_lookAtCalls 52 = .ok (.invokevirtual 516, 3) := by decide +kernel
theorem dX13_lookAtCalls_55 : decode cX13_lookAtCalls 55 = .ok (.if_icmp .eq 19, 3) := by decide +kernel
theorem dX13_lookAtCalls_58 : decode cX13_lookAtCalls 58 = .ok (.aload_n 0, 1) := by decide +kernel
theorem dX13_lookAtCalls_59 : decode cX13_lookAtCalls 59 = .ok (.bipush 16, 2) := by decide +kernel
theorem dX13_lookAtCalls_61 : decode cX13_lookAtCalls 61 = .ok (.putfield 300, 3) := by decide +kernel
theorem dX13_lookAtCalls_64 : decode cX13_lookAtCalls 64 = .ok (.aload_n 0, 1) := by decide +kernel
theorem dX13_lookAtCalls_65 : decode cX13_lookAtCalls 65 = .ok (.aload_n 0, 1) := by decide +kernel
theorem dX13_lookAtCalls_66 : decode cX13_lookAtCalls 66 = .ok (.getfield 22, 3) := by decide +kernel
theorem dX13_lookAtCalls_69 : decode cX13_lookAtCalls 69 = .ok (.iload_n 2, 1) := by decide +kernel
theorem dX13_lookAtCalls_70 : decode cX13_lookAtCalls 70 = .ok (.iaload, 1) := by decide +kernel
theorem dX13_lookAtCalls_71 : decode cX13_lookAtCalls 71 = .ok (.putfield 303, 3) := by decide +kernel
theorem dX13_lookAtCalls_74 : decode cX13_lookAtCalls 74 = .ok (.aload_n 0, 1) := by decide +kernel
theorem dX13_lookAtCalls_75 : decode cX13_lookAtCalls 75 = .ok (.getfield 93, 3) := by decide +kernel
theorem dX13_lookAtCalls_78 : decode cX13_lookAtCalls 78 = .ok (.iload_n 2, 1) := by decide +kernel
theorem dX13_lookAtCalls_79 : decode cX13_lookAtCalls 79 = .ok (.sipush 300, 3) := by decide +kernel
theorem dX13_lookAtCalls_82 : decode cX13_lookAtCalls 82 = .ok (.iload_n 3, 1) := by decide +kernel
theorem dX13_lookAtCalls_83 : decode cX13_lookAtCalls 83 = .ok (.iadd, 1) := by decide +kernel
theorem dX13_lookAtCalls_84 : decode cX13_lookAtCalls 84 = .ok (.iastore, 1) := by decide +kernel
theorem dX13_lookAtCalls_85 : decode cX13_lookAtCalls 85 = .ok (.iinc 1 1, 3) := by decide +kernel
theorem dX13_lookAtCalls_88 : decode cX13_lookAtCalls 88 = .ok (.goto (-86), 3) := by decide +kernel
theorem dX13_lookAtCalls_91 : decode cX13_lookAtCalls 91 = .ok (.aload_n 0, 1) := by decide +kernel
theorem dX13_lookAtCalls_92 : decode cX13_lookAtCalls 92 = .ok (.iconst (-1), 1) := by decide +kernel
theorem dX13_lookAtCalls_93 : decode cX13_lookAtCalls 93 = .ok (.putfield 487, 3) := by decide +kernel
theorem dX13_lookAtCalls_96 : decode cX13_lookAtCalls 96 = .ok (.iconst 0, 1) := by decide +kernel
theorem dX13_lookAtCalls_97 : decode cX13_lookAtCalls 97 = .ok (.istore_n 1, 1) := by decide +kernel
theorem dX13_lookAtCalls_98 : decode cX13_lookAtCalls 98 = .ok (.iload_n 1, 1) := by decide +kernel
theorem dX13_lookAtCalls_99 : decode cX13_lookAtCalls 99 = .ok (.aload_n 0, 1) := by decide +kernel
theorem dX13_lookAtCalls_100 : decode cX13_lookAtCalls 100 = .ok (.getfield 343, 3) := by decide +kernel
theorem dX13_lookAtCalls_103 : decode cX13_lookAtCalls 103 = .ok (.if_icmp .ge 70, 3) := by decide +kernel
theorem dX13_lookAtCalls_106 : decode cX13_lookAtCalls 106 = .ok (.aload_n 0, 1) := by decide +kernel
theorem dX13_lookAtCalls_107 : decode cX13_lookAtCalls 107 = .ok (.getfield 51, 3) := by decide +kernel
theorem dX13_lookAtCalls_110 : decode cX13_lookAtCalls 110 = .ok (.iload_n 1, 1) := by decide +kernel
theorem dX13_lookAtCalls_111 : decode cX13_lookAtCalls 111 = .ok (.iaload, 1) := by decide +kernel
theorem dX13_lookAtCalls_112 : decode cX13_lookAtCalls 112 = .ok (.istore_n 2, 1) := by decide +kernel
theorem dX13_lookAtCalls_113 : decode cX13_lookAtCalls 113 = .ok (.aload_n 0, 1) := by decide +kernel
theorem dX13_lookAtCalls_114 : decode cX13_lookAtCalls 114 = .ok (.aload_n 0, 1) := by decide +kernel
theorem dX13_lookAtCalls_115 : decode cX13_lookAtCalls 115 = .ok (.getfield 29, 3) := by decide +kernel
theorem dX13_lookAtCalls_118 : decode cX13_lookAtCalls 118 = .ok (.iload_n 2, 1) := by decide +kernel
theorem dX13_lookAtCalls_119 : decode cX13_lookAtCalls 119 = .ok (.laload, 1) := by decide +kernel
theorem dX13_lookAtCalls_120 : decode cX13_lookAtCalls 120 = .ok (.bipush 109, 2) := by decide +kernel
theorem dX13_lookAtCalls_122 : decode cX13_lookAtCalls 122 = .ok (.bipush 97, 2) := by decide +kernel
theorem dX13_lookAtCalls_124 : decode cX13_lookAtCalls 124 = .ok (.bipush 105, 2) := by decide +kernel
theorem dX13_lookAtCalls_126 : decode cX13_lookAtCalls 126 = .ok (.bipush 110, 2) := by decide +kernel
theorem dX13_lookAtCalls_128 : decode cX13_lookAtCalls 128 = .ok (.iconst 0, 1) := by decide +kernel
theorem dX13_lookAtCalls_129 : decode cX13_lookAtCalls 129 = .ok (.iconst 0, 1) := by decide +kernel
theorem dX13_lookAtCalls_130 : decode cX13_lookAtCalls 130 = .ok (.iconst 0, 1) := by decide +kernel
theorem dX13_lookAtCalls_131 : decode cX13_lookAtCalls 131 = .ok (.invokestatic 264, 3) := by decide +kernel
theorem dX13_lookAtCalls_134 : decode cX13_lookAtCalls 134 = .ok (.lcmp, 1) := by decide +kernel
theorem dX13_lookAtCalls_135 : decode cX13_lookAtCalls 135 = .ok (.ifCond .ne 25, 3) := by decide +kernel
theorem dX13_lookAtCalls_138 : decode cX13_lookAtCalls 138 = .ok (.aload_n 0, 1) := by decide +kernel
theorem dX13_lookAtCalls_139 : decode cX13_lookAtCalls 139 = .ok (.getfield 33, 3) := by decide +kernel
theorem dX13_lookAtCalls_142 : decode cX13_lookAtCalls 142 = .ok (.iload_n 2, 1) := by decide +kernel
theorem dX13_lookAtCalls_143 : decode cX13_lookAtCalls 143 = .ok (.iaload, 1) := by decide +kernel
theorem dX13_lookAtCalls_144 : decode cX13_lookAtCalls 144 = .ok (.ifCond .ne 16, 3) := by decide +kernel
theorem dX13_lookAtCalls_147 : decode cX13_lookAtCalls 147 = .ok (.aload_n 0, 1) := by decide +kernel
theorem dX13_lookAtCalls_148 : decode cX13_lookAtCalls 148 = .ok (.getfield 54, 3) := by decide +kernel
theorem dX13_lookAtCalls_151 : decode cX13_lookAtCalls 151 = .ok (.iload_n 1, 1) := by decide +kernel
theorem dX13_lookAtCalls_152 : decode cX13_lookAtCalls 152 = .ok (.iaload, 1) := by decide +kernel
theorem dX13_lookAtCalls_153 : decode cX13_lookAtCalls 153 = .ok (.ifCond .ne 7, 3) := by decide +kernel
theorem dX13_lookAtCalls_156 : decode cX13_lookAtCalls 156 = .ok (.iload_n 1, 1) := by decide +kernel
theorem dX13_lookAtCalls_157 : decode cX13_lookAtCalls 157 = .ok (.goto 7, 3) := by decide +kernel
theorem dX13_lookAtCalls_160 : decode cX13_lookAtCalls 160 = .ok (.aload_n 0, 1) := by decide +kernel
theorem dX13_lookAtCalls_161 : decode cX13_lookAtCalls 161 = .ok (.getfield 487, 3) := by decide +kernel
theorem dX13_lookAtCalls_164 : decode cX13_lookAtCalls 164 = .ok (.putfield 487, 3) := by decide +kernel
theorem dX13_lookAtCalls_167 : decode cX13_lookAtCalls 167 = .ok (.iinc 1 1, 3) := by decide +kernel
theorem dX13_lookAtCalls_170 : decode cX13_lookAtCalls 170 = .ok (.goto (-72), 3) := by decide +kernel
theorem dX13_lookAtCalls_173 : decode cX13_lookAtCalls 173 = .ok (.aload_n 0, 1) := by decide +kernel
theorem dX13_lookAtCalls_174 : decode cX13_lookAtCalls 174 = .ok (.invokevirtual 325, 3) := by decide +kernel
theorem dX13_lookAtCalls_177 : decode cX13_lookAtCalls 177 = .ok (.ifCond .eq 25, 3) := by decide +kernel
theorem dX13_lookAtCalls_180 : decode cX13_lookAtCalls 180 = .ok (.aload_n 0, 1) := by decide +kernel
theorem dX13_lookAtCalls_181 : decode cX13_lookAtCalls 181 = .ok (.getfield 487, 3) := by decide +kernel
theorem dX13_lookAtCalls_184 : decode cX13_lookAtCalls 184 = .ok (.iconst (-1), 1) := by decide +kernel
theorem dX13_lookAtCalls_185 : decode cX13_lookAtCalls 185 = .ok (.if_icmp .ne 17, 3) := by decide +kernel
theorem dX13_lookAtCalls_188 : decode cX13_lookAtCalls 188 = .ok (.aload_n 0, 1) := by decide +kernel
theorem dX13_lookAtCalls_189 : decode cX13_lookAtCalls 189 = .ok (.bipush 17, 2) := by decide +kernel
theorem dX13_lookAtCalls_191 : decode cX13_lookAtCalls 191 = .ok (.putfield 300, 3) := by decide +kernel
theorem dX13_lookAtCalls_194 : decode cX13_lookAtCalls 194 = .ok (.aload_n 0, 1) := by decide +kernel
theorem dX13_lookAtCalls_195 : decode cX13_lookAtCalls 195 = .ok (.aload_n 0, 1) := by decide +kernel
theorem dX13_lookAtCalls_196 : decode cX13_lookAtCalls 196 = .ok (.getfield 253, 3) := by decide +kernel
theorem dX13_lookAtCalls_199 : decode cX13_lookAtCalls 199 = .ok (.putfield 303, 3) := by decide +kernel
theorem dX13_lookAtCalls_202 : decode cX13_lookAtCalls 202 = .ok (.iconst 0, 1) := by decide +kernel
theorem dX13_lookAtCalls_203 : decode cX13_lookAtCalls 203 = .ok (.istore_n 1, 1) := by decide +kernel
theorem dX13_lookAtCalls_204 : decode cX13_lookAtCalls 204 = .ok (.iload_n 1, 1) := by decide +kernel
theorem dX13_lookAtCalls_205 : decode cX13_lookAtCalls 205 = .ok (.aload_n 0, 1) := by decide +kernel
theorem dX13_lookAtCalls_206 : decode cX13_lookAtCalls 206 = .ok (.getfield 378, 3) := by decide +kernel
theorem dX13_lookAtCalls_209 : decode cX13_lookAtCalls 209 = .ok (.if_icmp .ge 88, 3) := by decide +kernel
theorem dX13_lookAtCalls_212 : decode cX13_lookAtCalls 212 = .ok (.iload_n 1, 1) := by decide +kernel
theorem dX13_lookAtCalls_213 : decode cX13_lookAtCalls 213 = .ok (.istore_n 2, 1) := by decide +kernel
theorem dX13_lookAtCalls_214 : decode cX13_lookAtCalls 214 = .ok (.aload_n 0, 1) := by decide +kernel
theorem dX13_lookAtCalls_215 : decode cX13_lookAtCalls 215 = .ok (.getfield 81, 3) := by decide +kernel
theorem dX13_lookAtCalls_218 : decode cX13_lookAtCalls 218 = .ok (.iload_n 2, 1) := by decide +kernel
theorem dX13_lookAtCalls_219 : decode cX13_lookAtCalls 219 = .ok (.iaload, 1) := by decide +kernel
theorem dX13_lookAtCalls_220 : decode cX13_lookAtCalls 220 = .ok (.iconst (-1), 1) := by decide +kernel
theorem dX13_lookAtCalls_221 : decode cX13_lookAtCalls 221 = .ok (.if_icmp .ne 39, 3) := by decide +kernel
theorem dX13_lookAtCalls_224 : decode cX13_lookAtCalls 224 = .ok (.aload_n 0, 1) := by decide +kernel
theorem dX13_lookAtCalls_225 : decode cX13_lookAtCalls 225 = .ok (.getfield 84, 3) := by decide +kernel
theorem dX13_lookAtCalls_228 : decode cX13_lookAtCalls 228 = .ok (.iload_n 2, 1) := by decide +kernel
theorem dX13_lookAtCalls_229 : decode cX13_lookAtCalls 229 = .ok (.iaload, 1) := by decide +kernel
theorem dX13_lookAtCalls_230 : decode cX13_lookAtCalls 230 = .ok (.iconst (-1), 1) := by decide +kernel
theorem dX13_lookAtCalls_231 : decode cX13_lookAtCalls 231 = .ok (.if_icmp .eq 29, 3) := by decide +kernel
theorem dX13_lookAtCalls_234 : decode cX13_lookAtCalls 234 = .ok (.aload_n 0, 1) := by decide +kernel
theorem dX13_lookAtCalls_235 : decode cX13_lookAtCalls 235 = .ok (.getfield 66, 3) := by decide +kernel
theorem dX13_lookAtCalls_238 : decode cX13_lookAtCalls 238 = .ok (.aload_n 0, 1) := by decide +kernel
theorem dX13_lookAtCalls_239 : decode cX13_lookAtCalls 239 = .ok (.getfield 84, 3) := by decide +kernel
theorem dX13_lookAtCalls_242 : decode cX13_lookAtCalls 242 = .ok (.iload_n 2, 1) := by decide +kernel
theorem dX13_lookAtCalls_243 : decode cX13_lookAtCalls 243 = .ok (.iaload, 1) := by decide +kernel
theorem dX13_lookAtCalls_244 : decode cX13_lookAtCalls 244 = .ok (.iaload, 1) := by decide +kernel
theorem dX13_lookAtCalls_245 : decode cX13_lookAtCalls 245 = .ok (.bipush 6, 2) := by decide +kernel
theorem dX13_lookAtCalls_247 : decode cX13_lookAtCalls 247 = .ok (.if_icmp .ne 13, 3) := by decide +kernel
theorem dX13_lookAtCalls_250 : decode cX13_lookAtCalls 250 = .ok (.aload_n 0, 1) := by decide +kernel
theorem dX13_lookAtCalls_251 : decode cX13_lookAtCalls 251 = .ok (.getfield 84, 3) := by decide +kernel
theorem dX13_lookAtCalls_254 : decode cX13_lookAtCalls 254 = .ok (.iload_n 2, 1) := by decide +kernel
theorem dX13_lookAtCalls_255 : decode cX13_lookAtCalls 255 = .ok (.iaload, 1) := by decide +kernel
theorem dX13_lookAtCalls_256 : decode cX13_lookAtCalls 256 = .ok (.istore_n 2, 1) := by decide +kernel
theorem dX13_lookAtCalls_257 : decode cX13_lookAtCalls 257 = .ok (.goto (-43), 3) := by decide +kernel
theorem dX13_lookAtCalls_260 : decode cX13_lookAtCalls 260 = .ok (.aload_n 0, 1) := by decide +kernel
theorem dX13_lookAtCalls_261 : decode cX13_lookAtCalls 261 = .ok (.getfield 87, 3) := by decide +kernel
theorem dX13_lookAtCalls_264 : decode cX13_lookAtCalls 264 = .ok (.iload_n 1, 1) := by decide +kernel
theorem dX13_lookAtCalls_265 : decode cX13_lookAtCalls 265 = .ok (.aload_n 0, 1) := by decide +kernel
theorem dX13_lookAtCalls_266 : decode cX13_lookAtCalls 266 = .ok (.getfield 81, 3) := by decide +kernel
theorem dX13_lookAtCalls_269 : decode cX13_lookAtCalls 269 = .ok (.iload_n 2, 1) := by decide +kernel
theorem dX13_lookAtCalls_270 : decode cX13_lookAtCalls 270 = .ok (.iaload, 1) := by decide +kernel
theorem dX13_lookAtCalls_271 : decode cX13_lookAtCalls 271 = .ok (.iconst (-1), 1) := by decide +kernel
theorem dX13_lookAtCalls_272 : decode cX13_lookAtCalls 272 = .ok (.if_icmp .eq 12, 3) := by decide +kernel
theorem dX13_lookAtCalls_275 : decode cX13_lookAtCalls 275 = .ok (.aload_n 0, 1) := by decide +kernel
theorem dX13_lookAtCalls_276 : decode cX13_lookAtCalls 276 = .ok (.getfield 81, 3) := by decide +kernel
theorem dX13_lookAtCalls_279 : decode cX13_lookAtCalls 279 = .ok (.iload_n 2, 1) := by decide +kernel
theorem dX13_lookAtCalls_280 : decode cX13_lookAtCalls 280 = .ok (.iaload, 1) := by decide +kernel
theorem dX13_lookAtCalls_281 : decode cX13_lookAtCalls 281 = .ok (.goto 9, 3) := by decide +kernel
theorem dX13_lookAtCalls_284 : decode cX13_lookAtCalls 284 = .ok (.aload_n 0, 1) := by decide +kernel
theorem dX13_lookAtCalls_285 : decode cX13_lookAtCalls 285 = .ok (.getfield 84, 3) := by decide +kernel
theorem dX13_lookAtCalls_288 : decode cX13_lookAtCalls 288 = .ok (.iload_n 2, 1) := by decide +kernel
theorem dX13_lookAtCalls_289 : decode cX13_lookAtCalls 289 = .ok (.iaload, 1) := by decide +kernel
theorem dX13_lookAtCalls_290 : decode cX13_lookAtCalls 290 = .ok (.iastore, 1) := by decide +kernel
theorem dX13_lookAtCalls_291 : decode cX13_lookAtCalls 291 = .ok (.iinc 1 1, 3) := by decide +kernel
theorem dX13_lookAtCalls_294 : decode cX13_lookAtCalls 294 = .ok (.goto (-90), 3) := by decide +kernel
theorem dX13_lookAtCalls_297 : decode cX13_lookAtCalls 297 = .ok (.return_, 1) := by decide +kernel
def w_lookAtCalls_74 (C : rCx) (Q : rS → Prop) (B2 : Int32 → rS → Prop) (a1 : Int32) (a2 : Int32) (a3 : Int32) (σ : rS) : Prop :=
  inb a2 131074 ∧
  ∀ σ1, σ1 = riU σ 39 (a2).toNatClampNeg ((300 : Int32) + a3) →
  ∀ v1_2 : Int32, v1_2 = a1 + (1 : Int32) →
  B2 v1_2 σ1
theorem t_lookAtCalls_74 {C : rCx} (hC : cOK C) {Q : rS → Prop} {B2 : Int32 → rS → Prop} (hB2 : ∀ a1' τ, B2 a1' τ → wG C 2 m_lookAtCalls 2 [some (.ref (co C)), some (.int a1'), none, none] [] τ (qV Q)) {a1 : Int32} {a2 : Int32} {a3 : Int32} {σ : rS} (F : w_lookAtCalls_74 C Q B2 a1 a2 a3 σ) : wG C 2 m_lookAtCalls 74 [some (.ref (co C)), some (.int a1), some (.int a2), some (.int a3)] [] σ (qV Q) := by
  unfold w_lookAtCalls_74 at F
  refine s_aln dX13_lookAtCalls_74 rfl ?_
  refine gf_93 dX13_lookAtCalls_75 rfl ?_
  refine s_iln dX13_lookAtCalls_78 rfl ?_
  refine s_si dX13_lookAtCalls_79 ks_300 ?_
  refine s_iln dX13_lookAtCalls_82 rfl ?_
  refine s_iadd dX13_lookAtCalls_83 ?_
  refine s_astb hC dX13_lookAtCalls_84 rt_39 F.1 (fun σ1 eσ1 => ?_)
  replace F := F.2 σ1 eσ1
  refine s_incb dX13_lookAtCalls_85 ki_1 rfl (Nat.le_of_ble_eq_true rfl) (fun v1_2 ev1_2 => ?_)
  replace F := F v1_2 ev1_2
  refine s_goto (t := 2) dX13_lookAtCalls_88 rfl ?_
  exact s_k (hB2 _ _ F) ⟨rfl, rfl, trivial⟩

def w_lookAtCalls_58 (C : rCx) (Q : rS → Prop) (B2 : Int32 → rS → Prop) (a1 : Int32) (a2 : Int32) (a3 : Int32) (σ : rS) : Prop :=
  ∀ σ1, σ1 = siU σ 11 (16 : Int32) →
  inb a2 131074 ∧
  ∀ σ2, σ2 = siU σ1 12 (σ1.2.2.1 6 (a2).toNatClampNeg) →
  w_lookAtCalls_74 C Q B2 a1 a2 a3 σ2
theorem t_lookAtCalls_58 {C : rCx} (hC : cOK C) {Q : rS → Prop} {B2 : Int32 → rS → Prop} (hB2 : ∀ a1' τ, B2 a1' τ → wG C 2 m_lookAtCalls 2 [some (.ref (co C)), some (.int a1'), none, none] [] τ (qV Q)) {a1 : Int32} {a2 : Int32} {a3 : Int32} {σ : rS} (F : w_lookAtCalls_58 C Q B2 a1 a2 a3 σ) : wG C 2 m_lookAtCalls 58 [some (.ref (co C)), some (.int a1), some (.int a2), some (.int a3)] [] σ (qV Q) := by
  unfold w_lookAtCalls_58 at F
  refine s_aln dX13_lookAtCalls_58 rfl ?_
  refine s_bi dX13_lookAtCalls_59 kb_16 ?_
  refine pf_300 hC dX13_lookAtCalls_61 rfl (fun σ1 eσ1 => ?_)
  replace F := F σ1 eσ1
  refine s_aln dX13_lookAtCalls_64 rfl ?_
  refine s_aln dX13_lookAtCalls_65 rfl ?_
  refine gf_22 dX13_lookAtCalls_66 rfl ?_
  refine s_iln dX13_lookAtCalls_69 rfl ?_
  refine s_ald hC dX13_lookAtCalls_70 rt_6 F.1 ?_
  replace F := F.2
  refine pf_303 hC dX13_lookAtCalls_71 rfl (fun σ2 eσ2 => ?_)
  replace F := F σ2 eσ2
  exact s_k (t_lookAtCalls_74 hC hB2 F) ⟨rfl, rfl, rfl, rfl, trivial⟩

def w_lookAtCalls_164 (C : rCx) (Q : rS → Prop) (B98 : Int32 → rS → Prop) (a1 : Int32) (s1 : Int32) (σ : rS) : Prop :=
  ∀ σ1, σ1 = siU σ 40 s1 →
  ∀ v1_2 : Int32, v1_2 = a1 + (1 : Int32) →
  B98 v1_2 σ1
theorem t_lookAtCalls_164 {C : rCx} (hC : cOK C) {Q : rS → Prop} {B98 : Int32 → rS → Prop} (hB98 : ∀ a1' τ, B98 a1' τ → wG C 2 m_lookAtCalls 98 [some (.ref (co C)), some (.int a1'), none, none] [] τ (qV Q)) {a1 : Int32} {s1 : Int32} {σ : rS} (F : w_lookAtCalls_164 C Q B98 a1 s1 σ) : wG C 2 m_lookAtCalls 164 [some (.ref (co C)), some (.int a1), none, none] [.int s1, .ref (co C)] σ (qV Q) := by
  unfold w_lookAtCalls_164 at F
  refine pf_487 hC dX13_lookAtCalls_164 rfl (fun σ1 eσ1 => ?_)
  replace F := F σ1 eσ1
  refine s_incb dX13_lookAtCalls_167 ki_1 rfl (Nat.le_of_ble_eq_true rfl) (fun v1_2 ev1_2 => ?_)
  replace F := F v1_2 ev1_2
  refine s_goto (t := 98) dX13_lookAtCalls_170 rfl ?_
  exact s_k (hB98 _ _ F) ⟨rfl, rfl, trivial⟩

def w_lookAtCalls_290 (C : rCx) (Q : rS → Prop) (B204 : Int32 → rS → Prop) (a1 : Int32) (s1 : Int32) (s2 : Int32) (σ : rS) : Prop :=
  inb s1 150 ∧
  ∀ σ1, σ1 = riU σ 37 (s1).toNatClampNeg s2 →
  ∀ v1_2 : Int32, v1_2 = a1 + (1 : Int32) →
  B204 v1_2 σ1
theorem t_lookAtCalls_290 {C : rCx} (hC : cOK C) {Q : rS → Prop} {B204 : Int32 → rS → Prop} (hB204 : ∀ a1' τ, B204 a1' τ → wG C 2 m_lookAtCalls 204 [some (.ref (co C)), some (.int a1'), none, none] [] τ (qV Q)) {a1 : Int32} {s1 : Int32} {s2 : Int32} {σ : rS} (F : w_lookAtCalls_290 C Q B204 a1 s1 s2 σ) : wG C 2 m_lookAtCalls 290 [some (.ref (co C)), some (.int a1), none, none] [.int s2, .int s1, .ref (cad C 37)] σ (qV Q) := by
  unfold w_lookAtCalls_290 at F
  refine s_astb hC dX13_lookAtCalls_290 rt_37 F.1 (fun σ1 eσ1 => ?_)
  replace F := F.2 σ1 eσ1
  refine s_incb dX13_lookAtCalls_291 ki_1 rfl (Nat.le_of_ble_eq_true rfl) (fun v1_2 ev1_2 => ?_)
  replace F := F v1_2 ev1_2
  refine s_goto (t := 204) dX13_lookAtCalls_294 rfl ?_
  exact s_k (hB204 _ _ F) ⟨rfl, rfl, trivial⟩

def w_lookAtCalls_260 (C : rCx) (Q : rS → Prop) (B204 : Int32 → rS → Prop) (a1 : Int32) (a2 : Int32) (σ : rS) : Prop :=
  inb a2 150 ∧
  ((σ.2.2.1 35 (a2).toNatClampNeg) = (-1 : Int32) →
    inb a2 150 ∧
    w_lookAtCalls_290 C Q B204 a1 a1 (σ.2.2.1 36 (a2).toNatClampNeg) σ) ∧
  (¬ ((σ.2.2.1 35 (a2).toNatClampNeg) = (-1 : Int32)) →
    inb a2 150 ∧
    w_lookAtCalls_290 C Q B204 a1 a1 (σ.2.2.1 35 (a2).toNatClampNeg) σ)
theorem t_lookAtCalls_260 {C : rCx} (hC : cOK C) {Q : rS → Prop} {B204 : Int32 → rS → Prop} (hB204 : ∀ a1' τ, B204 a1' τ → wG C 2 m_lookAtCalls 204 [some (.ref (co C)), some (.int a1'), none, none] [] τ (qV Q)) {a1 : Int32} {a2 : Int32} {σ : rS} (F : w_lookAtCalls_260 C Q B204 a1 a2 σ) : wG C 2 m_lookAtCalls 260 [some (.ref (co C)), some (.int a1), some (.int a2), none] [] σ (qV Q) := by
  unfold w_lookAtCalls_260 at F
  refine s_aln dX13_lookAtCalls_260 rfl ?_
  refine gf_87 dX13_lookAtCalls_261 rfl ?_
  refine s_iln dX13_lookAtCalls_264 rfl ?_
  refine s_aln dX13_lookAtCalls_265 rfl ?_
  refine gf_81 dX13_lookAtCalls_266 rfl ?_
  refine s_iln dX13_lookAtCalls_269 rfl ?_
  refine s_ald hC dX13_lookAtCalls_270 rt_35 F.1 ?_
  replace F := F.2
  refine s_ic dX13_lookAtCalls_271 ki_m1 ?_
  refine s_ii (t := 284) ((σ.2.2.1 35 (a2).toNatClampNeg) = (-1 : Int32)) dX13_lookAtCalls_272 rfl rfl (fun hc => ?_) (fun hc => ?_)
  · replace F := F.1 hc
    refine s_aln dX13_lookAtCalls_284 rfl ?_
    refine gf_84 dX13_lookAtCalls_285 rfl ?_
    refine s_iln dX13_lookAtCalls_288 rfl ?_
    refine s_ald hC dX13_lookAtCalls_289 rt_36 F.1 ?_
    replace F := F.2
    exact s_k (t_lookAtCalls_290 hC hB204 F) ⟨rfl, rfl, trivial⟩
  · replace F := F.2 hc
    refine s_aln dX13_lookAtCalls_275 rfl ?_
    refine gf_81 dX13_lookAtCalls_276 rfl ?_
    refine s_iln dX13_lookAtCalls_279 rfl ?_
    refine s_ald hC dX13_lookAtCalls_280 rt_35 F.1 ?_
    replace F := F.2
    refine s_goto (t := 290) dX13_lookAtCalls_281 rfl ?_
    exact s_k (t_lookAtCalls_290 hC hB204 F) ⟨rfl, rfl, trivial⟩

def w_lookAtCalls_214 (C : rCx) (Q : rS → Prop) (B204 : Int32 → rS → Prop) (a1 : Int32) (a2 : Int32) (σ : rS) : Prop :=
  ∃ I : Nat → Int32 → Int32 → rS → Prop, (∃ n, I n a1 a2 σ) ∧ ∀ n a1 a2 σ, I n a1 a2 σ →
    inb a2 150 ∧
    (¬ ((σ.2.2.1 35 (a2).toNatClampNeg) = (-1 : Int32)) →
      w_lookAtCalls_260 C Q B204 a1 a2 σ) ∧
    ((σ.2.2.1 35 (a2).toNatClampNeg) = (-1 : Int32) →
      inb a2 150 ∧
      ((σ.2.2.1 36 (a2).toNatClampNeg) = (-1 : Int32) →
        w_lookAtCalls_260 C Q B204 a1 a2 σ) ∧
      (¬ ((σ.2.2.1 36 (a2).toNatClampNeg) = (-1 : Int32)) →
        inb a2 150 ∧
        inb (σ.2.2.1 36 (a2).toNatClampNeg) 150 ∧
        (¬ ((σ.2.2.1 30 ((σ.2.2.1 36 (a2).toNatClampNeg)).toNatClampNeg) = (6 : Int32)) →
          w_lookAtCalls_260 C Q B204 a1 a2 σ) ∧
        ((σ.2.2.1 30 ((σ.2.2.1 36 (a2).toNatClampNeg)).toNatClampNeg) = (6 : Int32) →
          inb a2 150 ∧
          ∀ v2_1 : Int32, v2_1 = (σ.2.2.1 36 (a2).toNatClampNeg) →
          ∃ k < n, I k a1 v2_1 σ)))
theorem t_lookAtCalls_214 {C : rCx} (hC : cOK C) {Q : rS → Prop} {B204 : Int32 → rS → Prop} (hB204 : ∀ a1' τ, B204 a1' τ → wG C 2 m_lookAtCalls 204 [some (.ref (co C)), some (.int a1'), none, none] [] τ (qV Q)) {a1 : Int32} {a2 : Int32} {σ : rS} (F : w_lookAtCalls_214 C Q B204 a1 a2 σ) : wG C 2 m_lookAtCalls 214 [some (.ref (co C)), some (.int a1), some (.int a2), none] [] σ (qV Q) := by
  obtain ⟨I, ⟨n0, hI0⟩, F0⟩ := F
  have key : ∀ n a1 a2 σ, I n a1 a2 σ → wG C 2 m_lookAtCalls 214 [some (.ref (co C)), some (.int a1), some (.int a2), none] [] σ (qV Q) := by
    intro n
    induction n using Nat.strongRecOn with
    | _ n ih =>
      intro a1 a2 σ hI
      have F := F0 n a1 a2 σ hI
      clear hI hI0
      refine s_aln dX13_lookAtCalls_214 rfl ?_
      refine gf_81 dX13_lookAtCalls_215 rfl ?_
      refine s_iln dX13_lookAtCalls_218 rfl ?_
      refine s_ald hC dX13_lookAtCalls_219 rt_35 F.1 ?_
      replace F := F.2
      refine s_ic dX13_lookAtCalls_220 ki_m1 ?_
      refine s_iin (t := 260) ((σ.2.2.1 35 (a2).toNatClampNeg) = (-1 : Int32)) dX13_lookAtCalls_221 rfl rfl (fun hc => ?_) (fun hc => ?_)
      · replace F := F.1 hc
        exact s_k (t_lookAtCalls_260 hC hB204 F) ⟨rfl, rfl, rfl, trivial⟩
      · replace F := F.2 hc
        refine s_aln dX13_lookAtCalls_224 rfl ?_
        refine gf_84 dX13_lookAtCalls_225 rfl ?_
        refine s_iln dX13_lookAtCalls_228 rfl ?_
        refine s_ald hC dX13_lookAtCalls_229 rt_36 F.1 ?_
        replace F := F.2
        refine s_ic dX13_lookAtCalls_230 ki_m1 ?_
        refine s_ii (t := 260) ((σ.2.2.1 36 (a2).toNatClampNeg) = (-1 : Int32)) dX13_lookAtCalls_231 rfl rfl (fun hc => ?_) (fun hc => ?_)
        · replace F := F.1 hc
          exact s_k (t_lookAtCalls_260 hC hB204 F) ⟨rfl, rfl, rfl, trivial⟩
        · replace F := F.2 hc
          refine s_aln dX13_lookAtCalls_234 rfl ?_
          refine gf_66 dX13_lookAtCalls_235 rfl ?_
          refine s_aln dX13_lookAtCalls_238 rfl ?_
          refine gf_84 dX13_lookAtCalls_239 rfl ?_
          refine s_iln dX13_lookAtCalls_242 rfl ?_
          refine s_ald hC dX13_lookAtCalls_243 rt_36 F.1 ?_
          replace F := F.2
          refine s_ald hC dX13_lookAtCalls_244 rt_30 F.1 ?_
          replace F := F.2
          refine s_bi dX13_lookAtCalls_245 kb_6 ?_
          refine s_iin (t := 260) ((σ.2.2.1 30 ((σ.2.2.1 36 (a2).toNatClampNeg)).toNatClampNeg) = (6 : Int32)) dX13_lookAtCalls_247 rfl rfl (fun hc => ?_) (fun hc => ?_)
          · replace F := F.1 hc
            exact s_k (t_lookAtCalls_260 hC hB204 F) ⟨rfl, rfl, rfl, trivial⟩
          · replace F := F.2 hc
            refine s_aln dX13_lookAtCalls_250 rfl ?_
            refine gf_84 dX13_lookAtCalls_251 rfl ?_
            refine s_iln dX13_lookAtCalls_254 rfl ?_
            refine s_ald hC dX13_lookAtCalls_255 rt_36 F.1 ?_
            replace F := F.2
            refine s_isnb dX13_lookAtCalls_256 (Nat.le_of_ble_eq_true rfl) (fun v2_1 ev2_1 => ?_)
            replace F := F v2_1 ev2_1
            refine s_goto (t := 214) dX13_lookAtCalls_257 rfl ?_
            obtain ⟨k, hk, hI⟩ := F
            exact s_k (ih k hk _ _ _ hI) ⟨rfl, rfl, rfl, trivial⟩
  exact key n0 a1 a2 σ hI0

def w_lookAtCalls_204 (C : rCx) (Q : rS → Prop)  (a1 : Int32) (σ : rS) : Prop :=
  ∃ I : Nat → Int32 → rS → Prop, (∃ n, I n a1 σ) ∧ ∀ n a1 σ, I n a1 σ →
    ((σ.1 19) ≤ a1 →
      Q σ) ∧
    (¬ ((σ.1 19) ≤ a1) →
      w_lookAtCalls_214 C Q (fun a1' τ => ∃ k < n, I k a1' τ) a1 a1 σ)
theorem t_lookAtCalls_204 {C : rCx} (hC : cOK C) {Q : rS → Prop}   {a1 : Int32} {σ : rS} (F : w_lookAtCalls_204 C Q  a1 σ) : wG C 2 m_lookAtCalls 204 [some (.ref (co C)), some (.int a1), none, none] [] σ (qV Q) := by
  obtain ⟨I, ⟨n0, hI0⟩, F0⟩ := F
  have key : ∀ n a1 σ, I n a1 σ → wG C 2 m_lookAtCalls 204 [some (.ref (co C)), some (.int a1), none, none] [] σ (qV Q) := by
    intro n
    induction n using Nat.strongRecOn with
    | _ n ih =>
      intro a1 σ hI
      have F := F0 n a1 σ hI
      clear hI hI0
      refine s_iln dX13_lookAtCalls_204 rfl ?_
      refine s_aln dX13_lookAtCalls_205 rfl ?_
      refine gf_378 dX13_lookAtCalls_206 rfl ?_
      refine s_ii (t := 297) ((σ.1 19) ≤ a1) dX13_lookAtCalls_209 rfl rfl (fun hc => ?_) (fun hc => ?_)
      · replace F := F.1 hc
        exact s_rv dX13_lookAtCalls_297 rfl F
      · replace F := F.2 hc
        refine s_iln dX13_lookAtCalls_212 rfl ?_
        refine s_isn dX13_lookAtCalls_213 (Nat.le_of_ble_eq_true rfl) rfl ?_
        exact s_k (t_lookAtCalls_214 hC (fun a1' τ hb => by obtain ⟨k, hk, hI⟩ := hb; exact ih k hk a1' τ hI) F) ⟨rfl, rfl, rfl, trivial⟩
  exact key n0 a1 σ hI0

def w_lookAtCalls_98 (C : rCx) (Q : rS → Prop)  (a1 : Int32) (σ : rS) : Prop :=
  ∃ I : Nat → Int32 → rS → Prop, (∃ n, I n a1 σ) ∧ ∀ n a1 σ, I n a1 σ →
    ((σ.1 18) ≤ a1 →
      cI C 0 m_isRight [.ref (co C)] σ (fun r2 σ1 =>
        (r2 = 0 →
          w_lookAtCalls_204 C Q  (0 : Int32) σ1) ∧
        (¬ (r2 = 0) →
          (¬ ((σ1.1 40) = (-1 : Int32)) →
            w_lookAtCalls_204 C Q  (0 : Int32) σ1) ∧
          ((σ1.1 40) = (-1 : Int32) →
            ∀ σ3, σ3 = siU σ1 11 (17 : Int32) →
            ∀ σ4, σ4 = siU σ3 12 (σ3.1 2) →
            w_lookAtCalls_204 C Q  (0 : Int32) σ4)))) ∧
    (¬ ((σ.1 18) ≤ a1) →
      inb a1 10 ∧
      ∀ v2_5 : Int32, v2_5 = (σ.2.2.1 25 (a1).toNatClampNeg) →
      inb v2_5 131074 ∧
      cJ C 0 m_word [.int (109 : Int32), .int (97 : Int32), .int (105 : Int32), .int (110 : Int32), .int (0 : Int32), .int (0 : Int32), .int (0 : Int32)] σ (fun r7 σ6 =>
        (¬ ((lg_cmp (σ.2.2.2 8 (v2_5).toNatClampNeg) r7) = 0) →
          w_lookAtCalls_164 C Q (fun a1' τ => ∃ k < n, I k a1' τ) a1 (σ6.1 40) σ6) ∧
        ((lg_cmp (σ.2.2.2 8 (v2_5).toNatClampNeg) r7) = 0 →
          inb v2_5 131074 ∧
          (¬ ((σ6.2.2.1 9 (v2_5).toNatClampNeg) = 0) →
            w_lookAtCalls_164 C Q (fun a1' τ => ∃ k < n, I k a1' τ) a1 (σ6.1 40) σ6) ∧
          ((σ6.2.2.1 9 (v2_5).toNatClampNeg) = 0 →
            inb a1 10 ∧
            (¬ ((σ6.2.2.1 26 (a1).toNatClampNeg) = 0) →
              w_lookAtCalls_164 C Q (fun a1' τ => ∃ k < n, I k a1' τ) a1 (σ6.1 40) σ6) ∧
            ((σ6.2.2.1 26 (a1).toNatClampNeg) = 0 →
              w_lookAtCalls_164 C Q (fun a1' τ => ∃ k < n, I k a1' τ) a1 a1 σ6)))))
theorem t_lookAtCalls_98 {C : rCx} (hC : cOK C) {Q : rS → Prop}   {a1 : Int32} {σ : rS} (F : w_lookAtCalls_98 C Q  a1 σ) : wG C 2 m_lookAtCalls 98 [some (.ref (co C)), some (.int a1), none, none] [] σ (qV Q) := by
  obtain ⟨I, ⟨n0, hI0⟩, F0⟩ := F
  have key : ∀ n a1 σ, I n a1 σ → wG C 2 m_lookAtCalls 98 [some (.ref (co C)), some (.int a1), none, none] [] σ (qV Q) := by
    intro n
    induction n using Nat.strongRecOn with
    | _ n ih =>
      intro a1 σ hI
      have F := F0 n a1 σ hI
      clear hI hI0
      refine s_iln dX13_lookAtCalls_98 rfl ?_
      refine s_aln dX13_lookAtCalls_99 rfl ?_
      refine gf_343 dX13_lookAtCalls_100 rfl ?_
      refine s_ii (t := 173) ((σ.1 18) ≤ a1) dX13_lookAtCalls_103 rfl rfl (fun hc => ?_) (fun hc => ?_)
      · replace F := F.1 hc
        refine s_aln dX13_lookAtCalls_173 rfl ?_
        refine k_325 dX13_lookAtCalls_174 rfl (Nat.le_of_ble_eq_true rfl) (Nat.le_of_ble_eq_true rfl) F (fun r2 σ1 F => ?_)
        refine s_i (t := 202) (r2 = 0) dX13_lookAtCalls_177 rfl rfl (fun hc => ?_) (fun hc => ?_)
        · replace F := F.1 hc
          refine s_ic dX13_lookAtCalls_202 ki_0 ?_
          refine s_isn dX13_lookAtCalls_203 (Nat.le_of_ble_eq_true rfl) rfl ?_
          exact s_k (t_lookAtCalls_204 hC  F) ⟨rfl, rfl, trivial⟩
        · replace F := F.2 hc
          refine s_aln dX13_lookAtCalls_180 rfl ?_
          refine gf_487 dX13_lookAtCalls_181 rfl ?_
          refine s_ic dX13_lookAtCalls_184 ki_m1 ?_
          refine s_iin (t := 202) ((σ1.1 40) = (-1 : Int32)) dX13_lookAtCalls_185 rfl rfl (fun hc => ?_) (fun hc => ?_)
          · replace F := F.1 hc
            refine s_ic dX13_lookAtCalls_202 ki_0 ?_
            refine s_isn dX13_lookAtCalls_203 (Nat.le_of_ble_eq_true rfl) rfl ?_
            exact s_k (t_lookAtCalls_204 hC  F) ⟨rfl, rfl, trivial⟩
          · replace F := F.2 hc
            refine s_aln dX13_lookAtCalls_188 rfl ?_
            refine s_bi dX13_lookAtCalls_189 kb_17 ?_
            refine pf_300 hC dX13_lookAtCalls_191 rfl (fun σ3 eσ3 => ?_)
            replace F := F σ3 eσ3
            refine s_aln dX13_lookAtCalls_194 rfl ?_
            refine s_aln dX13_lookAtCalls_195 rfl ?_
            refine gf_253 dX13_lookAtCalls_196 rfl ?_
            refine pf_303 hC dX13_lookAtCalls_199 rfl (fun σ4 eσ4 => ?_)
            replace F := F σ4 eσ4
            refine s_ic dX13_lookAtCalls_202 ki_0 ?_
            refine s_isn dX13_lookAtCalls_203 (Nat.le_of_ble_eq_true rfl) rfl ?_
            exact s_k (t_lookAtCalls_204 hC  F) ⟨rfl, rfl, trivial⟩
      · replace F := F.2 hc
        refine s_aln dX13_lookAtCalls_106 rfl ?_
        refine gf_51 dX13_lookAtCalls_107 rfl ?_
        refine s_iln dX13_lookAtCalls_110 rfl ?_
        refine s_ald hC dX13_lookAtCalls_111 rt_25 F.1 ?_
        replace F := F.2
        refine s_isnb dX13_lookAtCalls_112 (Nat.le_of_ble_eq_true rfl) (fun v2_5 ev2_5 => ?_)
        replace F := F v2_5 ev2_5
        refine s_aln dX13_lookAtCalls_113 rfl ?_
        refine s_aln dX13_lookAtCalls_114 rfl ?_
        refine gf_29 dX13_lookAtCalls_115 rfl ?_
        refine s_iln dX13_lookAtCalls_118 rfl ?_
        refine s_lld hC dX13_lookAtCalls_119 rt_8 F.1 ?_
        replace F := F.2
        refine s_bi dX13_lookAtCalls_120 kb_109 ?_
        refine s_bi dX13_lookAtCalls_122 kb_97 ?_
        refine s_bi dX13_lookAtCalls_124 kb_105 ?_
        refine s_bi dX13_lookAtCalls_126 kb_110 ?_
        refine s_ic dX13_lookAtCalls_128 ki_0 ?_
        refine s_ic dX13_lookAtCalls_129 ki_0 ?_
        refine s_ic dX13_lookAtCalls_130 ki_0 ?_
        refine k_264 dX13_lookAtCalls_131 rfl (Nat.le_of_ble_eq_true rfl) (Nat.le_of_ble_eq_true rfl) F (fun r7 σ6 F => ?_)
        refine s_lcmp dX13_lookAtCalls_134 ?_
        refine s_in (t := 160) ((lg_cmp (σ.2.2.2 8 (v2_5).toNatClampNeg) r7) = 0) dX13_lookAtCalls_135 rfl rfl (fun hc => ?_) (fun hc => ?_)
        · replace F := F.1 hc
          refine s_aln dX13_lookAtCalls_160 rfl ?_
          refine gf_487 dX13_lookAtCalls_161 rfl ?_
          exact s_k (t_lookAtCalls_164 hC (fun a1' τ hb => by obtain ⟨k, hk, hI⟩ := hb; exact ih k hk a1' τ hI) F) ⟨rfl, rfl, trivial⟩
        · replace F := F.2 hc
          refine s_aln dX13_lookAtCalls_138 rfl ?_
          refine gf_33 dX13_lookAtCalls_139 rfl ?_
          refine s_iln dX13_lookAtCalls_142 rfl ?_
          refine s_ald hC dX13_lookAtCalls_143 rt_9 F.1 ?_
          replace F := F.2
          refine s_in (t := 160) ((σ6.2.2.1 9 (v2_5).toNatClampNeg) = 0) dX13_lookAtCalls_144 rfl rfl (fun hc => ?_) (fun hc => ?_)
          · replace F := F.1 hc
            refine s_aln dX13_lookAtCalls_160 rfl ?_
            refine gf_487 dX13_lookAtCalls_161 rfl ?_
            exact s_k (t_lookAtCalls_164 hC (fun a1' τ hb => by obtain ⟨k, hk, hI⟩ := hb; exact ih k hk a1' τ hI) F) ⟨rfl, rfl, trivial⟩
          · replace F := F.2 hc
            refine s_aln dX13_lookAtCalls_147 rfl ?_
            refine gf_54 dX13_lookAtCalls_148 rfl ?_
            refine s_iln dX13_lookAtCalls_151 rfl ?_
            refine s_ald hC dX13_lookAtCalls_152 rt_26 F.1 ?_
            replace F := F.2
            refine s_in (t := 160) ((σ6.2.2.1 26 (a1).toNatClampNeg) = 0) dX13_lookAtCalls_153 rfl rfl (fun hc => ?_) (fun hc => ?_)
            · replace F := F.1 hc
              refine s_aln dX13_lookAtCalls_160 rfl ?_
              refine gf_487 dX13_lookAtCalls_161 rfl ?_
              exact s_k (t_lookAtCalls_164 hC (fun a1' τ hb => by obtain ⟨k, hk, hI⟩ := hb; exact ih k hk a1' τ hI) F) ⟨rfl, rfl, trivial⟩
            · replace F := F.2 hc
              refine s_iln dX13_lookAtCalls_156 rfl ?_
              refine s_goto (t := 164) dX13_lookAtCalls_157 rfl ?_
              exact s_k (t_lookAtCalls_164 hC (fun a1' τ hb => by obtain ⟨k, hk, hI⟩ := hb; exact ih k hk a1' τ hI) F) ⟨rfl, rfl, trivial⟩
  exact key n0 a1 σ hI0

def w_lookAtCalls_2 (C : rCx) (Q : rS → Prop)  (a1 : Int32) (σ : rS) : Prop :=
  ∃ I : Nat → Int32 → rS → Prop, (∃ n, I n a1 σ) ∧ ∀ n a1 σ, I n a1 σ →
    ((σ.1 19) ≤ a1 →
      ∀ σ1, σ1 = siU σ 40 (-1 : Int32) →
      w_lookAtCalls_98 C Q  (0 : Int32) σ1) ∧
    (¬ ((σ.1 19) ≤ a1) →
      inb a1 150 ∧
      (¬ ((σ.2.2.1 30 (a1).toNatClampNeg) = (5 : Int32)) →
        ∀ v1_2 : Int32, v1_2 = a1 + (1 : Int32) →
        ∃ k < n, I k v1_2 σ) ∧
      ((σ.2.2.1 30 (a1).toNatClampNeg) = (5 : Int32) →
        cI C 0 m_isRight [.ref (co C)] σ (fun r4 σ3 =>
          (r4 = 0 →
            ∀ v1_5 : Int32, v1_5 = a1 + (1 : Int32) →
            ∃ k < n, I k v1_5 σ3) ∧
          (¬ (r4 = 0) →
            cI C 0 m_calledBy [.ref (co C), .int a1] σ3 (fun r7 σ6 =>
              cI C 1 m_functionOf [.ref (co C), .int r7] σ6 (fun r9 σ8 =>
                (r9 = (-1 : Int32) →
                  w_lookAtCalls_58 C Q (fun a1' τ => ∃ k < n, I k a1' τ) a1 r7 r9 σ8) ∧
                (¬ (r9 = (-1 : Int32)) →
                  inb r9 10 ∧
                  cI C 0 m_countArguments [.ref (co C), .int r7] σ8 (fun r11 σ10 =>
                    ((σ8.2.2.1 26 (r9).toNatClampNeg) = r11 →
                      w_lookAtCalls_74 C Q (fun a1' τ => ∃ k < n, I k a1' τ) a1 r7 r9 σ10) ∧
                    (¬ ((σ8.2.2.1 26 (r9).toNatClampNeg) = r11) →
                      w_lookAtCalls_58 C Q (fun a1' τ => ∃ k < n, I k a1' τ) a1 r7 r9 σ10)))))))))
theorem t_lookAtCalls_2 {C : rCx} (hC : cOK C) {Q : rS → Prop}   {a1 : Int32} {σ : rS} (F : w_lookAtCalls_2 C Q  a1 σ) : wG C 2 m_lookAtCalls 2 [some (.ref (co C)), some (.int a1), none, none] [] σ (qV Q) := by
  obtain ⟨I, ⟨n0, hI0⟩, F0⟩ := F
  have key : ∀ n a1 σ, I n a1 σ → wG C 2 m_lookAtCalls 2 [some (.ref (co C)), some (.int a1), none, none] [] σ (qV Q) := by
    intro n
    induction n using Nat.strongRecOn with
    | _ n ih =>
      intro a1 σ hI
      have F := F0 n a1 σ hI
      clear hI hI0
      refine s_iln dX13_lookAtCalls_2 rfl ?_
      refine s_aln dX13_lookAtCalls_3 rfl ?_
      refine gf_378 dX13_lookAtCalls_4 rfl ?_
      refine s_ii (t := 91) ((σ.1 19) ≤ a1) dX13_lookAtCalls_7 rfl rfl (fun hc => ?_) (fun hc => ?_)
      · replace F := F.1 hc
        refine s_aln dX13_lookAtCalls_91 rfl ?_
        refine s_ic dX13_lookAtCalls_92 ki_m1 ?_
        refine pf_487 hC dX13_lookAtCalls_93 rfl (fun σ1 eσ1 => ?_)
        replace F := F σ1 eσ1
        refine s_ic dX13_lookAtCalls_96 ki_0 ?_
        refine s_isn dX13_lookAtCalls_97 (Nat.le_of_ble_eq_true rfl) rfl ?_
        exact s_k (t_lookAtCalls_98 hC  F) ⟨rfl, rfl, trivial⟩
      · replace F := F.2 hc
        refine s_aln dX13_lookAtCalls_10 rfl ?_
        refine gf_66 dX13_lookAtCalls_11 rfl ?_
        refine s_iln dX13_lookAtCalls_14 rfl ?_
        refine s_ald hC dX13_lookAtCalls_15 rt_30 F.1 ?_
        replace F := F.2
        refine s_ic dX13_lookAtCalls_16 ki_5 ?_
        refine s_iin (t := 85) ((σ.2.2.1 30 (a1).toNatClampNeg) = (5 : Int32)) dX13_lookAtCalls_17 rfl rfl (fun hc => ?_) (fun hc => ?_)
        · replace F := F.1 hc
          refine s_incb dX13_lookAtCalls_85 ki_1 rfl (Nat.le_of_ble_eq_true rfl) (fun v1_2 ev1_2 => ?_)
          replace F := F v1_2 ev1_2
          refine s_goto (t := 2) dX13_lookAtCalls_88 rfl ?_
          obtain ⟨k, hk, hI⟩ := F
          exact s_k (ih k hk _ _ hI) ⟨rfl, rfl, trivial⟩
        · replace F := F.2 hc
          refine s_aln dX13_lookAtCalls_20 rfl ?_
          refine k_325 dX13_lookAtCalls_21 rfl (Nat.le_of_ble_eq_true rfl) (Nat.le_of_ble_eq_true rfl) F (fun r4 σ3 F => ?_)
          refine s_i (t := 85) (r4 = 0) dX13_lookAtCalls_24 rfl rfl (fun hc => ?_) (fun hc => ?_)
          · replace F := F.1 hc
            refine s_incb dX13_lookAtCalls_85 ki_1 rfl (Nat.le_of_ble_eq_true rfl) (fun v1_5 ev1_5 => ?_)
            replace F := F v1_5 ev1_5
            refine s_goto (t := 2) dX13_lookAtCalls_88 rfl ?_
            obtain ⟨k, hk, hI⟩ := F
            exact s_k (ih k hk _ _ hI) ⟨rfl, rfl, trivial⟩
          · replace F := F.2 hc
            refine s_aln dX13_lookAtCalls_27 rfl ?_
            refine s_iln dX13_lookAtCalls_28 rfl ?_
            refine k_510 dX13_lookAtCalls_29 rfl (Nat.le_of_ble_eq_true rfl) (Nat.le_of_ble_eq_true rfl) F (fun r7 σ6 F => ?_)
            refine s_isn dX13_lookAtCalls_32 (Nat.le_of_ble_eq_true rfl) rfl ?_
            refine s_aln dX13_lookAtCalls_33 rfl ?_
            refine s_iln dX13_lookAtCalls_34 rfl ?_
            refine k_513 dX13_lookAtCalls_35 rfl (Nat.le_of_ble_eq_true rfl) (Nat.le_of_ble_eq_true rfl) F (fun r9 σ8 F => ?_)
            refine s_isn dX13_lookAtCalls_38 (Nat.le_of_ble_eq_true rfl) rfl ?_
            refine s_iln dX13_lookAtCalls_39 rfl ?_
            refine s_ic dX13_lookAtCalls_40 ki_m1 ?_
            refine s_ii (t := 58) (r9 = (-1 : Int32)) dX13_lookAtCalls_41 rfl rfl (fun hc => ?_) (fun hc => ?_)
            · replace F := F.1 hc
              exact s_k (t_lookAtCalls_58 hC (fun a1' τ hb => by obtain ⟨k, hk, hI⟩ := hb; exact ih k hk a1' τ hI) F) ⟨rfl, rfl, rfl, rfl, trivial⟩
            · replace F := F.2 hc
              refine s_aln dX13_lookAtCalls_44 rfl ?_
              refine gf_54 dX13_lookAtCalls_45 rfl ?_
              refine s_iln dX13_lookAtCalls_48 rfl ?_
              refine s_ald hC dX13_lookAtCalls_49 rt_26 F.1 ?_
              replace F := F.2
              refine s_aln dX13_lookAtCalls_50 rfl ?_
              refine s_iln dX13_lookAtCalls_51 rfl ?_
              refine k_516 dX13_lookAtCalls_52 rfl (Nat.le_of_ble_eq_true rfl) (Nat.le_of_ble_eq_true rfl) F (fun r11 σ10 F => ?_)
              refine s_ii (t := 74) ((σ8.2.2.1 26 (r9).toNatClampNeg) = r11) dX13_lookAtCalls_55 rfl rfl (fun hc => ?_) (fun hc => ?_)
              · replace F := F.1 hc
                exact s_k (t_lookAtCalls_74 hC (fun a1' τ hb => by obtain ⟨k, hk, hI⟩ := hb; exact ih k hk a1' τ hI) F) ⟨rfl, rfl, rfl, rfl, trivial⟩
              · replace F := F.2 hc
                exact s_k (t_lookAtCalls_58 hC (fun a1' τ hb => by obtain ⟨k, hk, hI⟩ := hb; exact ih k hk a1' τ hI) F) ⟨rfl, rfl, rfl, rfl, trivial⟩
  exact key n0 a1 σ hI0

def w_lookAtCalls_0 (C : rCx) (Q : rS → Prop)   (σ : rS) : Prop :=
  w_lookAtCalls_2 C Q  (0 : Int32) σ
theorem t_lookAtCalls_0 {C : rCx} (hC : cOK C) {Q : rS → Prop}    {σ : rS} (F : w_lookAtCalls_0 C Q   σ) : wG C 2 m_lookAtCalls 0 [some (.ref (co C)), none, none, none] [] σ (qV Q) := by
  unfold w_lookAtCalls_0 at F
  refine s_ic dX13_lookAtCalls_0 ki_0 ?_
  refine s_isn dX13_lookAtCalls_1 (Nat.le_of_ble_eq_true rfl) rfl ?_
  exact s_k (t_lookAtCalls_2 hC  F) ⟨rfl, rfl, trivial⟩

theorem m_lookAtCalls_run {C : rCx} (hC : cOK C) {Q : rS → Prop}  {σ : rS} (F : w_lookAtCalls_0 C Q  σ) : cV C 2 m_lookAtCalls [.ref (co C)] σ Q := m_V (m_ent _ 3) (t_lookAtCalls_0 hC F)

