/-! methods of the reference: tellProgram, program, fault, store, leave, moveTo, begin, fail, workAt, findPlace, call, outcome, draw -/
theorem dX13_tellProgram_0 : decode cX13_tellProgram 0 = .ok (.aload_n 0, 1) := by decide +kernel
theorem dX13_tellProgram_1 : decode cX13_tellProgram 1 = .ok (.iconst 0, 1) := by decide +kernel
theorem dX13_tellProgram_2 : decode cX13_tellProgram 2 = .ok (.putfield 438, 3) := by decide +kernel
theorem dX13_tellProgram_5 : decode cX13_tellProgram 5 = .ok (.aload_n 0, 1) := by decide +kernel
theorem dX13_tellProgram_6 : decode cX13_tellProgram 6 = .ok (.iconst 0, 1) := by decide +kernel
theorem dX13_tellProgram_7 : decode cX13_tellProgram 7 = .ok (.putfield 428, 3) := by decide +kernel
theorem dX13_tellProgram_10 : decode cX13_tellProgram 10 = .ok (.aload_n 0, 1) := by decide +kernel
theorem dX13_tellProgram_11 : decode cX13_tellProgram 11 = .ok (.iconst 0, 1) := by decide +kernel
theorem dX13_tellProgram_12 : decode cX13_tellProgram 12 = .ok (.putfield 300, 3) := by decide +kernel
theorem dX13_tellProgram_15 : decode cX13_tellProgram 15 = .ok (.aload_n 0, 1) := by decide +kernel
theorem dX13_tellProgram_16 : decode cX13_tellProgram 16 = .ok (.iconst 0, 1) := by decide +kernel
theorem dX13_tellProgram_17 : decode cX13_tellProgram 17 = .ok (.putfield 303, 3) := by decide +kernel
theorem dX13_tellProgram_20 : decode cX13_tellProgram 20 = .ok (.aload_n 0, 1) := by decide +kernel
theorem dX13_tellProgram_21 : decode cX13_tellProgram 21 = .ok (.iconst 0, 1) := by decide +kernel
theorem dX13_tellProgram_22 : decode cX13_tellProgram 22 = .ok (.putfield 322, 3) := by decide +kernel
theorem dX13_tellProgram_25 : decode cX13_tellProgram 25 = .ok (.aload_n 0, 1) := by decide +kernel
theorem dX13_tellProgram_26 : decode cX13_tellProgram 26 = .ok (.iconst 0, 1) := by decide +kernel
theorem dX13_tellProgram_27 : decode cX13_tellProgram 27 = .ok (.putfield 333, 3) := by decide +kernel
theorem dX13_tellProgram_30 : decode cX13_tellProgram 30 = .ok (.aload_n 0, 1) := by decide +kernel
theorem dX13_tellProgram_31 : decode cX13_tellProgram 31 = .ok (.iconst 0, 1) := by decide +kernel
theorem dX13_tellProgram_32 : decode cX13_tellProgram 32 = .ok (.putfield 340, 3) := by decide +kernel
theorem dX13_tellProgram_35 : decode cX13_tellProgram 35 = .ok (.aload_n 0, 1) := by decide +kernel
theorem dX13_tellProgram_36 : decode cX13_tellProgram 36 = .ok (.iconst 0, 1) := by decide +kernel
theorem dX13_tellProgram_37 : decode cX13_tellProgram 37 = .ok (.putfield 369, 3) := by decide +kernel
theorem dX13_tellProgram_40 : decode cX13_tellProgram 40 = .ok (.aload_n 0, 1) := by decide +kernel
theorem dX13_tellProgram_41 : decode cX13_tellProgram 41 = .ok (.iconst 0, 1) := by decide +kernel
theorem dX13_tellProgram_42 : decode cX13_tellProgram 42 = .ok (.putfield 343, 3) := by decide +kernel
theorem dX13_tellProgram_45 : decode cX13_tellProgram 45 = .ok (.aload_n 0, 1) := by decide +kernel
theorem dX13_tellProgram_46 : decode cX13_tellProgram 46 = .ok (.iconst 0, 1) := by decide +kernel
theorem dX13_tellProgram_47 : decode cX13_tellProgram 47 = .ok (.putfield 378, 3) := by decide +kernel
theorem dX13_tellProgram_50 : decode cX13_tellProgram 50 = .ok (.aload_n 0, 1) := by decide +kernel
theorem dX13_tellProgram_51 : decode cX13_tellProgram 51 = .ok (.aload_n 0, 1) := by decide +kernel
theorem dX13_tellProgram_52 : decode cX13_tellProgram 52 = .ok (.getfield 281, 3) := by decide +kernel
theorem dX13_tellProgram_55 : decode cX13_tellProgram 55 = .ok (.ifCond .ne 9, 3) := by decide +kernel
theorem dX13_tellProgram_58 : decode cX13_tellProgram 58 = .ok (.ldc_w 494, 3) := by decide +kernel
theorem dX13_tellProgram_61 : decode cX13_tellProgram 61 = .ok (.goto 4, 3) := by decide +kernel
theorem dX13_tellProgram_64 : decode cX13_tellProgram 64 = .ok (.iconst 0, 1) := by decide +kernel
theorem dX13_tellProgram_65 : decode cX13_tellProgram 65 = .ok (.putfield 281, 3) := by decide +kernel
theorem dX13_tellProgram_68 : decode cX13_tellProgram 68 = .ok (.aload_n 0, 1) := by decide +kernel
theorem dX13_tellProgram_69 : decode cX13_tellProgram 69 = .ok (.invokevirtual 495, 3) := by decide +kernel
theorem dX13_tellProgram_72 : decode cX13_tellProgram 72 = .ok (.aload_n 0, 1) := by decide +kernel
theorem dX13_tellProgram_73 : decode cX13_tellProgram 73 = .ok (.aload_n 0, 1) := by decide +kernel
theorem dX13_tellProgram_74 : decode cX13_tellProgram 74 = .ok (.getfield 281, 3) := by decide +kernel
theorem dX13_tellProgram_77 : decode cX13_tellProgram 77 = .ok (.putfield 306, 3) := by decide +kernel
theorem dX13_tellProgram_80 : decode cX13_tellProgram 80 = .ok (.aload_n 0, 1) := by decide +kernel
theorem dX13_tellProgram_81 : decode cX13_tellProgram 81 = .ok (.invokevirtual 309, 3) := by decide +kernel
theorem dX13_tellProgram_84 : decode cX13_tellProgram 84 = .ok (.aload_n 0, 1) := by decide +kernel
theorem dX13_tellProgram_85 : decode cX13_tellProgram 85 = .ok (.invokevirtual 325, 3) := by decide +kernel
theorem dX13_tellProgram_88 : decode cX13_tellProgram 88 = .ok (.ifCond .eq 73, 3) := by decide +kernel
theorem dX13_tellProgram_91 : decode cX13_tellProgram 91 = .ok (.aload_n 0, 1) := by decide +kernel
theorem dX13_tellProgram_92 : decode cX13_tellProgram 92 = .ok (.getfield 19, 3) := by decide +kernel
theorem dX13_tellProgram_95 : decode cX13_tellProgram 95 = .ok (.aload_n 0, 1) := by decide +kernel
theorem dX13_tellProgram_96 : decode cX13_tellProgram 96 = .ok (.getfield 306, 3) := by decide +kernel
theorem dX13_tellProgram_99 : decode cX13_tellProgram 99 = .ok (.baload, 1) := by decide +kernel
theorem dX13_tellProgram_100 : decode cX13_tellProgram 100 = .ok (.iconst 5, 1) := by decide +kernel
theorem dX13_tellProgram_101 : decode cX13_tellProgram 101 = .ok (.if_icmp .eq 60, 3) := by decide +kernel
theorem dX13_tellProgram_104 : decode cX13_tellProgram 104 = .ok (.aload_n 0, 1) := by decide +kernel
theorem dX13_tellProgram_105 : decode cX13_tellProgram 105 = .ok (.iconst 1, 1) := by decide +kernel
theorem dX13_tellProgram_106 : decode cX13_tellProgram 106 = .ok (.invokevirtual 391, 3) := by decide +kernel
theorem dX13_tellProgram_109 : decode cX13_tellProgram 109 = .ok (.ifCond .eq 10, 3) := by decide +kernel
theorem dX13_tellProgram_112 : decode cX13_tellProgram 112 = .ok (.aload_n 0, 1) := by decide +kernel
theorem dX13_tellProgram_113 : decode cX13_tellProgram 113 = .ok (.invokevirtual 498, 3) := by decide +kernel
theorem dX13_tellProgram_116 : decode cX13_tellProgram 116 = .ok (.goto (-32), 3) := by decide +kernel
theorem dX13_tellProgram_119 : decode cX13_tellProgram 119 = .ok (.aload_n 0, 1) := by decide +kernel
theorem dX13_tellProgram_120 : decode cX13_tellProgram 120 = .ok (.iconst 2, 1) := by decide +kernel
theorem dX13_tellProgram_121 : decode cX13_tellProgram 121 = .ok (.invokevirtual 391, 3) := by decide +kernel
theorem dX13_tellProgram_124 : decode cX13_tellProgram 124 = .ok (.ifCond .eq 10, 3) := by decide +kernel
theorem dX13_tellProgram_127 : decode cX13_tellProgram 127 = .ok (.aload_n 0, 1) := by decide +kernel
theorem dX13_tellProgram_128 : decode cX13_tellProgram 128 = .ok (.invokevirtual 501, 3) := by decide +kernel
theorem dX13_tellProgram_131 : decode cX13_tellProgram 131 = .ok (.goto (-47), 3) := by decide +kernel
theorem dX13_tellProgram_134 : decode cX13_tellProgram 134 = .ok (.aload_n 0, 1) := by decide +kernel
theorem dX13_tellProgram_135 : decode cX13_tellProgram 135 = .ok (.iconst 3, 1) := by decide +kernel
theorem dX13_tellProgram_136 : decode cX13_tellProgram 136 = .ok (.invokevirtual 391, 3) := by decide +kernel
theorem dX13_tellProgram_139 : decode cX13_tellProgram 139 = .ok (.ifCond .eq 10, 3) := by decide +kernel
theorem dX13_tellProgram_142 : decode cX13_tellProgram 142 = .ok (.aload_n 0, 1) := by decide +kernel
theorem dX13_tellProgram_143 : decode cX13_tellProgram 143 = .ok (.invokevirtual 504, 3) := by decide +kernel
theorem dX13_tellProgram_146 : decode cX13_tellProgram 146 = .ok (.goto (-62), 3) := by decide +kernel
theorem dX13_tellProgram_149 : decode cX13_tellProgram 149 = .ok (.aload_n 0, 1) := by decide +kernel
theorem dX13_tellProgram_150 : decode cX13_tellProgram 150 = .ok (.iconst 2, 1) := by decide +kernel
theorem dX13_tellProgram_151 : decode cX13_tellProgram 151 = .ok (.aload_n 0, 1) := by decide +kernel
theorem dX13_tellProgram_152 : decode cX13_tellProgram 152 = .ok (.getfield 306, 3) := by decide +kernel
theorem dX13_tellProgram_155 : decode cX13_tellProgram 155 = .ok (.invokevirtual 312, 3) := by decide +kernel
theorem dX13_tellProgram_158 : decode cX13_tellProgram 158 = .ok (.goto (-74), 3) := by decide +kernel
theorem dX13_tellProgram_161 : decode cX13_tellProgram 161 = .ok (.aload_n 0, 1) := by decide +kernel
theorem dX13_tellProgram_162 : decode cX13_tellProgram 162 = .ok (.invokevirtual 325, 3) := by decide +kernel
theorem dX13_tellProgram_165 : decode cX13_tellProgram 165 = .ok (.ifCond .eq 7, 3) := by decide +kernel
theorem dX13_tellProgram_168 : decode cX13_tellProgram 168 = .ok (.aload_n 0, 1) := by decide +kernel
theorem dX13_tellProgram_169 : decode cX13_tellProgram 169 = .ok (.invokevirtual 507, 3) := by decide +kernel
theorem dX13_tellProgram_172 : decode cX13_tellProgram 172 = .ok (.return_, 1) := by decide +kernel
def w_tellProgram_161 (C : rCx) (Q : rS → Prop)   (σ : rS) : Prop :=
  cI C 0 m_isRight [.ref (co C)] σ (fun r2 σ1 =>
    (r2 = 0 →
      Q σ1) ∧
    (¬ (r2 = 0) →
      cV C 2 m_lookAtCalls [.ref (co C)] σ1 (fun σ3 =>
        Q σ3)))
theorem t_tellProgram_161 {C : rCx} (hC : cOK C) {Q : rS → Prop}    {σ : rS} (F : w_tellProgram_161 C Q   σ) : wG C 12 m_tellProgram 161 [some (.ref (co C))] [] σ (qV Q) := by
  unfold w_tellProgram_161 at F
  refine s_aln dX13_tellProgram_161 rfl ?_
  refine k_325 dX13_tellProgram_162 rfl (Nat.le_of_ble_eq_true rfl) (Nat.le_of_ble_eq_true rfl) F (fun r2 σ1 F => ?_)
  refine s_i (t := 172) (r2 = 0) dX13_tellProgram_165 rfl rfl (fun hc => ?_) (fun hc => ?_)
  · replace F := F.1 hc
    exact s_rv dX13_tellProgram_172 rfl F
  · replace F := F.2 hc
    refine s_aln dX13_tellProgram_168 rfl ?_
    refine k_507 dX13_tellProgram_169 rfl (Nat.le_of_ble_eq_true rfl) (Nat.le_of_ble_eq_true rfl) F (fun σ3 F => ?_)
    exact s_rv dX13_tellProgram_172 rfl F

def w_tellProgram_84 (C : rCx) (Q : rS → Prop)   (σ : rS) : Prop :=
  ∃ I : Nat → rS → Prop, (∃ n, I n  σ) ∧ ∀ n  σ, I n  σ →
    cI C 0 m_isRight [.ref (co C)] σ (fun r2 σ1 =>
      (r2 = 0 →
        w_tellProgram_161 C Q   σ1) ∧
      (¬ (r2 = 0) →
        inb (σ1.1 10) 131074 ∧
        ((σ1.2.2.1 5 ((σ1.1 10)).toNatClampNeg) = (5 : Int32) →
          w_tellProgram_161 C Q   σ1) ∧
        (¬ ((σ1.2.2.1 5 ((σ1.1 10)).toNatClampNeg) = (5 : Int32)) →
          cI C 0 m_isWord [.ref (co C), .int (1 : Int32)] σ1 (fun r4 σ3 =>
            (r4 = 0 →
              cI C 0 m_isWord [.ref (co C), .int (2 : Int32)] σ3 (fun r6 σ5 =>
                (r6 = 0 →
                  cI C 0 m_isWord [.ref (co C), .int (3 : Int32)] σ5 (fun r8 σ7 =>
                    (r8 = 0 →
                      cV C 0 m_flaw [.ref (co C), .int (2 : Int32), .int (σ7.1 10)] σ7 (fun σ9 =>
                        ∃ k < n, I k  σ9)) ∧
                    (¬ (r8 = 0) →
                      cV C 11 m_tellFunc [.ref (co C)] σ7 (fun σ11 =>
                        ∃ k < n, I k  σ11)))) ∧
                (¬ (r6 = 0) →
                  cV C 5 m_tellArr [.ref (co C)] σ5 (fun σ13 =>
                    ∃ k < n, I k  σ13)))) ∧
            (¬ (r4 = 0) →
              cV C 4 m_tellVar [.ref (co C)] σ3 (fun σ15 =>
                ∃ k < n, I k  σ15))))))
theorem t_tellProgram_84 {C : rCx} (hC : cOK C) {Q : rS → Prop}    {σ : rS} (F : w_tellProgram_84 C Q   σ) : wG C 12 m_tellProgram 84 [some (.ref (co C))] [] σ (qV Q) := by
  obtain ⟨I, ⟨n0, hI0⟩, F0⟩ := F
  have key : ∀ n  σ, I n  σ → wG C 12 m_tellProgram 84 [some (.ref (co C))] [] σ (qV Q) := by
    intro n
    induction n using Nat.strongRecOn with
    | _ n ih =>
      intro  σ hI
      have F := F0 n  σ hI
      clear hI hI0
      refine s_aln dX13_tellProgram_84 rfl ?_
      refine k_325 dX13_tellProgram_85 rfl (Nat.le_of_ble_eq_true rfl) (Nat.le_of_ble_eq_true rfl) F (fun r2 σ1 F => ?_)
      refine s_i (t := 161) (r2 = 0) dX13_tellProgram_88 rfl rfl (fun hc => ?_) (fun hc => ?_)
      · replace F := F.1 hc
        exact s_k (t_tellProgram_161 hC  F) ⟨rfl, trivial⟩
      · replace F := F.2 hc
        refine s_aln dX13_tellProgram_91 rfl ?_
        refine gf_19 dX13_tellProgram_92 rfl ?_
        refine s_aln dX13_tellProgram_95 rfl ?_
        refine gf_306 dX13_tellProgram_96 rfl ?_
        refine s_bld hC dX13_tellProgram_99 rt_5 F.1 ?_
        replace F := F.2
        refine s_ic dX13_tellProgram_100 ki_5 ?_
        refine s_ii (t := 161) ((σ1.2.2.1 5 ((σ1.1 10)).toNatClampNeg) = (5 : Int32)) dX13_tellProgram_101 rfl rfl (fun hc => ?_) (fun hc => ?_)
        · replace F := F.1 hc
          exact s_k (t_tellProgram_161 hC  F) ⟨rfl, trivial⟩
        · replace F := F.2 hc
          refine s_aln dX13_tellProgram_104 rfl ?_
          refine s_ic dX13_tellProgram_105 ki_1 ?_
          refine k_391 dX13_tellProgram_106 rfl (Nat.le_of_ble_eq_true rfl) (Nat.le_of_ble_eq_true rfl) F (fun r4 σ3 F => ?_)
          refine s_i (t := 119) (r4 = 0) dX13_tellProgram_109 rfl rfl (fun hc => ?_) (fun hc => ?_)
          · replace F := F.1 hc
            refine s_aln dX13_tellProgram_119 rfl ?_
            refine s_ic dX13_tellProgram_120 ki_2 ?_
            refine k_391 dX13_tellProgram_121 rfl (Nat.le_of_ble_eq_true rfl) (Nat.le_of_ble_eq_true rfl) F (fun r6 σ5 F => ?_)
            refine s_i (t := 134) (r6 = 0) dX13_tellProgram_124 rfl rfl (fun hc => ?_) (fun hc => ?_)
            · replace F := F.1 hc
              refine s_aln dX13_tellProgram_134 rfl ?_
              refine s_ic dX13_tellProgram_135 ki_3 ?_
              refine k_391 dX13_tellProgram_136 rfl (Nat.le_of_ble_eq_true rfl) (Nat.le_of_ble_eq_true rfl) F (fun r8 σ7 F => ?_)
              refine s_i (t := 149) (r8 = 0) dX13_tellProgram_139 rfl rfl (fun hc => ?_) (fun hc => ?_)
              · replace F := F.1 hc
                refine s_aln dX13_tellProgram_149 rfl ?_
                refine s_ic dX13_tellProgram_150 ki_2 ?_
                refine s_aln dX13_tellProgram_151 rfl ?_
                refine gf_306 dX13_tellProgram_152 rfl ?_
                refine k_312 dX13_tellProgram_155 rfl (Nat.le_of_ble_eq_true rfl) (Nat.le_of_ble_eq_true rfl) F (fun σ9 F => ?_)
                refine s_goto (t := 84) dX13_tellProgram_158 rfl ?_
                obtain ⟨k, hk, hI⟩ := F
                exact s_k (ih k hk  _ hI) ⟨rfl, trivial⟩
              · replace F := F.2 hc
                refine s_aln dX13_tellProgram_142 rfl ?_
                refine k_504 dX13_tellProgram_143 rfl (Nat.le_of_ble_eq_true rfl) (Nat.le_of_ble_eq_true rfl) F (fun σ11 F => ?_)
                refine s_goto (t := 84) dX13_tellProgram_146 rfl ?_
                obtain ⟨k, hk, hI⟩ := F
                exact s_k (ih k hk  _ hI) ⟨rfl, trivial⟩
            · replace F := F.2 hc
              refine s_aln dX13_tellProgram_127 rfl ?_
              refine k_501 dX13_tellProgram_128 rfl (Nat.le_of_ble_eq_true rfl) (Nat.le_of_ble_eq_true rfl) F (fun σ13 F => ?_)
              refine s_goto (t := 84) dX13_tellProgram_131 rfl ?_
              obtain ⟨k, hk, hI⟩ := F
              exact s_k (ih k hk  _ hI) ⟨rfl, trivial⟩
          · replace F := F.2 hc
            refine s_aln dX13_tellProgram_112 rfl ?_
            refine k_498 dX13_tellProgram_113 rfl (Nat.le_of_ble_eq_true rfl) (Nat.le_of_ble_eq_true rfl) F (fun σ15 F => ?_)
            refine s_goto (t := 84) dX13_tellProgram_116 rfl ?_
            obtain ⟨k, hk, hI⟩ := F
            exact s_k (ih k hk  _ hI) ⟨rfl, trivial⟩
  exact key n0  σ hI0

def w_tellProgram_65 (C : rCx) (Q : rS → Prop)  (s1 : Int32) (σ : rS) : Prop :=
  ∀ σ1, σ1 = siU σ 3 s1 →
  cV C 5 m_cutTape [.ref (co C)] σ1 (fun σ2 =>
    ∀ σ4, σ4 = siU σ2 10 (σ2.1 3) →
    cV C 1 m_readNext [.ref (co C)] σ4 (fun σ5 =>
      w_tellProgram_84 C Q   σ5))
theorem t_tellProgram_65 {C : rCx} (hC : cOK C) {Q : rS → Prop}   {s1 : Int32} {σ : rS} (F : w_tellProgram_65 C Q  s1 σ) : wG C 12 m_tellProgram 65 [some (.ref (co C))] [.int s1, .ref (co C)] σ (qV Q) := by
  unfold w_tellProgram_65 at F
  refine pf_281 hC dX13_tellProgram_65 rfl (fun σ1 eσ1 => ?_)
  replace F := F σ1 eσ1
  refine s_aln dX13_tellProgram_68 rfl ?_
  refine k_495 dX13_tellProgram_69 rfl (Nat.le_of_ble_eq_true rfl) (Nat.le_of_ble_eq_true rfl) F (fun σ2 F => ?_)
  refine s_aln dX13_tellProgram_72 rfl ?_
  refine s_aln dX13_tellProgram_73 rfl ?_
  refine gf_281 dX13_tellProgram_74 rfl ?_
  refine pf_306 hC dX13_tellProgram_77 rfl (fun σ4 eσ4 => ?_)
  replace F := F σ4 eσ4
  refine s_aln dX13_tellProgram_80 rfl ?_
  refine k_309 dX13_tellProgram_81 rfl (Nat.le_of_ble_eq_true rfl) (Nat.le_of_ble_eq_true rfl) F (fun σ5 F => ?_)
  exact s_k (t_tellProgram_84 hC  F) ⟨rfl, trivial⟩

def w_tellProgram_0 (C : rCx) (Q : rS → Prop)   (σ : rS) : Prop :=
  ∀ σ1, σ1 = siU σ 46 (0 : Int32) →
  ∀ σ2, σ2 = siU σ1 47 (0 : Int32) →
  ∀ σ3, σ3 = siU σ2 11 (0 : Int32) →
  ∀ σ4, σ4 = siU σ3 12 (0 : Int32) →
  ∀ σ5, σ5 = siU σ4 13 (0 : Int32) →
  ∀ σ6, σ6 = siU σ5 15 (0 : Int32) →
  ∀ σ7, σ7 = siU σ6 16 (0 : Int32) →
  ∀ σ8, σ8 = siU σ7 17 (0 : Int32) →
  ∀ σ9, σ9 = siU σ8 18 (0 : Int32) →
  ∀ σ10, σ10 = siU σ9 19 (0 : Int32) →
  (¬ ((σ10.1 3) = 0) →
    w_tellProgram_65 C Q  (0 : Int32) σ10) ∧
  ((σ10.1 3) = 0 →
    w_tellProgram_65 C Q  (65537 : Int32) σ10)
theorem t_tellProgram_0 {C : rCx} (hC : cOK C) {Q : rS → Prop}    {σ : rS} (F : w_tellProgram_0 C Q   σ) : wG C 12 m_tellProgram 0 [some (.ref (co C))] [] σ (qV Q) := by
  unfold w_tellProgram_0 at F
  refine s_aln dX13_tellProgram_0 rfl ?_
  refine s_ic dX13_tellProgram_1 ki_0 ?_
  refine pf_438 hC dX13_tellProgram_2 rfl (fun σ1 eσ1 => ?_)
  replace F := F σ1 eσ1
  refine s_aln dX13_tellProgram_5 rfl ?_
  refine s_ic dX13_tellProgram_6 ki_0 ?_
  refine pf_428 hC dX13_tellProgram_7 rfl (fun σ2 eσ2 => ?_)
  replace F := F σ2 eσ2
  refine s_aln dX13_tellProgram_10 rfl ?_
  refine s_ic dX13_tellProgram_11 ki_0 ?_
  refine pf_300 hC dX13_tellProgram_12 rfl (fun σ3 eσ3 => ?_)
  replace F := F σ3 eσ3
  refine s_aln dX13_tellProgram_15 rfl ?_
  refine s_ic dX13_tellProgram_16 ki_0 ?_
  refine pf_303 hC dX13_tellProgram_17 rfl (fun σ4 eσ4 => ?_)
  replace F := F σ4 eσ4
  refine s_aln dX13_tellProgram_20 rfl ?_
  refine s_ic dX13_tellProgram_21 ki_0 ?_
  refine pf_322 hC dX13_tellProgram_22 rfl (fun σ5 eσ5 => ?_)
  replace F := F σ5 eσ5
  refine s_aln dX13_tellProgram_25 rfl ?_
  refine s_ic dX13_tellProgram_26 ki_0 ?_
  refine pf_333 hC dX13_tellProgram_27 rfl (fun σ6 eσ6 => ?_)
  replace F := F σ6 eσ6
  refine s_aln dX13_tellProgram_30 rfl ?_
  refine s_ic dX13_tellProgram_31 ki_0 ?_
  refine pf_340 hC dX13_tellProgram_32 rfl (fun σ7 eσ7 => ?_)
  replace F := F σ7 eσ7
  refine s_aln dX13_tellProgram_35 rfl ?_
  refine s_ic dX13_tellProgram_36 ki_0 ?_
  refine pf_369 hC dX13_tellProgram_37 rfl (fun σ8 eσ8 => ?_)
  replace F := F σ8 eσ8
  refine s_aln dX13_tellProgram_40 rfl ?_
  refine s_ic dX13_tellProgram_41 ki_0 ?_
  refine pf_343 hC dX13_tellProgram_42 rfl (fun σ9 eσ9 => ?_)
  replace F := F σ9 eσ9
  refine s_aln dX13_tellProgram_45 rfl ?_
  refine s_ic dX13_tellProgram_46 ki_0 ?_
  refine pf_378 hC dX13_tellProgram_47 rfl (fun σ10 eσ10 => ?_)
  replace F := F σ10 eσ10
  refine s_aln dX13_tellProgram_50 rfl ?_
  refine s_aln dX13_tellProgram_51 rfl ?_
  refine gf_281 dX13_tellProgram_52 rfl ?_
  refine s_in (t := 64) ((σ10.1 3) = 0) dX13_tellProgram_55 rfl rfl (fun hc => ?_) (fun hc => ?_)
  · replace F := F.1 hc
    refine s_ic dX13_tellProgram_64 ki_0 ?_
    exact s_k (t_tellProgram_65 hC  F) ⟨rfl, trivial⟩
  · replace F := F.2 hc
    refine s_ldcw dX13_tellProgram_58 rfl cn_494 ?_
    refine s_goto (t := 65) dX13_tellProgram_61 rfl ?_
    exact s_k (t_tellProgram_65 hC  F) ⟨rfl, trivial⟩

theorem m_tellProgram_run {C : rCx} (hC : cOK C) {Q : rS → Prop}  {σ : rS} (F : w_tellProgram_0 C Q  σ) : cV C 12 m_tellProgram [.ref (co C)] σ Q := m_V (m_ent _ 0) (t_tellProgram_0 hC F)

theorem dX13_program_0 : decode cX13_program 0 = .ok (.aload_n 0, 1) := by decide +kernel
theorem dX13_program_1 : decode cX13_program 1 = .ok (.iconst 0, 1) := by decide +kernel
theorem dX13_program_2 : decode cX13_program 2 = .ok (.putfield 1, 3) := by decide +kernel
theorem dX13_program_5 : decode cX13_program 5 = .ok (.aload_n 0, 1) := by decide +kernel
theorem dX13_program_6 : decode cX13_program 6 = .ok (.iconst 0, 1) := by decide +kernel
theorem dX13_program_7 : decode cX13_program 7 = .ok (.invokevirtual 519, 3) := by decide +kernel
theorem dX13_program_10 : decode cX13_program 10 = .ok (.aload_n 0, 1) := by decide +kernel
theorem dX13_program_11 : decode cX13_program 11 = .ok (.invokevirtual 523, 3) := by decide +kernel
theorem dX13_program_14 : decode cX13_program 14 = .ok (.aload_n 0, 1) := by decide +kernel
theorem dX13_program_15 : decode cX13_program 15 = .ok (.iconst 0, 1) := by decide +kernel
theorem dX13_program_16 : decode cX13_program 16 = .ok (.putfield 253, 3) := by decide +kernel
theorem dX13_program_19 : decode cX13_program 19 = .ok (.aload_n 0, 1) := by decide +kernel
theorem dX13_program_20 : decode cX13_program 20 = .ok (.aload_n 0, 1) := by decide +kernel
theorem dX13_program_21 : decode cX13_program 21 = .ok (.getfield 300, 3) := by decide +kernel
theorem dX13_program_24 : decode cX13_program 24 = .ok (.putfield 526, 3) := by decide +kernel
theorem dX13_program_27 : decode cX13_program 27 = .ok (.aload_n 0, 1) := by decide +kernel
theorem dX13_program_28 : decode cX13_program 28 = .ok (.getfield 300, 3) := by decide +kernel
theorem dX13_program_31 : decode cX13_program 31 = .ok (.ifCond .le 15, 3) := by decide +kernel
theorem dX13_program_34 : decode cX13_program 34 = .ok (.aload_n 0, 1) := by decide +kernel
theorem dX13_program_35 : decode cX13_program 35 = .ok (.iconst 1, 1) := by decide +kernel
theorem dX13_program_36 : decode cX13_program 36 = .ok (.invokevirtual 519, 3) := by decide +kernel
theorem dX13_program_39 : decode cX13_program 39 = .ok (.iconst (-1), 1) := by decide +kernel
theorem dX13_program_40 : decode cX13_program 40 = .ok (.aload_n 0, 1) := by decide +kernel
theorem dX13_program_41 : decode cX13_program 41 = .ok (.getfield 303, 3) := by decide +kernel
theorem dX13_program_44 : decode cX13_program 44 = .ok (.isub, 1) := by decide +kernel
theorem dX13_program_45 : decode cX13_program 45 = .ok (.ireturn, 1) := by decide +kernel
theorem dX13_program_46 : decode cX13_program 46 = .ok (.aload_n 0, 1) := by decide +kernel
theorem dX13_program_47 : decode cX13_program 47 = .ok (.iconst 1, 1) := by decide +kernel
theorem dX13_program_48 : decode cX13_program 48 = .ok (.putfield 529, 3) := by decide +kernel
theorem dX13_program_51 : decode cX13_program 51 = .ok (.aload_n 0, 1) := by decide +kernel
theorem dX13_program_52 : decode cX13_program 52 = .ok (.iconst 0, 1) := by decide +kernel
theorem dX13_program_53 : decode cX13_program 53 = .ok (.putfield 533, 3) := by decide +kernel
theorem dX13_program_56 : decode cX13_program 56 = .ok (.aload_n 0, 1) := by decide +kernel
theorem dX13_program_57 : decode cX13_program 57 = .ok (.iconst 0, 1) := by decide +kernel
theorem dX13_program_58 : decode cX13_program 58 = .ok (.putfield 536, 3) := by decide +kernel
theorem dX13_program_61 : decode cX13_program 61 = .ok (.aload_n 0, 1) := by decide +kernel
theorem dX13_program_62 : decode cX13_program 62 = .ok (.iconst 0, 1) := by decide +kernel
theorem dX13_program_63 : decode cX13_program 63 = .ok (.putfield 539, 3) := by decide +kernel
theorem dX13_program_66 : decode cX13_program 66 = .ok (.aload_n 0, 1) := by decide +kernel
theorem dX13_program_67 : decode cX13_program 67 = .ok (.iconst (-1), 1) := by decide +kernel
theorem dX13_program_68 : decode cX13_program 68 = .ok (.putfield 220, 3) := by decide +kernel
theorem dX13_program_71 : decode cX13_program 71 = .ok (.aload_n 0, 1) := by decide +kernel
theorem dX13_program_72 : decode cX13_program 72 = .ok (.iconst 0, 1) := by decide +kernel
theorem dX13_program_73 : decode cX13_program 73 = .ok (.putfield 542, 3) := by decide +kernel
theorem dX13_program_76 : decode cX13_program 76 = .ok (.aload_n 0, 1) := by decide +kernel
theorem dX13_program_77 : decode cX13_program 77 = .ok (.iconst 0, 1) := by decide +kernel
theorem dX13_program_78 : decode cX13_program 78 = .ok (.putfield 545, 3) := by decide +kernel
theorem dX13_program_81 : decode cX13_program 81 = .ok (.aload_n 0, 1) := by decide +kernel
theorem dX13_program_82 : decode cX13_program 82 = .ok (.iconst 0, 1) := by decide +kernel
theorem dX13_program_83 : decode cX13_program 83 = .ok (.putfield 548, 3) := by decide +kernel
theorem dX13_program_86 : decode cX13_program 86 = .ok (.aload_n 0, 1) := by decide +kernel
theorem dX13_program_87 : decode cX13_program 87 = .ok (.getfield 378, 3) := by decide +kernel
theorem dX13_program_90 : decode cX13_program 90 = .ok (.ireturn, 1) := by decide +kernel
def w_program_0 (C : rCx) (Q : Int32 → rS → Prop)   (σ : rS) : Prop :=
  ∀ σ1, σ1 = siU σ 0 (0 : Int32) →
  cV C 1 m_swingAll [.ref (co C), .int (0 : Int32)] σ1 (fun σ2 =>
    cV C 12 m_tellProgram [.ref (co C)] σ2 (fun σ4 =>
      ∀ σ6, σ6 = siU σ4 2 (0 : Int32) →
      ∀ σ7, σ7 = siU σ6 53 (σ6.1 11) →
      ((σ7.1 11) ≤ 0 →
        ∀ σ8, σ8 = siU σ7 14 (1 : Int32) →
        ∀ σ9, σ9 = siU σ8 69 (0 : Int32) →
        ∀ σ10, σ10 = siU σ9 94 (0 : Int32) →
        ∀ σ11, σ11 = siU σ10 114 (0 : Int32) →
        ∀ σ12, σ12 = siU σ11 106 (-1 : Int32) →
        ∀ σ13, σ13 = siU σ12 70 (0 : Int32) →
        ∀ σ14, σ14 = siU σ13 71 (0 : Int32) →
        ∀ σ15, σ15 = siU σ14 72 (0 : Int32) →
        Q (σ15.1 19) σ15) ∧
      (¬ ((σ7.1 11) ≤ 0) →
        cV C 1 m_swingAll [.ref (co C), .int (1 : Int32)] σ7 (fun σ16 =>
          Q ((-1 : Int32) - (σ16.1 12)) σ16))))
theorem t_program_0 {C : rCx} (hC : cOK C) {Q : Int32 → rS → Prop}    {σ : rS} (F : w_program_0 C Q   σ) : wG C 13 m_program 0 [some (.ref (co C))] [] σ (qI Q) := by
  unfold w_program_0 at F
  refine s_aln dX13_program_0 rfl ?_
  refine s_ic dX13_program_1 ki_0 ?_
  refine pf_1 hC dX13_program_2 rfl (fun σ1 eσ1 => ?_)
  replace F := F σ1 eσ1
  refine s_aln dX13_program_5 rfl ?_
  refine s_ic dX13_program_6 ki_0 ?_
  refine k_519 dX13_program_7 rfl (Nat.le_of_ble_eq_true rfl) (Nat.le_of_ble_eq_true rfl) F (fun σ2 F => ?_)
  refine s_aln dX13_program_10 rfl ?_
  refine k_523 dX13_program_11 rfl (Nat.le_of_ble_eq_true rfl) (Nat.le_of_ble_eq_true rfl) F (fun σ4 F => ?_)
  refine s_aln dX13_program_14 rfl ?_
  refine s_ic dX13_program_15 ki_0 ?_
  refine pf_253 hC dX13_program_16 rfl (fun σ6 eσ6 => ?_)
  replace F := F σ6 eσ6
  refine s_aln dX13_program_19 rfl ?_
  refine s_aln dX13_program_20 rfl ?_
  refine gf_300 dX13_program_21 rfl ?_
  refine pf_526 hC dX13_program_24 rfl (fun σ7 eσ7 => ?_)
  replace F := F σ7 eσ7
  refine s_aln dX13_program_27 rfl ?_
  refine gf_300 dX13_program_28 rfl ?_
  refine s_i (t := 46) ((σ7.1 11) ≤ 0) dX13_program_31 rfl rfl (fun hc => ?_) (fun hc => ?_)
  · replace F := F.1 hc
    refine s_aln dX13_program_46 rfl ?_
    refine s_ic dX13_program_47 ki_1 ?_
    refine pf_529 hC dX13_program_48 rfl (nb_nar nb_1) (fun σ8 eσ8 => ?_)
    replace F := F σ8 eσ8
    refine s_aln dX13_program_51 rfl ?_
    refine s_ic dX13_program_52 ki_0 ?_
    refine pf_533 hC dX13_program_53 rfl (nb_nar nb_0) (fun σ9 eσ9 => ?_)
    replace F := F σ9 eσ9
    refine s_aln dX13_program_56 rfl ?_
    refine s_ic dX13_program_57 ki_0 ?_
    refine pf_536 hC dX13_program_58 rfl (nb_nar nb_0) (fun σ10 eσ10 => ?_)
    replace F := F σ10 eσ10
    refine s_aln dX13_program_61 rfl ?_
    refine s_ic dX13_program_62 ki_0 ?_
    refine pf_539 hC dX13_program_63 rfl (nb_nar nb_0) (fun σ11 eσ11 => ?_)
    replace F := F σ11 eσ11
    refine s_aln dX13_program_66 rfl ?_
    refine s_ic dX13_program_67 ki_m1 ?_
    refine pf_220 hC dX13_program_68 rfl (fun σ12 eσ12 => ?_)
    replace F := F σ12 eσ12
    refine s_aln dX13_program_71 rfl ?_
    refine s_ic dX13_program_72 ki_0 ?_
    refine pf_542 hC dX13_program_73 rfl (fun σ13 eσ13 => ?_)
    replace F := F σ13 eσ13
    refine s_aln dX13_program_76 rfl ?_
    refine s_ic dX13_program_77 ki_0 ?_
    refine pf_545 hC dX13_program_78 rfl (fun σ14 eσ14 => ?_)
    replace F := F σ14 eσ14
    refine s_aln dX13_program_81 rfl ?_
    refine s_ic dX13_program_82 ki_0 ?_
    refine pf_548 hC dX13_program_83 rfl (fun σ15 eσ15 => ?_)
    replace F := F σ15 eσ15
    refine s_aln dX13_program_86 rfl ?_
    refine gf_378 dX13_program_87 rfl ?_
    exact s_ri dX13_program_90 rfl in_nar F
  · replace F := F.2 hc
    refine s_aln dX13_program_34 rfl ?_
    refine s_ic dX13_program_35 ki_1 ?_
    refine k_519 dX13_program_36 rfl (Nat.le_of_ble_eq_true rfl) (Nat.le_of_ble_eq_true rfl) F (fun σ16 F => ?_)
    refine s_ic dX13_program_39 ki_m1 ?_
    refine s_aln dX13_program_40 rfl ?_
    refine gf_303 dX13_program_41 rfl ?_
    refine s_isub dX13_program_44 ?_
    exact s_ri dX13_program_45 rfl in_nar F

theorem m_program_run {C : rCx} (hC : cOK C) {Q : Int32 → rS → Prop}  {σ : rS} (F : w_program_0 C Q  σ) : cI C 13 m_program [.ref (co C)] σ Q := m_I (m_ent _ 0) (t_program_0 hC F)

theorem dX13_fault_0 : decode cX13_fault 0 = .ok (.aload_n 0, 1) := by decide +kernel
theorem dX13_fault_1 : decode cX13_fault 1 = .ok (.iconst 0, 1) := by decide +kernel
theorem dX13_fault_2 : decode cX13_fault 2 = .ok (.putfield 1, 3) := by decide +kernel
theorem dX13_fault_5 : decode cX13_fault 5 = .ok (.aload_n 0, 1) := by decide +kernel
theorem dX13_fault_6 : decode cX13_fault 6 = .ok (.getfield 526, 3) := by decide +kernel
theorem dX13_fault_9 : decode cX13_fault 9 = .ok (.ireturn, 1) := by decide +kernel
def w_fault_0 (C : rCx) (Q : Int32 → rS → Prop)   (σ : rS) : Prop :=
  ∀ σ1, σ1 = siU σ 0 (0 : Int32) →
  Q (σ1.1 53) σ1
theorem t_fault_0 {C : rCx} (hC : cOK C) {Q : Int32 → rS → Prop}    {σ : rS} (F : w_fault_0 C Q   σ) : wG C 0 m_fault 0 [some (.ref (co C))] [] σ (qI Q) := by
  unfold w_fault_0 at F
  refine s_aln dX13_fault_0 rfl ?_
  refine s_ic dX13_fault_1 ki_0 ?_
  refine pf_1 hC dX13_fault_2 rfl (fun σ1 eσ1 => ?_)
  replace F := F σ1 eσ1
  refine s_aln dX13_fault_5 rfl ?_
  refine gf_526 dX13_fault_6 rfl ?_
  exact s_ri dX13_fault_9 rfl in_nar F

theorem m_fault_run {C : rCx} (hC : cOK C) {Q : Int32 → rS → Prop}  {σ : rS} (F : w_fault_0 C Q  σ) : cI C 0 m_fault [.ref (co C)] σ Q := m_I (m_ent _ 0) (t_fault_0 hC F)

theorem dX13_store_0 : decode cX13_store 0 = .ok (.iload_n 1, 1) := by decide +kernel
theorem dX13_store_1 : decode cX13_store 1 = .ok (.sipush 400, 3) := by decide +kernel
theorem dX13_store_4 : decode cX13_store 4 = .ok (.if_icmp .lt 17, 3) := by decide +kernel
theorem dX13_store_7 : decode cX13_store 7 = .ok (.aload_n 0, 1) := by decide +kernel
theorem dX13_store_8 : decode cX13_store 8 = .ok (.getfield 122, 3) := by decide +kernel
theorem dX13_store_11 : decode cX13_store 11 = .ok (.iload_n 1, 1) := by decide +kernel
theorem dX13_store_12 : decode cX13_store 12 = .ok (.sipush 400, 3) := by decide +kernel
theorem dX13_store_15 : decode cX13_store 15 = .ok (.isub, 1) := by decide +kernel
theorem dX13_store_16 : decode cX13_store 16 = .ok (.iload_n 2, 1) := by decide +kernel
theorem dX13_store_17 : decode cX13_store 17 = .ok (.iastore, 1) := by decide +kernel
theorem dX13_store_18 : decode cX13_store 18 = .ok (.goto 39, 3) := by decide +kernel
theorem dX13_store_21 : decode cX13_store 21 = .ok (.iload_n 1, 1) := by decide +kernel
theorem dX13_store_22 : decode cX13_store 22 = .ok (.bipush 100, 2) := by decide +kernel
theorem dX13_store_24 : decode cX13_store 24 = .ok (.if_icmp .lt 26, 3) := by decide +kernel
theorem dX13_store_27 : decode cX13_store 27 = .ok (.aload_n 0, 1) := by decide +kernel
theorem dX13_store_28 : decode cX13_store 28 = .ok (.getfield 128, 3) := by decide +kernel
theorem dX13_store_31 : decode cX13_store 31 = .ok (.bipush 8, 2) := by decide +kernel
theorem dX13_store_33 : decode cX13_store 33 = .ok (.aload_n 0, 1) := by decide +kernel
theorem dX13_store_34 : decode cX13_store 34 = .ok (.getfield 551, 3) := by decide +kernel
theorem dX13_store_37 : decode cX13_store 37 = .ok (.iconst 1, 1) := by decide +kernel
theorem dX13_store_38 : decode cX13_store 38 = .ok (.isub, 1) := by decide +kernel
theorem dX13_store_39 : decode cX13_store 39 = .ok (.imul, 1) := by decide +kernel
theorem dX13_store_40 : decode cX13_store 40 = .ok (.iload_n 1, 1) := by decide +kernel
theorem dX13_store_41 : decode cX13_store 41 = .ok (.iadd, 1) := by decide +kernel
theorem dX13_store_42 : decode cX13_store 42 = .ok (.bipush 100, 2) := by decide +kernel
theorem dX13_store_44 : decode cX13_store 44 = .ok (.isub, 1) := by decide +kernel
theorem dX13_store_45 : decode cX13_store 45 = .ok (.iload_n 2, 1) := by decide +kernel
theorem dX13_store_46 : decode cX13_store 46 = .ok (.iastore, 1) := by decide +kernel
theorem dX13_store_47 : decode cX13_store 47 = .ok (.goto 10, 3) := by decide +kernel
theorem dX13_store_50 : decode cX13_store 50 = .ok (.aload_n 0, 1) := by decide +kernel
theorem dX13_store_51 : decode cX13_store 51 = .ok (.getfield 122, 3) := by decide +kernel
theorem dX13_store_54 : decode cX13_store 54 = .ok (.iload_n 1, 1) := by decide +kernel
theorem dX13_store_55 : decode cX13_store 55 = .ok (.iload_n 2, 1) := by decide +kernel
theorem dX13_store_56 : decode cX13_store 56 = .ok (.iastore, 1) := by decide +kernel
theorem dX13_store_57 : decode cX13_store 57 = .ok (.return_, 1) := by decide +kernel
def w_store_0 (C : rCx) (Q : rS → Prop)  (a1 : Int32) (a2 : Int32) (σ : rS) : Prop :=
  (a1 < (400 : Int32) →
    (a1 < (100 : Int32) →
      inb a1 34 ∧
      ∀ σ1, σ1 = riU σ 57 (a1).toNatClampNeg a2 →
      Q σ1) ∧
    (¬ (a1 < (100 : Int32)) →
      inb ((((8 : Int32) * ((σ.1 58) - (1 : Int32))) + a1) - (100 : Int32)) 96 ∧
      ∀ σ2, σ2 = riU σ 60 (((((8 : Int32) * ((σ.1 58) - (1 : Int32))) + a1) - (100 : Int32))).toNatClampNeg a2 →
      Q σ2)) ∧
  (¬ (a1 < (400 : Int32)) →
    inb (a1 - (400 : Int32)) 34 ∧
    ∀ σ3, σ3 = riU σ 57 ((a1 - (400 : Int32))).toNatClampNeg a2 →
    Q σ3)
theorem t_store_0 {C : rCx} (hC : cOK C) {Q : rS → Prop}   {a1 : Int32} {a2 : Int32} {σ : rS} (F : w_store_0 C Q  a1 a2 σ) : wG C 0 m_store 0 [some (.ref (co C)), some (.int a1), some (.int a2)] [] σ (qV Q) := by
  unfold w_store_0 at F
  refine s_iln dX13_store_0 rfl ?_
  refine s_si dX13_store_1 ks_400 ?_
  refine s_ii (t := 21) (a1 < (400 : Int32)) dX13_store_4 rfl rfl (fun hc => ?_) (fun hc => ?_)
  · replace F := F.1 hc
    refine s_iln dX13_store_21 rfl ?_
    refine s_bi dX13_store_22 kb_100 ?_
    refine s_ii (t := 50) (a1 < (100 : Int32)) dX13_store_24 rfl rfl (fun hc => ?_) (fun hc => ?_)
    · replace F := F.1 hc
      refine s_aln dX13_store_50 rfl ?_
      refine gf_122 dX13_store_51 rfl ?_
      refine s_iln dX13_store_54 rfl ?_
      refine s_iln dX13_store_55 rfl ?_
      refine s_astb hC dX13_store_56 rt_57 F.1 (fun σ1 eσ1 => ?_)
      replace F := F.2 σ1 eσ1
      exact s_rv dX13_store_57 rfl F
    · replace F := F.2 hc
      refine s_aln dX13_store_27 rfl ?_
      refine gf_128 dX13_store_28 rfl ?_
      refine s_bi dX13_store_31 kb_8 ?_
      refine s_aln dX13_store_33 rfl ?_
      refine gf_551 dX13_store_34 rfl ?_
      refine s_ic dX13_store_37 ki_1 ?_
      refine s_isub dX13_store_38 ?_
      refine s_imul dX13_store_39 ?_
      refine s_iln dX13_store_40 rfl ?_
      refine s_iadd dX13_store_41 ?_
      refine s_bi dX13_store_42 kb_100 ?_
      refine s_isub dX13_store_44 ?_
      refine s_iln dX13_store_45 rfl ?_
      refine s_astb hC dX13_store_46 rt_60 F.1 (fun σ2 eσ2 => ?_)
      replace F := F.2 σ2 eσ2
      refine s_goto (t := 57) dX13_store_47 rfl ?_
      exact s_rv dX13_store_57 rfl F
  · replace F := F.2 hc
    refine s_aln dX13_store_7 rfl ?_
    refine gf_122 dX13_store_8 rfl ?_
    refine s_iln dX13_store_11 rfl ?_
    refine s_si dX13_store_12 ks_400 ?_
    refine s_isub dX13_store_15 ?_
    refine s_iln dX13_store_16 rfl ?_
    refine s_astb hC dX13_store_17 rt_57 F.1 (fun σ3 eσ3 => ?_)
    replace F := F.2 σ3 eσ3
    refine s_goto (t := 57) dX13_store_18 rfl ?_
    exact s_rv dX13_store_57 rfl F

theorem m_store_run {C : rCx} (hC : cOK C) {Q : rS → Prop} {a1 : Int32} {a2 : Int32} {σ : rS} (F : w_store_0 C Q a1 a2 σ) : cV C 0 m_store [.ref (co C), .int a1, .int a2] σ Q := m_V (m_ent _ 0) (t_store_0 hC F)

theorem dX13_leave_0 : decode cX13_leave 0 = .ok (.iload_n 1, 1) := by decide +kernel
theorem dX13_leave_1 : decode cX13_leave 1 = .ok (.istore_n 2, 1) := by decide +kernel
theorem dX13_leave_2 : decode cX13_leave 2 = .ok (.aload_n 0, 1) := by decide +kernel
theorem dX13_leave_3 : decode cX13_leave 3 = .ok (.dup, 1) := by decide +kernel
theorem dX13_leave_4 : decode cX13_leave 4 = .ok (.getfield 551, 3) := by decide +kernel
theorem dX13_leave_7 : decode cX13_leave 7 = .ok (.iconst 1, 1) := by decide +kernel
theorem dX13_leave_8 : decode cX13_leave 8 = .ok (.isub, 1) := by decide +kernel
theorem dX13_leave_9 : decode cX13_leave 9 = .ok (.putfield 551, 3) := by decide +kernel
theorem dX13_leave_12 : decode cX13_leave 12 = .ok (.aload_n 0, 1) := by decide +kernel
theorem dX13_leave_13 : decode cX13_leave 13 = .ok (.getfield 551, 3) := by decide +kernel
theorem dX13_leave_16 : decode cX13_leave 16 = .ok (.ifCond .ne 10, 3) := by decide +kernel
theorem dX13_leave_19 : decode cX13_leave 19 = .ok (.aload_n 0, 1) := by decide +kernel
theorem dX13_leave_20 : decode cX13_leave 20 = .ok (.iload_n 2, 1) := by decide +kernel
theorem dX13_leave_21 : decode cX13_leave 21 = .ok (.putfield 554, 3) := by decide +kernel
theorem dX13_leave_24 : decode cX13_leave 24 = .ok (.iconst 1, 1) := by decide +kernel
theorem dX13_leave_25 : decode cX13_leave 25 = .ok (.ireturn, 1) := by decide +kernel
theorem dX13_leave_26 : decode cX13_leave 26 = .ok (.aload_n 0, 1) := by decide +kernel
theorem dX13_leave_27 : decode cX13_leave 27 = .ok (.getfield 125, 3) := by decide +kernel
theorem dX13_leave_30 : decode cX13_leave 30 = .ok (.aload_n 0, 1) := by decide +kernel
theorem dX13_leave_31 : decode cX13_leave 31 = .ok (.getfield 551, 3) := by decide +kernel
theorem dX13_leave_34 : decode cX13_leave 34 = .ok (.iconst 1, 1) := by decide +kernel
theorem dX13_leave_35 : decode cX13_leave 35 = .ok (.isub, 1) := by decide +kernel
theorem dX13_leave_36 : decode cX13_leave 36 = .ok (.iaload, 1) := by decide +kernel
theorem dX13_leave_37 : decode cX13_leave 37 = .ok (.istore_n 3, 1) := by decide +kernel
theorem dX13_leave_38 : decode cX13_leave 38 = .ok (.aload_n 0, 1) := by decide +kernel
theorem dX13_leave_39 : decode cX13_leave 39 = .ok (.getfield 69, 3) := by decide +kernel
theorem dX13_leave_42 : decode cX13_leave 42 = .ok (.iload_n 3, 1) := by decide +kernel
theorem dX13_leave_43 : decode cX13_leave 43 = .ok (.iaload, 1) := by decide +kernel
theorem dX13_leave_44 : decode cX13_leave 44 = .ok (.aload_n 0, 1) := by decide +kernel
theorem dX13_leave_45 : decode cX13_leave 45 = .ok (.getfield 72, 3) := by decide +kernel
theorem dX13_leave_48 : decode cX13_leave 48 = .ok (.iload_n 3, 1) := by decide +kernel
theorem dX13_leave_49 : decode cX13_leave 49 = .ok (.iaload, 1) := by decide +kernel
theorem dX13_leave_50 : decode cX13_leave 50 = .ok (.if_icmp .eq 19, 3) := by decide +kernel
theorem dX13_leave_53 : decode cX13_leave 53 = .ok (.aload_n 0, 1) := by decide +kernel
theorem dX13_leave_54 : decode cX13_leave 54 = .ok (.aload_n 0, 1) := by decide +kernel
theorem dX13_leave_55 : decode cX13_leave 55 = .ok (.getfield 93, 3) := by decide +kernel
theorem dX13_leave_58 : decode cX13_leave 58 = .ok (.aload_n 0, 1) := by decide +kernel
theorem dX13_leave_59 : decode cX13_leave 59 = .ok (.getfield 69, 3) := by decide +kernel
theorem dX13_leave_62 : decode cX13_leave 62 = .ok (.iload_n 3, 1) := by decide +kernel
theorem dX13_leave_63 : decode cX13_leave 63 = .ok (.iaload, 1) := by decide +kernel
theorem dX13_leave_64 : decode cX13_leave 64 = .ok (.iaload, 1) := by decide +kernel
theorem dX13_leave_65 : decode cX13_leave 65 = .ok (.iload_n 2, 1) := by decide +kernel
theorem dX13_leave_66 : decode cX13_leave 66 = .ok (.invokevirtual 557, 3) := by decide +kernel
theorem dX13_leave_69 : decode cX13_leave 69 = .ok (.aload_n 0, 1) := by decide +kernel
theorem dX13_leave_70 : decode cX13_leave 70 = .ok (.getfield 87, 3) := by decide +kernel
theorem dX13_leave_73 : decode cX13_leave 73 = .ok (.iload_n 3, 1) := by decide +kernel
theorem dX13_leave_74 : decode cX13_leave 74 = .ok (.iaload, 1) := by decide +kernel
theorem dX13_leave_75 : decode cX13_leave 75 = .ok (.iconst (-1), 1) := by decide +kernel
theorem dX13_leave_76 : decode cX13_leave 76 = .ok (.if_icmp .eq 22, 3) := by decide +kernel
theorem dX13_leave_79 : decode cX13_leave 79 = .ok (.aload_n 0, 1) := by decide +kernel
theorem dX13_leave_80 : decode cX13_leave 80 = .ok (.getfield 125, 3) := by decide +kernel
theorem dX13_leave_83 : decode cX13_leave 83 = .ok (.aload_n 0, 1) := by decide +kernel
theorem dX13_leave_84 : decode cX13_leave 84 = .ok (.getfield 551, 3) := by decide +kernel
theorem dX13_leave_87 : decode cX13_leave 87 = .ok (.iconst 1, 1) := by decide +kernel
theorem dX13_leave_88 : decode cX13_leave 88 = .ok (.isub, 1) := by decide +kernel
theorem dX13_leave_89 : decode cX13_leave 89 = .ok (.aload_n 0, 1) := by decide +kernel
theorem dX13_leave_90 : decode cX13_leave 90 = .ok (.getfield 87, 3) := by decide +kernel
theorem dX13_leave_93 : decode cX13_leave 93 = .ok (.iload_n 3, 1) := by decide +kernel
theorem dX13_leave_94 : decode cX13_leave 94 = .ok (.iaload, 1) := by decide +kernel
theorem dX13_leave_95 : decode cX13_leave 95 = .ok (.iastore, 1) := by decide +kernel
theorem dX13_leave_96 : decode cX13_leave 96 = .ok (.iconst 0, 1) := by decide +kernel
theorem dX13_leave_97 : decode cX13_leave 97 = .ok (.ireturn, 1) := by decide +kernel
theorem dX13_leave_98 : decode cX13_leave 98 = .ok (.iconst 0, 1) := by decide +kernel
theorem dX13_leave_99 : decode cX13_leave 99 = .ok (.istore_n 2, 1) := by decide +kernel
theorem dX13_leave_100 : decode cX13_leave 100 = .ok (.goto (-98), 3) := by decide +kernel
def w_leave_69 (C : rCx) (Q : Int32 → rS → Prop) (B2 : Int32 → rS → Prop) (a3 : Int32) (σ : rS) : Prop :=
  inb a3 150 ∧
  ((σ.2.2.1 37 (a3).toNatClampNeg) = (-1 : Int32) →
    B2 (0 : Int32) σ) ∧
  (¬ ((σ.2.2.1 37 (a3).toNatClampNeg) = (-1 : Int32)) →
    inb a3 150 ∧
    inb ((σ.1 58) - (1 : Int32)) 12 ∧
    ∀ σ1, σ1 = riU σ 59 (((σ.1 58) - (1 : Int32))).toNatClampNeg (σ.2.2.1 37 (a3).toNatClampNeg) →
    Q (0 : Int32) σ1)
theorem t_leave_69 {C : rCx} (hC : cOK C) {Q : Int32 → rS → Prop} {B2 : Int32 → rS → Prop} (hB2 : ∀ a2' τ, B2 a2' τ → wG C 1 m_leave 2 [some (.ref (co C)), none, some (.int a2'), none] [] τ (qI Q)) {a3 : Int32} {σ : rS} (F : w_leave_69 C Q B2 a3 σ) : wG C 1 m_leave 69 [some (.ref (co C)), none, none, some (.int a3)] [] σ (qI Q) := by
  unfold w_leave_69 at F
  refine s_aln dX13_leave_69 rfl ?_
  refine gf_87 dX13_leave_70 rfl ?_
  refine s_iln dX13_leave_73 rfl ?_
  refine s_ald hC dX13_leave_74 rt_37 F.1 ?_
  replace F := F.2
  refine s_ic dX13_leave_75 ki_m1 ?_
  refine s_ii (t := 98) ((σ.2.2.1 37 (a3).toNatClampNeg) = (-1 : Int32)) dX13_leave_76 rfl rfl (fun hc => ?_) (fun hc => ?_)
  · replace F := F.1 hc
    refine s_ic dX13_leave_98 ki_0 ?_
    refine s_isn dX13_leave_99 (Nat.le_of_ble_eq_true rfl) rfl ?_
    refine s_goto (t := 2) dX13_leave_100 rfl ?_
    exact s_k (hB2 _ _ F) ⟨rfl, rfl, trivial⟩
  · replace F := F.2 hc
    refine s_aln dX13_leave_79 rfl ?_
    refine gf_125 dX13_leave_80 rfl ?_
    refine s_aln dX13_leave_83 rfl ?_
    refine gf_551 dX13_leave_84 rfl ?_
    refine s_ic dX13_leave_87 ki_1 ?_
    refine s_isub dX13_leave_88 ?_
    refine s_aln dX13_leave_89 rfl ?_
    refine gf_87 dX13_leave_90 rfl ?_
    refine s_iln dX13_leave_93 rfl ?_
    refine s_ald hC dX13_leave_94 rt_37 F.1 ?_
    replace F := F.2
    refine s_astb hC dX13_leave_95 rt_59 F.1 (fun σ1 eσ1 => ?_)
    replace F := F.2 σ1 eσ1
    refine s_ic dX13_leave_96 ki_0 ?_
    exact s_ri dX13_leave_97 rfl in_nar F

def w_leave_2 (C : rCx) (Q : Int32 → rS → Prop)  (a2 : Int32) (σ : rS) : Prop :=
  ∃ I : Nat → Int32 → rS → Prop, (∃ n, I n a2 σ) ∧ ∀ n a2 σ, I n a2 σ →
    ∀ σ1, σ1 = siU σ 58 ((σ.1 58) - (1 : Int32)) →
    (¬ ((σ1.1 58) = 0) →
      inb ((σ1.1 58) - (1 : Int32)) 12 ∧
      ∀ v3_2 : Int32, v3_2 = (σ1.2.2.1 59 (((σ1.1 58) - (1 : Int32))).toNatClampNeg) →
      inb v3_2 150 ∧
      inb v3_2 150 ∧
      ((σ1.2.2.1 31 (v3_2).toNatClampNeg) = (σ1.2.2.1 32 (v3_2).toNatClampNeg) →
        w_leave_69 C Q (fun a2' τ => ∃ k < n, I k a2' τ) v3_2 σ1) ∧
      (¬ ((σ1.2.2.1 31 (v3_2).toNatClampNeg) = (σ1.2.2.1 32 (v3_2).toNatClampNeg)) →
        inb v3_2 150 ∧
        inb (σ1.2.2.1 31 (v3_2).toNatClampNeg) 131074 ∧
        cV C 0 m_store [.ref (co C), .int (σ1.2.2.1 39 ((σ1.2.2.1 31 (v3_2).toNatClampNeg)).toNatClampNeg), .int a2] σ1 (fun σ3 =>
          w_leave_69 C Q (fun a2' τ => ∃ k < n, I k a2' τ) v3_2 σ3))) ∧
    ((σ1.1 58) = 0 →
      ∀ σ5, σ5 = siU σ1 61 a2 →
      Q (1 : Int32) σ5)
theorem t_leave_2 {C : rCx} (hC : cOK C) {Q : Int32 → rS → Prop}   {a2 : Int32} {σ : rS} (F : w_leave_2 C Q  a2 σ) : wG C 1 m_leave 2 [some (.ref (co C)), none, some (.int a2), none] [] σ (qI Q) := by
  obtain ⟨I, ⟨n0, hI0⟩, F0⟩ := F
  have key : ∀ n a2 σ, I n a2 σ → wG C 1 m_leave 2 [some (.ref (co C)), none, some (.int a2), none] [] σ (qI Q) := by
    intro n
    induction n using Nat.strongRecOn with
    | _ n ih =>
      intro a2 σ hI
      have F := F0 n a2 σ hI
      clear hI hI0
      refine s_aln dX13_leave_2 rfl ?_
      refine s_dup dX13_leave_3 rfl ?_
      refine gf_551 dX13_leave_4 rfl ?_
      refine s_ic dX13_leave_7 ki_1 ?_
      refine s_isub dX13_leave_8 ?_
      refine pf_551 hC dX13_leave_9 rfl (fun σ1 eσ1 => ?_)
      replace F := F σ1 eσ1
      refine s_aln dX13_leave_12 rfl ?_
      refine gf_551 dX13_leave_13 rfl ?_
      refine s_in (t := 26) ((σ1.1 58) = 0) dX13_leave_16 rfl rfl (fun hc => ?_) (fun hc => ?_)
      · replace F := F.1 hc
        refine s_aln dX13_leave_26 rfl ?_
        refine gf_125 dX13_leave_27 rfl ?_
        refine s_aln dX13_leave_30 rfl ?_
        refine gf_551 dX13_leave_31 rfl ?_
        refine s_ic dX13_leave_34 ki_1 ?_
        refine s_isub dX13_leave_35 ?_
        refine s_ald hC dX13_leave_36 rt_59 F.1 ?_
        replace F := F.2
        refine s_isnb dX13_leave_37 (Nat.le_of_ble_eq_true rfl) (fun v3_2 ev3_2 => ?_)
        replace F := F v3_2 ev3_2
        refine s_aln dX13_leave_38 rfl ?_
        refine gf_69 dX13_leave_39 rfl ?_
        refine s_iln dX13_leave_42 rfl ?_
        refine s_ald hC dX13_leave_43 rt_31 F.1 ?_
        replace F := F.2
        refine s_aln dX13_leave_44 rfl ?_
        refine gf_72 dX13_leave_45 rfl ?_
        refine s_iln dX13_leave_48 rfl ?_
        refine s_ald hC dX13_leave_49 rt_32 F.1 ?_
        replace F := F.2
        refine s_ii (t := 69) ((σ1.2.2.1 31 (v3_2).toNatClampNeg) = (σ1.2.2.1 32 (v3_2).toNatClampNeg)) dX13_leave_50 rfl rfl (fun hc => ?_) (fun hc => ?_)
        · replace F := F.1 hc
          exact s_k (t_leave_69 hC (fun a2' τ hb => by obtain ⟨k, hk, hI⟩ := hb; exact ih k hk a2' τ hI) F) ⟨rfl, rfl, trivial⟩
        · replace F := F.2 hc
          refine s_aln dX13_leave_53 rfl ?_
          refine s_aln dX13_leave_54 rfl ?_
          refine gf_93 dX13_leave_55 rfl ?_
          refine s_aln dX13_leave_58 rfl ?_
          refine gf_69 dX13_leave_59 rfl ?_
          refine s_iln dX13_leave_62 rfl ?_
          refine s_ald hC dX13_leave_63 rt_31 F.1 ?_
          replace F := F.2
          refine s_ald hC dX13_leave_64 rt_39 F.1 ?_
          replace F := F.2
          refine s_iln dX13_leave_65 rfl ?_
          refine k_557 dX13_leave_66 rfl (Nat.le_of_ble_eq_true rfl) (Nat.le_of_ble_eq_true rfl) F (fun σ3 F => ?_)
          exact s_k (t_leave_69 hC (fun a2' τ hb => by obtain ⟨k, hk, hI⟩ := hb; exact ih k hk a2' τ hI) F) ⟨rfl, rfl, trivial⟩
      · replace F := F.2 hc
        refine s_aln dX13_leave_19 rfl ?_
        refine s_iln dX13_leave_20 rfl ?_
        refine pf_554 hC dX13_leave_21 rfl (fun σ5 eσ5 => ?_)
        replace F := F σ5 eσ5
        refine s_ic dX13_leave_24 ki_1 ?_
        exact s_ri dX13_leave_25 rfl in_nar F
  exact key n0 a2 σ hI0

def w_leave_0 (C : rCx) (Q : Int32 → rS → Prop)  (a1 : Int32) (σ : rS) : Prop :=
  w_leave_2 C Q  a1 σ
theorem t_leave_0 {C : rCx} (hC : cOK C) {Q : Int32 → rS → Prop}   {a1 : Int32} {σ : rS} (F : w_leave_0 C Q  a1 σ) : wG C 1 m_leave 0 [some (.ref (co C)), some (.int a1), none, none] [] σ (qI Q) := by
  unfold w_leave_0 at F
  refine s_iln dX13_leave_0 rfl ?_
  refine s_isn dX13_leave_1 (Nat.le_of_ble_eq_true rfl) rfl ?_
  exact s_k (t_leave_2 hC  F) ⟨rfl, rfl, trivial⟩

theorem m_leave_run {C : rCx} (hC : cOK C) {Q : Int32 → rS → Prop} {a1 : Int32} {σ : rS} (F : w_leave_0 C Q a1 σ) : cI C 1 m_leave [.ref (co C), .int a1] σ Q := m_I (m_ent _ 2) (t_leave_0 hC F)

theorem dX13_moveTo_0 : decode cX13_moveTo 0 = .ok (.iload_n 1, 1) := by decide +kernel
theorem dX13_moveTo_1 : decode cX13_moveTo 1 = .ok (.iconst (-1), 1) := by decide +kernel
theorem dX13_moveTo_2 : decode cX13_moveTo 2 = .ok (.if_icmp .ne 9, 3) := by decide +kernel
theorem dX13_moveTo_5 : decode cX13_moveTo 5 = .ok (.aload_n 0, 1) := by decide +kernel
theorem dX13_moveTo_6 : decode cX13_moveTo 6 = .ok (.iconst 0, 1) := by decide +kernel
theorem dX13_moveTo_7 : decode cX13_moveTo 7 = .ok (.invokevirtual 560, 3) := by decide +kernel
theorem dX13_moveTo_10 : decode cX13_moveTo 10 = .ok (.ireturn, 1) := by decide +kernel
theorem dX13_moveTo_11 : decode cX13_moveTo 11 = .ok (.aload_n 0, 1) := by decide +kernel
theorem dX13_moveTo_12 : decode cX13_moveTo 12 = .ok (.getfield 125, 3) := by decide +kernel
theorem dX13_moveTo_15 : decode cX13_moveTo 15 = .ok (.aload_n 0, 1) := by decide +kernel
theorem dX13_moveTo_16 : decode cX13_moveTo 16 = .ok (.getfield 551, 3) := by decide +kernel
theorem dX13_moveTo_19 : decode cX13_moveTo 19 = .ok (.iconst 1, 1) := by decide +kernel
theorem dX13_moveTo_20 : decode cX13_moveTo 20 = .ok (.isub, 1) := by decide +kernel
theorem dX13_moveTo_21 : decode cX13_moveTo 21 = .ok (.iload_n 1, 1) := by decide +kernel
theorem dX13_moveTo_22 : decode cX13_moveTo 22 = .ok (.iastore, 1) := by decide +kernel
theorem dX13_moveTo_23 : decode cX13_moveTo 23 = .ok (.iconst 0, 1) := by decide +kernel
theorem dX13_moveTo_24 : decode cX13_moveTo 24 = .ok (.ireturn, 1) := by decide +kernel
def w_moveTo_0 (C : rCx) (Q : Int32 → rS → Prop)  (a1 : Int32) (σ : rS) : Prop :=
  (¬ (a1 = (-1 : Int32)) →
    inb ((σ.1 58) - (1 : Int32)) 12 ∧
    ∀ σ1, σ1 = riU σ 59 (((σ.1 58) - (1 : Int32))).toNatClampNeg a1 →
    Q (0 : Int32) σ1) ∧
  (a1 = (-1 : Int32) →
    cI C 1 m_leave [.ref (co C), .int (0 : Int32)] σ (fun r3 σ2 =>
      Q r3 σ2))
theorem t_moveTo_0 {C : rCx} (hC : cOK C) {Q : Int32 → rS → Prop}   {a1 : Int32} {σ : rS} (F : w_moveTo_0 C Q  a1 σ) : wG C 2 m_moveTo 0 [some (.ref (co C)), some (.int a1)] [] σ (qI Q) := by
  unfold w_moveTo_0 at F
  refine s_iln dX13_moveTo_0 rfl ?_
  refine s_ic dX13_moveTo_1 ki_m1 ?_
  refine s_iin (t := 11) (a1 = (-1 : Int32)) dX13_moveTo_2 rfl rfl (fun hc => ?_) (fun hc => ?_)
  · replace F := F.1 hc
    refine s_aln dX13_moveTo_11 rfl ?_
    refine gf_125 dX13_moveTo_12 rfl ?_
    refine s_aln dX13_moveTo_15 rfl ?_
    refine gf_551 dX13_moveTo_16 rfl ?_
    refine s_ic dX13_moveTo_19 ki_1 ?_
    refine s_isub dX13_moveTo_20 ?_
    refine s_iln dX13_moveTo_21 rfl ?_
    refine s_astb hC dX13_moveTo_22 rt_59 F.1 (fun σ1 eσ1 => ?_)
    replace F := F.2 σ1 eσ1
    refine s_ic dX13_moveTo_23 ki_0 ?_
    exact s_ri dX13_moveTo_24 rfl in_nar F
  · replace F := F.2 hc
    refine s_aln dX13_moveTo_5 rfl ?_
    refine s_ic dX13_moveTo_6 ki_0 ?_
    refine k_560 dX13_moveTo_7 rfl (Nat.le_of_ble_eq_true rfl) (Nat.le_of_ble_eq_true rfl) F (fun r3 σ2 F => ?_)
    exact s_ri dX13_moveTo_10 rfl in_nar F

theorem m_moveTo_run {C : rCx} (hC : cOK C) {Q : Int32 → rS → Prop} {a1 : Int32} {σ : rS} (F : w_moveTo_0 C Q a1 σ) : cI C 2 m_moveTo [.ref (co C), .int a1] σ Q := m_I (m_ent _ 0) (t_moveTo_0 hC F)

theorem dX13_begin_0 : decode cX13_begin 0 = .ok (.iconst 0, 1) := by decide +kernel
theorem dX13_begin_1 : decode cX13_begin 1 = .ok (.istore_n 1, 1) := by decide +kernel
theorem dX13_begin_2 : decode cX13_begin 2 = .ok (.iload_n 1, 1) := by decide +kernel
theorem dX13_begin_3 : decode cX13_begin 3 = .ok (.bipush 34, 2) := by decide +kernel
theorem dX13_begin_5 : decode cX13_begin 5 = .ok (.if_icmp .ge 33, 3) := by decide +kernel
theorem dX13_begin_8 : decode cX13_begin 8 = .ok (.aload_n 0, 1) := by decide +kernel
theorem dX13_begin_9 : decode cX13_begin 9 = .ok (.getfield 122, 3) := by decide +kernel
theorem dX13_begin_12 : decode cX13_begin 12 = .ok (.iload_n 1, 1) := by decide +kernel
theorem dX13_begin_13 : decode cX13_begin 13 = .ok (.iload_n 1, 1) := by decide +kernel
theorem dX13_begin_14 : decode cX13_begin 14 = .ok (.aload_n 0, 1) := by decide +kernel
theorem dX13_begin_15 : decode cX13_begin 15 = .ok (.getfield 333, 3) := by decide +kernel
theorem dX13_begin_18 : decode cX13_begin 18 = .ok (.if_icmp .ge 12, 3) := by decide +kernel
theorem dX13_begin_21 : decode cX13_begin 21 = .ok (.aload_n 0, 1) := by decide +kernel
theorem dX13_begin_22 : decode cX13_begin 22 = .ok (.getfield 39, 3) := by decide +kernel
theorem dX13_begin_25 : decode cX13_begin 25 = .ok (.iload_n 1, 1) := by decide +kernel
theorem dX13_begin_26 : decode cX13_begin 26 = .ok (.iaload, 1) := by decide +kernel
theorem dX13_begin_27 : decode cX13_begin 27 = .ok (.goto 4, 3) := by decide +kernel
theorem dX13_begin_30 : decode cX13_begin 30 = .ok (.iconst 0, 1) := by decide +kernel
theorem dX13_begin_31 : decode cX13_begin 31 = .ok (.iastore, 1) := by decide +kernel
theorem dX13_begin_32 : decode cX13_begin 32 = .ok (.iinc 1 1, 3) := by decide +kernel
theorem dX13_begin_35 : decode cX13_begin 35 = .ok (.goto (-33), 3) := by decide +kernel
theorem dX13_begin_38 : decode cX13_begin 38 = .ok (.aload_n 0, 1) := by decide +kernel
theorem dX13_begin_39 : decode cX13_begin 39 = .ok (.iconst 1, 1) := by decide +kernel
theorem dX13_begin_40 : decode cX13_begin 40 = .ok (.putfield 551, 3) := by decide +kernel
theorem dX13_begin_43 : decode cX13_begin 43 = .ok (.iconst 0, 1) := by decide +kernel
theorem dX13_begin_44 : decode cX13_begin 44 = .ok (.istore_n 1, 1) := by decide +kernel
theorem dX13_begin_45 : decode cX13_begin 45 = .ok (.iload_n 1, 1) := by decide +kernel
theorem dX13_begin_46 : decode cX13_begin 46 = .ok (.bipush 8, 2) := by decide +kernel
theorem dX13_begin_48 : decode cX13_begin 48 = .ok (.if_icmp .ge 16, 3) := by decide +kernel
theorem dX13_begin_51 : decode cX13_begin 51 = .ok (.aload_n 0, 1) := by decide +kernel
theorem dX13_begin_52 : decode cX13_begin 52 = .ok (.getfield 128, 3) := by decide +kernel
theorem dX13_begin_55 : decode cX13_begin 55 = .ok (.iload_n 1, 1) := by decide +kernel
theorem dX13_begin_56 : decode cX13_begin 56 = .ok (.iconst 0, 1) := by decide +kernel
theorem dX13_begin_57 : decode cX13_begin 57 = .ok (.iastore, 1) := by decide +kernel
theorem dX13_begin_58 : decode cX13_begin 58 = .ok (.iinc 1 1, 3) := by decide +kernel
theorem dX13_begin_61 : decode cX13_begin 61 = .ok (.goto (-16), 3) := by decide +kernel
theorem dX13_begin_64 : decode cX13_begin 64 = .ok (.aload_n 0, 1) := by decide +kernel
theorem dX13_begin_65 : decode cX13_begin 65 = .ok (.aload_n 0, 1) := by decide +kernel
theorem dX13_begin_66 : decode cX13_begin 66 = .ok (.getfield 63, 3) := by decide +kernel
theorem dX13_begin_69 : decode cX13_begin 69 = .ok (.aload_n 0, 1) := by decide +kernel
theorem dX13_begin_70 : decode cX13_begin 70 = .ok (.getfield 487, 3) := by decide +kernel
theorem dX13_begin_73 : decode cX13_begin 73 = .ok (.iaload, 1) := by decide +kernel
theorem dX13_begin_74 : decode cX13_begin 74 = .ok (.invokevirtual 563, 3) := by decide +kernel
theorem dX13_begin_77 : decode cX13_begin 77 = .ok (.ireturn, 1) := by decide +kernel
def w_begin_31 (C : rCx) (Q : Int32 → rS → Prop) (B2 : Int32 → rS → Prop) (a1 : Int32) (s1 : Int32) (s2 : Int32) (σ : rS) : Prop :=
  inb s1 34 ∧
  ∀ σ1, σ1 = riU σ 57 (s1).toNatClampNeg s2 →
  ∀ v1_2 : Int32, v1_2 = a1 + (1 : Int32) →
  B2 v1_2 σ1
theorem t_begin_31 {C : rCx} (hC : cOK C) {Q : Int32 → rS → Prop} {B2 : Int32 → rS → Prop} (hB2 : ∀ a1' τ, B2 a1' τ → wG C 3 m_begin 2 [some (.ref (co C)), some (.int a1')] [] τ (qI Q)) {a1 : Int32} {s1 : Int32} {s2 : Int32} {σ : rS} (F : w_begin_31 C Q B2 a1 s1 s2 σ) : wG C 3 m_begin 31 [some (.ref (co C)), some (.int a1)] [.int s2, .int s1, .ref (cad C 57)] σ (qI Q) := by
  unfold w_begin_31 at F
  refine s_astb hC dX13_begin_31 rt_57 F.1 (fun σ1 eσ1 => ?_)
  replace F := F.2 σ1 eσ1
  refine s_incb dX13_begin_32 ki_1 rfl (Nat.le_of_ble_eq_true rfl) (fun v1_2 ev1_2 => ?_)
  replace F := F v1_2 ev1_2
  refine s_goto (t := 2) dX13_begin_35 rfl ?_
  exact s_k (hB2 _ _ F) ⟨rfl, rfl, trivial⟩

def w_begin_45 (C : rCx) (Q : Int32 → rS → Prop)  (a1 : Int32) (σ : rS) : Prop :=
  ∃ I : Nat → Int32 → rS → Prop, (∃ n, I n a1 σ) ∧ ∀ n a1 σ, I n a1 σ →
    ((8 : Int32) ≤ a1 →
      inb (σ.1 40) 10 ∧
      cI C 2 m_moveTo [.ref (co C), .int (σ.2.2.1 29 ((σ.1 40)).toNatClampNeg)] σ (fun r2 σ1 =>
        Q r2 σ1)) ∧
    (¬ ((8 : Int32) ≤ a1) →
      inb a1 96 ∧
      ∀ σ3, σ3 = riU σ 60 (a1).toNatClampNeg (0 : Int32) →
      ∀ v1_4 : Int32, v1_4 = a1 + (1 : Int32) →
      ∃ k < n, I k v1_4 σ3)
theorem t_begin_45 {C : rCx} (hC : cOK C) {Q : Int32 → rS → Prop}   {a1 : Int32} {σ : rS} (F : w_begin_45 C Q  a1 σ) : wG C 3 m_begin 45 [some (.ref (co C)), some (.int a1)] [] σ (qI Q) := by
  obtain ⟨I, ⟨n0, hI0⟩, F0⟩ := F
  have key : ∀ n a1 σ, I n a1 σ → wG C 3 m_begin 45 [some (.ref (co C)), some (.int a1)] [] σ (qI Q) := by
    intro n
    induction n using Nat.strongRecOn with
    | _ n ih =>
      intro a1 σ hI
      have F := F0 n a1 σ hI
      clear hI hI0
      refine s_iln dX13_begin_45 rfl ?_
      refine s_bi dX13_begin_46 kb_8 ?_
      refine s_ii (t := 64) ((8 : Int32) ≤ a1) dX13_begin_48 rfl rfl (fun hc => ?_) (fun hc => ?_)
      · replace F := F.1 hc
        refine s_aln dX13_begin_64 rfl ?_
        refine s_aln dX13_begin_65 rfl ?_
        refine gf_63 dX13_begin_66 rfl ?_
        refine s_aln dX13_begin_69 rfl ?_
        refine gf_487 dX13_begin_70 rfl ?_
        refine s_ald hC dX13_begin_73 rt_29 F.1 ?_
        replace F := F.2
        refine k_563 dX13_begin_74 rfl (Nat.le_of_ble_eq_true rfl) (Nat.le_of_ble_eq_true rfl) F (fun r2 σ1 F => ?_)
        exact s_ri dX13_begin_77 rfl in_nar F
      · replace F := F.2 hc
        refine s_aln dX13_begin_51 rfl ?_
        refine gf_128 dX13_begin_52 rfl ?_
        refine s_iln dX13_begin_55 rfl ?_
        refine s_ic dX13_begin_56 ki_0 ?_
        refine s_astb hC dX13_begin_57 rt_60 F.1 (fun σ3 eσ3 => ?_)
        replace F := F.2 σ3 eσ3
        refine s_incb dX13_begin_58 ki_1 rfl (Nat.le_of_ble_eq_true rfl) (fun v1_4 ev1_4 => ?_)
        replace F := F v1_4 ev1_4
        refine s_goto (t := 45) dX13_begin_61 rfl ?_
        obtain ⟨k, hk, hI⟩ := F
        exact s_k (ih k hk _ _ hI) ⟨rfl, rfl, trivial⟩
  exact key n0 a1 σ hI0

def w_begin_2 (C : rCx) (Q : Int32 → rS → Prop)  (a1 : Int32) (σ : rS) : Prop :=
  ∃ I : Nat → Int32 → rS → Prop, (∃ n, I n a1 σ) ∧ ∀ n a1 σ, I n a1 σ →
    ((34 : Int32) ≤ a1 →
      ∀ σ1, σ1 = siU σ 58 (1 : Int32) →
      w_begin_45 C Q  (0 : Int32) σ1) ∧
    (¬ ((34 : Int32) ≤ a1) →
      ((σ.1 15) ≤ a1 →
        w_begin_31 C Q (fun a1' τ => ∃ k < n, I k a1' τ) a1 a1 (0 : Int32) σ) ∧
      (¬ ((σ.1 15) ≤ a1) →
        inb a1 10 ∧
        w_begin_31 C Q (fun a1' τ => ∃ k < n, I k a1' τ) a1 a1 (σ.2.2.1 21 (a1).toNatClampNeg) σ))
theorem t_begin_2 {C : rCx} (hC : cOK C) {Q : Int32 → rS → Prop}   {a1 : Int32} {σ : rS} (F : w_begin_2 C Q  a1 σ) : wG C 3 m_begin 2 [some (.ref (co C)), some (.int a1)] [] σ (qI Q) := by
  obtain ⟨I, ⟨n0, hI0⟩, F0⟩ := F
  have key : ∀ n a1 σ, I n a1 σ → wG C 3 m_begin 2 [some (.ref (co C)), some (.int a1)] [] σ (qI Q) := by
    intro n
    induction n using Nat.strongRecOn with
    | _ n ih =>
      intro a1 σ hI
      have F := F0 n a1 σ hI
      clear hI hI0
      refine s_iln dX13_begin_2 rfl ?_
      refine s_bi dX13_begin_3 kb_34 ?_
      refine s_ii (t := 38) ((34 : Int32) ≤ a1) dX13_begin_5 rfl rfl (fun hc => ?_) (fun hc => ?_)
      · replace F := F.1 hc
        refine s_aln dX13_begin_38 rfl ?_
        refine s_ic dX13_begin_39 ki_1 ?_
        refine pf_551 hC dX13_begin_40 rfl (fun σ1 eσ1 => ?_)
        replace F := F σ1 eσ1
        refine s_ic dX13_begin_43 ki_0 ?_
        refine s_isn dX13_begin_44 (Nat.le_of_ble_eq_true rfl) rfl ?_
        exact s_k (t_begin_45 hC  F) ⟨rfl, rfl, trivial⟩
      · replace F := F.2 hc
        refine s_aln dX13_begin_8 rfl ?_
        refine gf_122 dX13_begin_9 rfl ?_
        refine s_iln dX13_begin_12 rfl ?_
        refine s_iln dX13_begin_13 rfl ?_
        refine s_aln dX13_begin_14 rfl ?_
        refine gf_333 dX13_begin_15 rfl ?_
        refine s_ii (t := 30) ((σ.1 15) ≤ a1) dX13_begin_18 rfl rfl (fun hc => ?_) (fun hc => ?_)
        · replace F := F.1 hc
          refine s_ic dX13_begin_30 ki_0 ?_
          exact s_k (t_begin_31 hC (fun a1' τ hb => by obtain ⟨k, hk, hI⟩ := hb; exact ih k hk a1' τ hI) F) ⟨rfl, rfl, trivial⟩
        · replace F := F.2 hc
          refine s_aln dX13_begin_21 rfl ?_
          refine gf_39 dX13_begin_22 rfl ?_
          refine s_iln dX13_begin_25 rfl ?_
          refine s_ald hC dX13_begin_26 rt_21 F.1 ?_
          replace F := F.2
          refine s_goto (t := 31) dX13_begin_27 rfl ?_
          exact s_k (t_begin_31 hC (fun a1' τ hb => by obtain ⟨k, hk, hI⟩ := hb; exact ih k hk a1' τ hI) F) ⟨rfl, rfl, trivial⟩
  exact key n0 a1 σ hI0

def w_begin_0 (C : rCx) (Q : Int32 → rS → Prop)   (σ : rS) : Prop :=
  w_begin_2 C Q  (0 : Int32) σ
theorem t_begin_0 {C : rCx} (hC : cOK C) {Q : Int32 → rS → Prop}    {σ : rS} (F : w_begin_0 C Q   σ) : wG C 3 m_begin 0 [some (.ref (co C)), none] [] σ (qI Q) := by
  unfold w_begin_0 at F
  refine s_ic dX13_begin_0 ki_0 ?_
  refine s_isn dX13_begin_1 (Nat.le_of_ble_eq_true rfl) rfl ?_
  exact s_k (t_begin_2 hC  F) ⟨rfl, rfl, trivial⟩

theorem m_begin_run {C : rCx} (hC : cOK C) {Q : Int32 → rS → Prop}  {σ : rS} (F : w_begin_0 C Q  σ) : cI C 3 m_begin [.ref (co C)] σ Q := m_I (m_ent _ 1) (t_begin_0 hC F)

theorem dX13_fail_0 : decode cX13_fail 0 = .ok (.aload_n 0, 1) := by decide +kernel
theorem dX13_fail_1 : decode cX13_fail 1 = .ok (.iload_n 1, 1) := by decide +kernel
theorem dX13_fail_2 : decode cX13_fail 2 = .ok (.putfield 554, 3) := by decide +kernel
theorem dX13_fail_5 : decode cX13_fail 5 = .ok (.iconst 2, 1) := by decide +kernel
theorem dX13_fail_6 : decode cX13_fail 6 = .ok (.ireturn, 1) := by decide +kernel
def w_fail_0 (C : rCx) (Q : Int32 → rS → Prop)  (a1 : Int32) (σ : rS) : Prop :=
  ∀ σ1, σ1 = siU σ 61 a1 →
  Q (2 : Int32) σ1
theorem t_fail_0 {C : rCx} (hC : cOK C) {Q : Int32 → rS → Prop}   {a1 : Int32} {σ : rS} (F : w_fail_0 C Q  a1 σ) : wG C 0 m_fail 0 [some (.ref (co C)), some (.int a1)] [] σ (qI Q) := by
  unfold w_fail_0 at F
  refine s_aln dX13_fail_0 rfl ?_
  refine s_iln dX13_fail_1 rfl ?_
  refine pf_554 hC dX13_fail_2 rfl (fun σ1 eσ1 => ?_)
  replace F := F σ1 eσ1
  refine s_ic dX13_fail_5 ki_2 ?_
  exact s_ri dX13_fail_6 rfl in_nar F

theorem m_fail_run {C : rCx} (hC : cOK C) {Q : Int32 → rS → Prop} {a1 : Int32} {σ : rS} (F : w_fail_0 C Q a1 σ) : cI C 0 m_fail [.ref (co C), .int a1] σ Q := m_I (m_ent _ 0) (t_fail_0 hC F)

theorem dX13_workAt_0 : decode cX13_workAt 0 = .ok (.aload_n 0, 1) := by decide +kernel
theorem dX13_workAt_1 : decode cX13_workAt 1 = .ok (.iload_n 1, 1) := by decide +kernel
theorem dX13_workAt_2 : decode cX13_workAt 2 = .ok (.putfield 306, 3) := by decide +kernel
theorem dX13_workAt_5 : decode cX13_workAt 5 = .ok (.aload_n 0, 1) := by decide +kernel
theorem dX13_workAt_6 : decode cX13_workAt 6 = .ok (.invokevirtual 403, 3) := by decide +kernel
theorem dX13_workAt_9 : decode cX13_workAt 9 = .ok (.ireturn, 1) := by decide +kernel
def w_workAt_0 (C : rCx) (Q : Int32 → rS → Prop)  (a1 : Int32) (σ : rS) : Prop :=
  ∀ σ1, σ1 = siU σ 10 a1 →
  cI C 6 m_expression [.ref (co C)] σ1 (fun r3 σ2 =>
    Q r3 σ2)
theorem t_workAt_0 {C : rCx} (hC : cOK C) {Q : Int32 → rS → Prop}   {a1 : Int32} {σ : rS} (F : w_workAt_0 C Q  a1 σ) : wG C 7 m_workAt 0 [some (.ref (co C)), some (.int a1)] [] σ (qI Q) := by
  unfold w_workAt_0 at F
  refine s_aln dX13_workAt_0 rfl ?_
  refine s_iln dX13_workAt_1 rfl ?_
  refine pf_306 hC dX13_workAt_2 rfl (fun σ1 eσ1 => ?_)
  replace F := F σ1 eσ1
  refine s_aln dX13_workAt_5 rfl ?_
  refine k_403 dX13_workAt_6 rfl (Nat.le_of_ble_eq_true rfl) (Nat.le_of_ble_eq_true rfl) F (fun r3 σ2 F => ?_)
  exact s_ri dX13_workAt_9 rfl in_nar F

theorem m_workAt_run {C : rCx} (hC : cOK C) {Q : Int32 → rS → Prop} {a1 : Int32} {σ : rS} (F : w_workAt_0 C Q a1 σ) : cI C 7 m_workAt [.ref (co C), .int a1] σ Q := m_I (m_ent _ 0) (t_workAt_0 hC F)

theorem dX13_findPlace_0 : decode cX13_findPlace 0 = .ok (.aload_n 0, 1) := by decide +kernel
theorem dX13_findPlace_1 : decode cX13_findPlace 1 = .ok (.getfield 66, 3) := by decide +kernel
theorem dX13_findPlace_4 : decode cX13_findPlace 4 = .ok (.iload_n 1, 1) := by decide +kernel
theorem dX13_findPlace_5 : decode cX13_findPlace 5 = .ok (.iaload, 1) := by decide +kernel
theorem dX13_findPlace_6 : decode cX13_findPlace 6 = .ok (.iconst 1, 1) := by decide +kernel
theorem dX13_findPlace_7 : decode cX13_findPlace 7 = .ok (.if_icmp .ne 14, 3) := by decide +kernel
theorem dX13_findPlace_10 : decode cX13_findPlace 10 = .ok (.aload_n 0, 1) := by decide +kernel
theorem dX13_findPlace_11 : decode cX13_findPlace 11 = .ok (.getfield 69, 3) := by decide +kernel
theorem dX13_findPlace_14 : decode cX13_findPlace 14 = .ok (.iload_n 1, 1) := by decide +kernel
theorem dX13_findPlace_15 : decode cX13_findPlace 15 = .ok (.iaload, 1) := by decide +kernel
theorem dX13_findPlace_16 : decode cX13_findPlace 16 = .ok (.iconst 1, 1) := by decide +kernel
theorem dX13_findPlace_17 : decode cX13_findPlace 17 = .ok (.iadd, 1) := by decide +kernel
theorem dX13_findPlace_18 : decode cX13_findPlace 18 = .ok (.goto 9, 3) := by decide +kernel
theorem dX13_findPlace_21 : decode cX13_findPlace 21 = .ok (.aload_n 0, 1) := by decide +kernel
theorem dX13_findPlace_22 : decode cX13_findPlace 22 = .ok (.getfield 69, 3) := by decide +kernel
theorem dX13_findPlace_25 : decode cX13_findPlace 25 = .ok (.iload_n 1, 1) := by decide +kernel
theorem dX13_findPlace_26 : decode cX13_findPlace 26 = .ok (.iaload, 1) := by decide +kernel
theorem dX13_findPlace_27 : decode cX13_findPlace 27 = .ok (.istore_n 2, 1) := by decide +kernel
theorem dX13_findPlace_28 : decode cX13_findPlace 28 = .ok (.aload_n 0, 1) := by decide +kernel
theorem dX13_findPlace_29 : decode cX13_findPlace 29 = .ok (.aload_n 0, 1) := by decide +kernel
theorem dX13_findPlace_30 : decode cX13_findPlace 30 = .ok (.getfield 93, 3) := by decide +kernel
theorem dX13_findPlace_33 : decode cX13_findPlace 33 = .ok (.iload_n 2, 1) := by decide +kernel
theorem dX13_findPlace_34 : decode cX13_findPlace 34 = .ok (.iaload, 1) := by decide +kernel
theorem dX13_findPlace_35 : decode cX13_findPlace 35 = .ok (.putfield 566, 3) := by decide +kernel
theorem dX13_findPlace_38 : decode cX13_findPlace 38 = .ok (.aload_n 0, 1) := by decide +kernel
theorem dX13_findPlace_39 : decode cX13_findPlace 39 = .ok (.getfield 566, 3) := by decide +kernel
theorem dX13_findPlace_42 : decode cX13_findPlace 42 = .ok (.sipush 200, 3) := by decide +kernel
theorem dX13_findPlace_45 : decode cX13_findPlace 45 = .ok (.if_icmp .lt 56, 3) := by decide +kernel
theorem dX13_findPlace_48 : decode cX13_findPlace 48 = .ok (.aload_n 0, 1) := by decide +kernel
theorem dX13_findPlace_49 : decode cX13_findPlace 49 = .ok (.aload_n 0, 1) := by decide +kernel
theorem dX13_findPlace_50 : decode cX13_findPlace 50 = .ok (.getfield 566, 3) := by decide +kernel
theorem dX13_findPlace_53 : decode cX13_findPlace 53 = .ok (.aload_n 0, 1) := by decide +kernel
theorem dX13_findPlace_54 : decode cX13_findPlace 54 = .ok (.iload_n 2, 1) := by decide +kernel
theorem dX13_findPlace_55 : decode cX13_findPlace 55 = .ok (.iconst 2, 1) := by decide +kernel
theorem dX13_findPlace_56 : decode cX13_findPlace 56 = .ok (.iadd, 1) := by decide +kernel
theorem dX13_findPlace_57 : decode cX13_findPlace 57 = .ok (.invokevirtual 569, 3) := by decide +kernel
theorem dX13_findPlace_60 : decode cX13_findPlace 60 = .ok (.invokevirtual 475, 3) := by decide +kernel
theorem dX13_findPlace_63 : decode cX13_findPlace 63 = .ok (.istore_n 3, 1) := by decide +kernel
theorem dX13_findPlace_64 : decode cX13_findPlace 64 = .ok (.aload_n 0, 1) := by decide +kernel
theorem dX13_findPlace_65 : decode cX13_findPlace 65 = .ok (.aload_n 0, 1) := by decide +kernel
theorem dX13_findPlace_66 : decode cX13_findPlace 66 = .ok (.getfield 428, 3) := by decide +kernel
theorem dX13_findPlace_69 : decode cX13_findPlace 69 = .ok (.ifCond .le 10, 3) := by decide +kernel
theorem dX13_findPlace_72 : decode cX13_findPlace 72 = .ok (.aload_n 0, 1) := by decide +kernel
theorem dX13_findPlace_73 : decode cX13_findPlace 73 = .ok (.getfield 428, 3) := by decide +kernel
theorem dX13_findPlace_76 : decode cX13_findPlace 76 = .ok (.goto 13, 3) := by decide +kernel
theorem dX13_findPlace_79 : decode cX13_findPlace 79 = .ok (.iload_n 3, 1) := by decide +kernel
theorem dX13_findPlace_80 : decode cX13_findPlace 80 = .ok (.iconst (-1), 1) := by decide +kernel
theorem dX13_findPlace_81 : decode cX13_findPlace 81 = .ok (.if_icmp .ne 7, 3) := by decide +kernel
theorem dX13_findPlace_84 : decode cX13_findPlace 84 = .ok (.iconst 1, 1) := by decide +kernel
theorem dX13_findPlace_85 : decode cX13_findPlace 85 = .ok (.goto 4, 3) := by decide +kernel
theorem dX13_findPlace_88 : decode cX13_findPlace 88 = .ok (.iconst 0, 1) := by decide +kernel
theorem dX13_findPlace_89 : decode cX13_findPlace 89 = .ok (.putfield 428, 3) := by decide +kernel
theorem dX13_findPlace_92 : decode cX13_findPlace 92 = .ok (.aload_n 0, 1) := by decide +kernel
theorem dX13_findPlace_93 : decode cX13_findPlace 93 = .ok (.sipush 400, 3) := by decide +kernel
theorem dX13_findPlace_96 : decode cX13_findPlace 96 = .ok (.iload_n 3, 1) := by decide +kernel
theorem dX13_findPlace_97 : decode cX13_findPlace 97 = .ok (.iadd, 1) := by decide +kernel
theorem dX13_findPlace_98 : decode cX13_findPlace 98 = .ok (.putfield 566, 3) := by decide +kernel
theorem dX13_findPlace_101 : decode cX13_findPlace 101 = .ok (.return_, 1) := by decide +kernel
def w_findPlace_89 (C : rCx) (Q : rS → Prop)  (a3 : Int32) (s1 : Int32) (σ : rS) : Prop :=
  ∀ σ1, σ1 = siU σ 47 s1 →
  ∀ σ2, σ2 = siU σ1 67 ((400 : Int32) + a3) →
  Q σ2
theorem t_findPlace_89 {C : rCx} (hC : cOK C) {Q : rS → Prop}   {a3 : Int32} {s1 : Int32} {σ : rS} (F : w_findPlace_89 C Q  a3 s1 σ) : wG C 8 m_findPlace 89 [some (.ref (co C)), none, none, some (.int a3)] [.int s1, .ref (co C)] σ (qV Q) := by
  unfold w_findPlace_89 at F
  refine pf_428 hC dX13_findPlace_89 rfl (fun σ1 eσ1 => ?_)
  replace F := F σ1 eσ1
  refine s_aln dX13_findPlace_92 rfl ?_
  refine s_si dX13_findPlace_93 ks_400 ?_
  refine s_iln dX13_findPlace_96 rfl ?_
  refine s_iadd dX13_findPlace_97 ?_
  refine pf_566 hC dX13_findPlace_98 rfl (fun σ2 eσ2 => ?_)
  replace F := F σ2 eσ2
  exact s_rv dX13_findPlace_101 rfl F

def w_findPlace_27 (C : rCx) (Q : rS → Prop)  (s0 : Int32) (σ : rS) : Prop :=
  inb s0 131074 ∧
  ∀ σ1, σ1 = siU σ 67 (σ.2.2.1 39 (s0).toNatClampNeg) →
  ((σ1.1 67) < (200 : Int32) →
    Q σ1) ∧
  (¬ ((σ1.1 67) < (200 : Int32)) →
    cI C 7 m_workAt [.ref (co C), .int (s0 + (2 : Int32))] σ1 (fun r3 σ2 =>
      cI C 0 m_cellOf [.ref (co C), .int (σ1.1 67), .int r3] σ2 (fun r5 σ4 =>
        ((σ4.1 47) ≤ 0 →
          (¬ (r5 = (-1 : Int32)) →
            w_findPlace_89 C Q  r5 (0 : Int32) σ4) ∧
          (r5 = (-1 : Int32) →
            w_findPlace_89 C Q  r5 (1 : Int32) σ4)) ∧
        (¬ ((σ4.1 47) ≤ 0) →
          w_findPlace_89 C Q  r5 (σ4.1 47) σ4))))
theorem t_findPlace_27 {C : rCx} (hC : cOK C) {Q : rS → Prop}   {s0 : Int32} {σ : rS} (F : w_findPlace_27 C Q  s0 σ) : wG C 8 m_findPlace 27 [some (.ref (co C)), none, none, none] [.int s0] σ (qV Q) := by
  unfold w_findPlace_27 at F
  refine s_isn dX13_findPlace_27 (Nat.le_of_ble_eq_true rfl) rfl ?_
  refine s_aln dX13_findPlace_28 rfl ?_
  refine s_aln dX13_findPlace_29 rfl ?_
  refine gf_93 dX13_findPlace_30 rfl ?_
  refine s_iln dX13_findPlace_33 rfl ?_
  refine s_ald hC dX13_findPlace_34 rt_39 F.1 ?_
  replace F := F.2
  refine pf_566 hC dX13_findPlace_35 rfl (fun σ1 eσ1 => ?_)
  replace F := F σ1 eσ1
  refine s_aln dX13_findPlace_38 rfl ?_
  refine gf_566 dX13_findPlace_39 rfl ?_
  refine s_si dX13_findPlace_42 ks_200 ?_
  refine s_ii (t := 101) ((σ1.1 67) < (200 : Int32)) dX13_findPlace_45 rfl rfl (fun hc => ?_) (fun hc => ?_)
  · replace F := F.1 hc
    exact s_rv dX13_findPlace_101 rfl F
  · replace F := F.2 hc
    refine s_aln dX13_findPlace_48 rfl ?_
    refine s_aln dX13_findPlace_49 rfl ?_
    refine gf_566 dX13_findPlace_50 rfl ?_
    refine s_aln dX13_findPlace_53 rfl ?_
    refine s_iln dX13_findPlace_54 rfl ?_
    refine s_ic dX13_findPlace_55 ki_2 ?_
    refine s_iadd dX13_findPlace_56 ?_
    refine k_569 dX13_findPlace_57 rfl (Nat.le_of_ble_eq_true rfl) (Nat.le_of_ble_eq_true rfl) F (fun r3 σ2 F => ?_)
    refine k_475 dX13_findPlace_60 rfl (Nat.le_of_ble_eq_true rfl) (Nat.le_of_ble_eq_true rfl) F (fun r5 σ4 F => ?_)
    refine s_isn dX13_findPlace_63 (Nat.le_of_ble_eq_true rfl) rfl ?_
    refine s_aln dX13_findPlace_64 rfl ?_
    refine s_aln dX13_findPlace_65 rfl ?_
    refine gf_428 dX13_findPlace_66 rfl ?_
    refine s_i (t := 79) ((σ4.1 47) ≤ 0) dX13_findPlace_69 rfl rfl (fun hc => ?_) (fun hc => ?_)
    · replace F := F.1 hc
      refine s_iln dX13_findPlace_79 rfl ?_
      refine s_ic dX13_findPlace_80 ki_m1 ?_
      refine s_iin (t := 88) (r5 = (-1 : Int32)) dX13_findPlace_81 rfl rfl (fun hc => ?_) (fun hc => ?_)
      · replace F := F.1 hc
        refine s_ic dX13_findPlace_88 ki_0 ?_
        exact s_k (t_findPlace_89 hC  F) ⟨rfl, rfl, trivial⟩
      · replace F := F.2 hc
        refine s_ic dX13_findPlace_84 ki_1 ?_
        refine s_goto (t := 89) dX13_findPlace_85 rfl ?_
        exact s_k (t_findPlace_89 hC  F) ⟨rfl, rfl, trivial⟩
    · replace F := F.2 hc
      refine s_aln dX13_findPlace_72 rfl ?_
      refine gf_428 dX13_findPlace_73 rfl ?_
      refine s_goto (t := 89) dX13_findPlace_76 rfl ?_
      exact s_k (t_findPlace_89 hC  F) ⟨rfl, rfl, trivial⟩

def w_findPlace_0 (C : rCx) (Q : rS → Prop)  (a1 : Int32) (σ : rS) : Prop :=
  inb a1 150 ∧
  (¬ ((σ.2.2.1 30 (a1).toNatClampNeg) = (1 : Int32)) →
    inb a1 150 ∧
    w_findPlace_27 C Q  (σ.2.2.1 31 (a1).toNatClampNeg) σ) ∧
  ((σ.2.2.1 30 (a1).toNatClampNeg) = (1 : Int32) →
    inb a1 150 ∧
    w_findPlace_27 C Q  ((σ.2.2.1 31 (a1).toNatClampNeg) + (1 : Int32)) σ)
theorem t_findPlace_0 {C : rCx} (hC : cOK C) {Q : rS → Prop}   {a1 : Int32} {σ : rS} (F : w_findPlace_0 C Q  a1 σ) : wG C 8 m_findPlace 0 [some (.ref (co C)), some (.int a1), none, none] [] σ (qV Q) := by
  unfold w_findPlace_0 at F
  refine s_aln dX13_findPlace_0 rfl ?_
  refine gf_66 dX13_findPlace_1 rfl ?_
  refine s_iln dX13_findPlace_4 rfl ?_
  refine s_ald hC dX13_findPlace_5 rt_30 F.1 ?_
  replace F := F.2
  refine s_ic dX13_findPlace_6 ki_1 ?_
  refine s_iin (t := 21) ((σ.2.2.1 30 (a1).toNatClampNeg) = (1 : Int32)) dX13_findPlace_7 rfl rfl (fun hc => ?_) (fun hc => ?_)
  · replace F := F.1 hc
    refine s_aln dX13_findPlace_21 rfl ?_
    refine gf_69 dX13_findPlace_22 rfl ?_
    refine s_iln dX13_findPlace_25 rfl ?_
    refine s_ald hC dX13_findPlace_26 rt_31 F.1 ?_
    replace F := F.2
    exact s_k (t_findPlace_27 hC  F) ⟨rfl, trivial⟩
  · replace F := F.2 hc
    refine s_aln dX13_findPlace_10 rfl ?_
    refine gf_69 dX13_findPlace_11 rfl ?_
    refine s_iln dX13_findPlace_14 rfl ?_
    refine s_ald hC dX13_findPlace_15 rt_31 F.1 ?_
    replace F := F.2
    refine s_ic dX13_findPlace_16 ki_1 ?_
    refine s_iadd dX13_findPlace_17 ?_
    refine s_goto (t := 27) dX13_findPlace_18 rfl ?_
    exact s_k (t_findPlace_27 hC  F) ⟨rfl, trivial⟩

theorem m_findPlace_run {C : rCx} (hC : cOK C) {Q : rS → Prop} {a1 : Int32} {σ : rS} (F : w_findPlace_0 C Q a1 σ) : cV C 8 m_findPlace [.ref (co C), .int a1] σ Q := m_V (m_ent _ 2) (t_findPlace_0 hC F)

theorem dX13_call_0 : decode cX13_call 0 = .ok (.aload_n 0, 1) := by decide +kernel
theorem dX13_call_1 : decode cX13_call 1 = .ok (.getfield 72, 3) := by decide +kernel
theorem dX13_call_4 : decode cX13_call 4 = .ok (.iload_n 1, 1) := by decide +kernel
theorem dX13_call_5 : decode cX13_call 5 = .ok (.iaload, 1) := by decide +kernel
theorem dX13_call_6 : decode cX13_call 6 = .ok (.istore_n 2, 1) := by decide +kernel
theorem dX13_call_7 : decode cX13_call 7 = .ok (.aload_n 0, 1) := by decide +kernel
theorem dX13_call_8 : decode cX13_call 8 = .ok (.getfield 93, 3) := by decide +kernel
theorem dX13_call_11 : decode cX13_call 11 = .ok (.iload_n 2, 1) := by decide +kernel
theorem dX13_call_12 : decode cX13_call 12 = .ok (.iaload, 1) := by decide +kernel
theorem dX13_call_13 : decode cX13_call 13 = .ok (.sipush 300, 3) := by decide +kernel
theorem dX13_call_16 : decode cX13_call 16 = .ok (.isub, 1) := by decide +kernel
theorem dX13_call_17 : decode cX13_call 17 = .ok (.istore_n 3, 1) := by decide +kernel
theorem dX13_call_18 : decode cX13_call 18 = .ok (.aload_n 0, 1) := by decide +kernel
theorem dX13_call_19 : decode cX13_call 19 = .ok (.iload_n 2, 1) := by decide +kernel
theorem dX13_call_20 : decode cX13_call 20 = .ok (.iconst 2, 1) := by decide +kernel
theorem dX13_call_21 : decode cX13_call 21 = .ok (.iadd, 1) := by decide +kernel
theorem dX13_call_22 : decode cX13_call 22 = .ok (.putfield 306, 3) := by decide +kernel
theorem dX13_call_25 : decode cX13_call 25 = .ok (.iconst 0, 1) := by decide +kernel
theorem dX13_call_26 : decode cX13_call 26 = .ok (.istore 4, 2) := by decide +kernel
theorem dX13_call_28 : decode cX13_call 28 = .ok (.iload 4, 2) := by decide +kernel
theorem dX13_call_30 : decode cX13_call 30 = .ok (.aload_n 0, 1) := by decide +kernel
theorem dX13_call_31 : decode cX13_call 31 = .ok (.getfield 54, 3) := by decide +kernel
theorem dX13_call_34 : decode cX13_call 34 = .ok (.iload_n 3, 1) := by decide +kernel
theorem dX13_call_35 : decode cX13_call 35 = .ok (.iaload, 1) := by decide +kernel
theorem dX13_call_36 : decode cX13_call 36 = .ok (.if_icmp .ge 37, 3) := by decide +kernel
theorem dX13_call_39 : decode cX13_call 39 = .ok (.aload_n 0, 1) := by decide +kernel
theorem dX13_call_40 : decode cX13_call 40 = .ok (.getfield 428, 3) := by decide +kernel
theorem dX13_call_43 : decode cX13_call 43 = .ok (.ifCond .ne 30, 3) := by decide +kernel
theorem dX13_call_46 : decode cX13_call 46 = .ok (.aload_n 0, 1) := by decide +kernel
theorem dX13_call_47 : decode cX13_call 47 = .ok (.getfield 137, 3) := by decide +kernel
theorem dX13_call_50 : decode cX13_call 50 = .ok (.iload 4, 2) := by decide +kernel
theorem dX13_call_52 : decode cX13_call 52 = .ok (.aload_n 0, 1) := by decide +kernel
theorem dX13_call_53 : decode cX13_call 53 = .ok (.invokevirtual 403, 3) := by decide +kernel
theorem dX13_call_56 : decode cX13_call 56 = .ok (.iastore, 1) := by decide +kernel
theorem dX13_call_57 : decode cX13_call 57 = .ok (.aload_n 0, 1) := by decide +kernel
theorem dX13_call_58 : decode cX13_call 58 = .ok (.dup, 1) := by decide +kernel
theorem dX13_call_59 : decode cX13_call 59 = .ok (.getfield 306, 3) := by decide +kernel
theorem dX13_call_62 : decode cX13_call 62 = .ok (.iconst 1, 1) := by decide +kernel
theorem dX13_call_63 : decode cX13_call 63 = .ok (.iadd, 1) := by decide +kernel
theorem dX13_call_64 : decode cX13_call 64 = .ok (.putfield 306, 3) := by decide +kernel
theorem dX13_call_67 : decode cX13_call 67 = .ok (.iinc 4 1, 3) := by decide +kernel
theorem dX13_call_70 : decode cX13_call 70 = .ok (.goto (-42), 3) := by decide +kernel
theorem dX13_call_73 : decode cX13_call 73 = .ok (.aload_n 0, 1) := by decide +kernel
theorem dX13_call_74 : decode cX13_call 74 = .ok (.getfield 428, 3) := by decide +kernel
theorem dX13_call_77 : decode cX13_call 77 = .ok (.ifCond .gt 12, 3) := by decide +kernel
theorem dX13_call_80 : decode cX13_call 80 = .ok (.aload_n 0, 1) := by decide +kernel
theorem dX13_call_81 : decode cX13_call 81 = .ok (.getfield 551, 3) := by decide +kernel
theorem dX13_call_84 : decode cX13_call 84 = .ok (.bipush 12, 2) := by decide +kernel
theorem dX13_call_86 : decode cX13_call 86 = .ok (.if_icmp .ne 23, 3) := by decide +kernel
theorem dX13_call_89 : decode cX13_call 89 = .ok (.aload_n 0, 1) := by decide +kernel
theorem dX13_call_90 : decode cX13_call 90 = .ok (.aload_n 0, 1) := by decide +kernel
theorem dX13_call_91 : decode cX13_call 91 = .ok (.getfield 428, 3) := by decide +kernel
theorem dX13_call_94 : decode cX13_call 94 = .ok (.ifCond .le 10, 3) := by decide +kernel
theorem dX13_call_97 : decode cX13_call 97 = .ok (.aload_n 0, 1) := by decide +kernel
theorem dX13_call_98 : decode cX13_call 98 = .ok (.getfield 428, 3) := by decide +kernel
theorem dX13_call_101 : decode cX13_call 101 = .ok (.goto 4, 3) := by decide +kernel
theorem dX13_call_104 : decode cX13_call 104 = .ok (.iconst 4, 1) := by decide +kernel
theorem dX13_call_105 : decode cX13_call 105 = .ok (.invokevirtual 572, 3) := by decide +kernel
theorem dX13_call_108 : decode cX13_call 108 = .ok (.ireturn, 1) := by decide +kernel
theorem dX13_call_109 : decode cX13_call 109 = .ok (.aload_n 0, 1) := by decide +kernel
theorem dX13_call_110 : decode cX13_call 110 = .ok (.dup, 1) := by decide +kernel
theorem dX13_call_111 : decode cX13_call 111 = .ok (.getfield 551, 3) := by decide +kernel
theorem dX13_call_114 : decode cX13_call 114 = .ok (.iconst 1, 1) := by decide +kernel
theorem dX13_call_115 : decode cX13_call 115 = .ok (.iadd, 1) := by decide +kernel
theorem dX13_call_116 : decode cX13_call 116 = .ok (.putfield 551, 3) := by decide +kernel
theorem dX13_call_119 : decode cX13_call 119 = .ok (.iconst 0, 1) := by decide +kernel
theorem dX13_call_120 : decode cX13_call 120 = .ok (.istore 4, 2) := by decide +kernel
theorem dX13_call_122 : decode cX13_call 122 = .ok (.iload 4, 2) := by decide +kernel
theorem dX13_call_124 : decode cX13_call 124 = .ok (.bipush 8, 2) := by decide +kernel
theorem dX13_call_126 : decode cX13_call 126 = .ok (.if_icmp .ge 48, 3) := by decide +kernel
theorem dX13_call_129 : decode cX13_call 129 = .ok (.aload_n 0, 1) := by decide +kernel
theorem dX13_call_130 : decode cX13_call 130 = .ok (.getfield 128, 3) := by decide +kernel
theorem dX13_call_133 : decode cX13_call 133 = .ok (.bipush 8, 2) := by decide +kernel
theorem dX13_call_135 : decode cX13_call 135 = .ok (.aload_n 0, 1) := by decide +kernel
theorem dX13_call_136 : decode cX13_call 136 = .ok (.getfield 551, 3) := by decide +kernel
theorem dX13_call_139 : decode cX13_call 139 = .ok (.iconst 1, 1) := by decide +kernel
theorem dX13_call_140 : decode cX13_call 140 = .ok (.isub, 1) := by decide +kernel
theorem dX13_call_141 : decode cX13_call 141 = .ok (.imul, 1) := by decide +kernel
theorem dX13_call_142 : decode cX13_call 142 = .ok (.iload 4, 2) := by decide +kernel
theorem dX13_call_144 : decode cX13_call 144 = .ok (.iadd, 1) := by decide +kernel
theorem dX13_call_145 : decode cX13_call 145 = .ok (.iload 4, 2) := by decide +kernel
theorem dX13_call_147 : decode cX13_call 147 = .ok (.aload_n 0, 1) := by decide +kernel
theorem dX13_call_148 : decode cX13_call 148 = .ok (.getfield 54, 3) := by decide +kernel
theorem dX13_call_151 : decode cX13_call 151 = .ok (.iload_n 3, 1) := by decide +kernel
theorem dX13_call_152 : decode cX13_call 152 = .ok (.iaload, 1) := by decide +kernel
theorem dX13_call_153 : decode cX13_call 153 = .ok (.if_icmp .ge 13, 3) := by decide +kernel
theorem dX13_call_156 : decode cX13_call 156 = .ok (.aload_n 0, 1) := by decide +kernel
theorem dX13_call_157 : decode cX13_call 157 = .ok (.getfield 137, 3) := by decide +kernel
theorem dX13_call_160 : decode cX13_call 160 = .ok (.iload 4, 2) := by decide +kernel
theorem dX13_call_162 : decode cX13_call 162 = .ok (.iaload, 1) := by decide +kernel
theorem dX13_call_163 : decode cX13_call 163 = .ok (.goto 4, 3) := by decide +kernel
theorem dX13_call_166 : decode cX13_call 166 = .ok (.iconst 0, 1) := by decide +kernel
theorem dX13_call_167 : decode cX13_call 167 = .ok (.iastore, 1) := by decide +kernel
theorem dX13_call_168 : decode cX13_call 168 = .ok (.iinc 4 1, 3) := by decide +kernel
theorem dX13_call_171 : decode cX13_call 171 = .ok (.goto (-49), 3) := by decide +kernel
theorem dX13_call_174 : decode cX13_call 174 = .ok (.aload_n 0, 1) := by decide +kernel
theorem dX13_call_175 : decode cX13_call 175 = .ok (.aload_n 0, 1) := by decide +kernel
theorem dX13_call_176 : decode cX13_call 176 = .ok (.getfield 63, 3) := by decide +kernel
theorem dX13_call_179 : decode cX13_call 179 = .ok (.iload_n 3, 1) := by decide +kernel
theorem dX13_call_180 : decode cX13_call 180 = .ok (.iaload, 1) := by decide +kernel
theorem dX13_call_181 : decode cX13_call 181 = .ok (.invokevirtual 563, 3) := by decide +kernel
theorem dX13_call_184 : decode cX13_call 184 = .ok (.ireturn, 1) := by decide +kernel
def w_call_89 (C : rCx) (Q : Int32 → rS → Prop)   (σ : rS) : Prop :=
  ((σ.1 47) ≤ 0 →
    cI C 0 m_fail [.ref (co C), .int (4 : Int32)] σ (fun r2 σ1 =>
      Q r2 σ1)) ∧
  (¬ ((σ.1 47) ≤ 0) →
    cI C 0 m_fail [.ref (co C), .int (σ.1 47)] σ (fun r4 σ3 =>
      Q r4 σ3))
theorem t_call_89 {C : rCx} (hC : cOK C) {Q : Int32 → rS → Prop}    {σ : rS} (F : w_call_89 C Q   σ) : wG C 7 m_call 89 [some (.ref (co C)), none, none, none, none] [] σ (qI Q) := by
  unfold w_call_89 at F
  refine s_aln dX13_call_89 rfl ?_
  refine s_aln dX13_call_90 rfl ?_
  refine gf_428 dX13_call_91 rfl ?_
  refine s_i (t := 104) ((σ.1 47) ≤ 0) dX13_call_94 rfl rfl (fun hc => ?_) (fun hc => ?_)
  · replace F := F.1 hc
    refine s_ic dX13_call_104 ki_4 ?_
    refine k_572 dX13_call_105 rfl (Nat.le_of_ble_eq_true rfl) (Nat.le_of_ble_eq_true rfl) F (fun r2 σ1 F => ?_)
    exact s_ri dX13_call_108 rfl in_nar F
  · replace F := F.2 hc
    refine s_aln dX13_call_97 rfl ?_
    refine gf_428 dX13_call_98 rfl ?_
    refine s_goto (t := 105) dX13_call_101 rfl ?_
    refine k_572 dX13_call_105 rfl (Nat.le_of_ble_eq_true rfl) (Nat.le_of_ble_eq_true rfl) F (fun r4 σ3 F => ?_)
    exact s_ri dX13_call_108 rfl in_nar F

def w_call_167 (C : rCx) (Q : Int32 → rS → Prop) (B122 : Int32 → Int32 → rS → Prop) (a3 : Int32) (a4 : Int32) (s1 : Int32) (s2 : Int32) (σ : rS) : Prop :=
  inb s1 96 ∧
  ∀ σ1, σ1 = riU σ 60 (s1).toNatClampNeg s2 →
  ∀ v4_2 : Int32, v4_2 = a4 + (1 : Int32) →
  B122 a3 v4_2 σ1
theorem t_call_167 {C : rCx} (hC : cOK C) {Q : Int32 → rS → Prop} {B122 : Int32 → Int32 → rS → Prop} (hB122 : ∀ a3' a4' τ, B122 a3' a4' τ → wG C 7 m_call 122 [some (.ref (co C)), none, none, some (.int a3'), some (.int a4')] [] τ (qI Q)) {a3 : Int32} {a4 : Int32} {s1 : Int32} {s2 : Int32} {σ : rS} (F : w_call_167 C Q B122 a3 a4 s1 s2 σ) : wG C 7 m_call 167 [some (.ref (co C)), none, none, some (.int a3), some (.int a4)] [.int s2, .int s1, .ref (cad C 60)] σ (qI Q) := by
  unfold w_call_167 at F
  refine s_astb hC dX13_call_167 rt_60 F.1 (fun σ1 eσ1 => ?_)
  replace F := F.2 σ1 eσ1
  refine s_incb dX13_call_168 ki_1 rfl (Nat.le_of_ble_eq_true rfl) (fun v4_2 ev4_2 => ?_)
  replace F := F v4_2 ev4_2
  refine s_goto (t := 122) dX13_call_171 rfl ?_
  exact s_k (hB122 _ _ _ F) ⟨rfl, rfl, rfl, trivial⟩

def w_call_122 (C : rCx) (Q : Int32 → rS → Prop)  (a3 : Int32) (a4 : Int32) (σ : rS) : Prop :=
  ∃ I : Nat → Int32 → Int32 → rS → Prop, (∃ n, I n a3 a4 σ) ∧ ∀ n a3 a4 σ, I n a3 a4 σ →
    ((8 : Int32) ≤ a4 →
      inb a3 10 ∧
      cI C 2 m_moveTo [.ref (co C), .int (σ.2.2.1 29 (a3).toNatClampNeg)] σ (fun r2 σ1 =>
        Q r2 σ1)) ∧
    (¬ ((8 : Int32) ≤ a4) →
      inb a3 10 ∧
      ((σ.2.2.1 26 (a3).toNatClampNeg) ≤ a4 →
        w_call_167 C Q (fun a3' a4' τ => ∃ k < n, I k a3' a4' τ) a3 a4 (((8 : Int32) * ((σ.1 58) - (1 : Int32))) + a4) (0 : Int32) σ) ∧
      (¬ ((σ.2.2.1 26 (a3).toNatClampNeg) ≤ a4) →
        inb a4 4 ∧
        w_call_167 C Q (fun a3' a4' τ => ∃ k < n, I k a3' a4' τ) a3 a4 (((8 : Int32) * ((σ.1 58) - (1 : Int32))) + a4) (σ.2.2.1 68 (a4).toNatClampNeg) σ))
theorem t_call_122 {C : rCx} (hC : cOK C) {Q : Int32 → rS → Prop}   {a3 : Int32} {a4 : Int32} {σ : rS} (F : w_call_122 C Q  a3 a4 σ) : wG C 7 m_call 122 [some (.ref (co C)), none, none, some (.int a3), some (.int a4)] [] σ (qI Q) := by
  obtain ⟨I, ⟨n0, hI0⟩, F0⟩ := F
  have key : ∀ n a3 a4 σ, I n a3 a4 σ → wG C 7 m_call 122 [some (.ref (co C)), none, none, some (.int a3), some (.int a4)] [] σ (qI Q) := by
    intro n
    induction n using Nat.strongRecOn with
    | _ n ih =>
      intro a3 a4 σ hI
      have F := F0 n a3 a4 σ hI
      clear hI hI0
      refine s_il dX13_call_122 rfl ?_
      refine s_bi dX13_call_124 kb_8 ?_
      refine s_ii (t := 174) ((8 : Int32) ≤ a4) dX13_call_126 rfl rfl (fun hc => ?_) (fun hc => ?_)
      · replace F := F.1 hc
        refine s_aln dX13_call_174 rfl ?_
        refine s_aln dX13_call_175 rfl ?_
        refine gf_63 dX13_call_176 rfl ?_
        refine s_iln dX13_call_179 rfl ?_
        refine s_ald hC dX13_call_180 rt_29 F.1 ?_
        replace F := F.2
        refine k_563 dX13_call_181 rfl (Nat.le_of_ble_eq_true rfl) (Nat.le_of_ble_eq_true rfl) F (fun r2 σ1 F => ?_)
        exact s_ri dX13_call_184 rfl in_nar F
      · replace F := F.2 hc
        refine s_aln dX13_call_129 rfl ?_
        refine gf_128 dX13_call_130 rfl ?_
        refine s_bi dX13_call_133 kb_8 ?_
        refine s_aln dX13_call_135 rfl ?_
        refine gf_551 dX13_call_136 rfl ?_
        refine s_ic dX13_call_139 ki_1 ?_
        refine s_isub dX13_call_140 ?_
        refine s_imul dX13_call_141 ?_
        refine s_il dX13_call_142 rfl ?_
        refine s_iadd dX13_call_144 ?_
        refine s_il dX13_call_145 rfl ?_
        refine s_aln dX13_call_147 rfl ?_
        refine gf_54 dX13_call_148 rfl ?_
        refine s_iln dX13_call_151 rfl ?_
        refine s_ald hC dX13_call_152 rt_26 F.1 ?_
        replace F := F.2
        refine s_ii (t := 166) ((σ.2.2.1 26 (a3).toNatClampNeg) ≤ a4) dX13_call_153 rfl rfl (fun hc => ?_) (fun hc => ?_)
        · replace F := F.1 hc
          refine s_ic dX13_call_166 ki_0 ?_
          exact s_k (t_call_167 hC (fun a3' a4' τ hb => by obtain ⟨k, hk, hI⟩ := hb; exact ih k hk a3' a4' τ hI) F) ⟨rfl, rfl, rfl, trivial⟩
        · replace F := F.2 hc
          refine s_aln dX13_call_156 rfl ?_
          refine gf_137 dX13_call_157 rfl ?_
          refine s_il dX13_call_160 rfl ?_
          refine s_ald hC dX13_call_162 rt_68 F.1 ?_
          replace F := F.2
          refine s_goto (t := 167) dX13_call_163 rfl ?_
          exact s_k (t_call_167 hC (fun a3' a4' τ hb => by obtain ⟨k, hk, hI⟩ := hb; exact ih k hk a3' a4' τ hI) F) ⟨rfl, rfl, rfl, trivial⟩
  exact key n0 a3 a4 σ hI0

def w_call_73 (C : rCx) (Q : Int32 → rS → Prop)  (a3 : Int32) (σ : rS) : Prop :=
  (0 < (σ.1 47) →
    w_call_89 C Q   σ) ∧
  (¬ (0 < (σ.1 47)) →
    (¬ ((σ.1 58) = (12 : Int32)) →
      ∀ σ1, σ1 = siU σ 58 ((σ.1 58) + (1 : Int32)) →
      w_call_122 C Q  a3 (0 : Int32) σ1) ∧
    ((σ.1 58) = (12 : Int32) →
      w_call_89 C Q   σ))
theorem t_call_73 {C : rCx} (hC : cOK C) {Q : Int32 → rS → Prop}   {a3 : Int32} {σ : rS} (F : w_call_73 C Q  a3 σ) : wG C 7 m_call 73 [some (.ref (co C)), none, none, some (.int a3), none] [] σ (qI Q) := by
  unfold w_call_73 at F
  refine s_aln dX13_call_73 rfl ?_
  refine gf_428 dX13_call_74 rfl ?_
  refine s_i (t := 89) (0 < (σ.1 47)) dX13_call_77 rfl rfl (fun hc => ?_) (fun hc => ?_)
  · replace F := F.1 hc
    exact s_k (t_call_89 hC  F) ⟨rfl, trivial⟩
  · replace F := F.2 hc
    refine s_aln dX13_call_80 rfl ?_
    refine gf_551 dX13_call_81 rfl ?_
    refine s_bi dX13_call_84 kb_12 ?_
    refine s_iin (t := 109) ((σ.1 58) = (12 : Int32)) dX13_call_86 rfl rfl (fun hc => ?_) (fun hc => ?_)
    · replace F := F.1 hc
      refine s_aln dX13_call_109 rfl ?_
      refine s_dup dX13_call_110 rfl ?_
      refine gf_551 dX13_call_111 rfl ?_
      refine s_ic dX13_call_114 ki_1 ?_
      refine s_iadd dX13_call_115 ?_
      refine pf_551 hC dX13_call_116 rfl (fun σ1 eσ1 => ?_)
      replace F := F σ1 eσ1
      refine s_ic dX13_call_119 ki_0 ?_
      refine s_is dX13_call_120 (Nat.le_of_ble_eq_true rfl) rfl ?_
      exact s_k (t_call_122 hC  F) ⟨rfl, rfl, rfl, trivial⟩
    · replace F := F.2 hc
      exact s_k (t_call_89 hC  F) ⟨rfl, trivial⟩

def w_call_28 (C : rCx) (Q : Int32 → rS → Prop)  (a3 : Int32) (a4 : Int32) (σ : rS) : Prop :=
  ∃ I : Nat → Int32 → Int32 → rS → Prop, (∃ n, I n a3 a4 σ) ∧ ∀ n a3 a4 σ, I n a3 a4 σ →
    inb a3 10 ∧
    ((σ.2.2.1 26 (a3).toNatClampNeg) ≤ a4 →
      w_call_73 C Q  a3 σ) ∧
    (¬ ((σ.2.2.1 26 (a3).toNatClampNeg) ≤ a4) →
      (¬ ((σ.1 47) = 0) →
        w_call_73 C Q  a3 σ) ∧
      ((σ.1 47) = 0 →
        cI C 6 m_expression [.ref (co C)] σ (fun r2 σ1 =>
          inb a4 4 ∧
          ∀ σ3, σ3 = riU σ1 68 (a4).toNatClampNeg r2 →
          ∀ σ4, σ4 = siU σ3 10 ((σ3.1 10) + (1 : Int32)) →
          ∀ v4_5 : Int32, v4_5 = a4 + (1 : Int32) →
          ∃ k < n, I k a3 v4_5 σ4)))
theorem t_call_28 {C : rCx} (hC : cOK C) {Q : Int32 → rS → Prop}   {a3 : Int32} {a4 : Int32} {σ : rS} (F : w_call_28 C Q  a3 a4 σ) : wG C 7 m_call 28 [some (.ref (co C)), none, none, some (.int a3), some (.int a4)] [] σ (qI Q) := by
  obtain ⟨I, ⟨n0, hI0⟩, F0⟩ := F
  have key : ∀ n a3 a4 σ, I n a3 a4 σ → wG C 7 m_call 28 [some (.ref (co C)), none, none, some (.int a3), some (.int a4)] [] σ (qI Q) := by
    intro n
    induction n using Nat.strongRecOn with
    | _ n ih =>
      intro a3 a4 σ hI
      have F := F0 n a3 a4 σ hI
      clear hI hI0
      refine s_il dX13_call_28 rfl ?_
      refine s_aln dX13_call_30 rfl ?_
      refine gf_54 dX13_call_31 rfl ?_
      refine s_iln dX13_call_34 rfl ?_
      refine s_ald hC dX13_call_35 rt_26 F.1 ?_
      replace F := F.2
      refine s_ii (t := 73) ((σ.2.2.1 26 (a3).toNatClampNeg) ≤ a4) dX13_call_36 rfl rfl (fun hc => ?_) (fun hc => ?_)
      · replace F := F.1 hc
        exact s_k (t_call_73 hC  F) ⟨rfl, rfl, trivial⟩
      · replace F := F.2 hc
        refine s_aln dX13_call_39 rfl ?_
        refine gf_428 dX13_call_40 rfl ?_
        refine s_in (t := 73) ((σ.1 47) = 0) dX13_call_43 rfl rfl (fun hc => ?_) (fun hc => ?_)
        · replace F := F.1 hc
          exact s_k (t_call_73 hC  F) ⟨rfl, rfl, trivial⟩
        · replace F := F.2 hc
          refine s_aln dX13_call_46 rfl ?_
          refine gf_137 dX13_call_47 rfl ?_
          refine s_il dX13_call_50 rfl ?_
          refine s_aln dX13_call_52 rfl ?_
          refine k_403 dX13_call_53 rfl (Nat.le_of_ble_eq_true rfl) (Nat.le_of_ble_eq_true rfl) F (fun r2 σ1 F => ?_)
          refine s_astb hC dX13_call_56 rt_68 F.1 (fun σ3 eσ3 => ?_)
          replace F := F.2 σ3 eσ3
          refine s_aln dX13_call_57 rfl ?_
          refine s_dup dX13_call_58 rfl ?_
          refine gf_306 dX13_call_59 rfl ?_
          refine s_ic dX13_call_62 ki_1 ?_
          refine s_iadd dX13_call_63 ?_
          refine pf_306 hC dX13_call_64 rfl (fun σ4 eσ4 => ?_)
          replace F := F σ4 eσ4
          refine s_incb dX13_call_67 ki_1 rfl (Nat.le_of_ble_eq_true rfl) (fun v4_5 ev4_5 => ?_)
          replace F := F v4_5 ev4_5
          refine s_goto (t := 28) dX13_call_70 rfl ?_
          obtain ⟨k, hk, hI⟩ := F
          exact s_k (ih k hk _ _ _ hI) ⟨rfl, rfl, rfl, trivial⟩
  exact key n0 a3 a4 σ hI0

def w_call_0 (C : rCx) (Q : Int32 → rS → Prop)  (a1 : Int32) (σ : rS) : Prop :=
  inb a1 150 ∧
  ∀ v2_1 : Int32, v2_1 = (σ.2.2.1 32 (a1).toNatClampNeg) →
  inb v2_1 131074 ∧
  ∀ v3_2 : Int32, v3_2 = ((σ.2.2.1 39 (v2_1).toNatClampNeg) - (300 : Int32)) →
  ∀ σ3, σ3 = siU σ 10 (v2_1 + (2 : Int32)) →
  w_call_28 C Q  v3_2 (0 : Int32) σ3
theorem t_call_0 {C : rCx} (hC : cOK C) {Q : Int32 → rS → Prop}   {a1 : Int32} {σ : rS} (F : w_call_0 C Q  a1 σ) : wG C 7 m_call 0 [some (.ref (co C)), some (.int a1), none, none, none] [] σ (qI Q) := by
  unfold w_call_0 at F
  refine s_aln dX13_call_0 rfl ?_
  refine gf_72 dX13_call_1 rfl ?_
  refine s_iln dX13_call_4 rfl ?_
  refine s_ald hC dX13_call_5 rt_32 F.1 ?_
  replace F := F.2
  refine s_isnb dX13_call_6 (Nat.le_of_ble_eq_true rfl) (fun v2_1 ev2_1 => ?_)
  replace F := F v2_1 ev2_1
  refine s_aln dX13_call_7 rfl ?_
  refine gf_93 dX13_call_8 rfl ?_
  refine s_iln dX13_call_11 rfl ?_
  refine s_ald hC dX13_call_12 rt_39 F.1 ?_
  replace F := F.2
  refine s_si dX13_call_13 ks_300 ?_
  refine s_isub dX13_call_16 ?_
  refine s_isnb dX13_call_17 (Nat.le_of_ble_eq_true rfl) (fun v3_2 ev3_2 => ?_)
  replace F := F v3_2 ev3_2
  refine s_aln dX13_call_18 rfl ?_
  refine s_iln dX13_call_19 rfl ?_
  refine s_ic dX13_call_20 ki_2 ?_
  refine s_iadd dX13_call_21 ?_
  refine pf_306 hC dX13_call_22 rfl (fun σ3 eσ3 => ?_)
  replace F := F σ3 eσ3
  refine s_ic dX13_call_25 ki_0 ?_
  refine s_is dX13_call_26 (Nat.le_of_ble_eq_true rfl) rfl ?_
  exact s_k (t_call_28 hC  F) ⟨rfl, rfl, rfl, trivial⟩

theorem m_call_run {C : rCx} (hC : cOK C) {Q : Int32 → rS → Prop} {a1 : Int32} {σ : rS} (F : w_call_0 C Q a1 σ) : cI C 7 m_call [.ref (co C), .int a1] σ Q := m_I (m_ent _ 3) (t_call_0 hC F)

theorem dX13_outcome_0 : decode cX13_outcome 0 = .ok (.aload_n 0, 1) := by decide +kernel
theorem dX13_outcome_1 : decode cX13_outcome 1 = .ok (.getfield 131, 3) := by decide +kernel
theorem dX13_outcome_4 : decode cX13_outcome 4 = .ok (.aload_n 0, 1) := by decide +kernel
theorem dX13_outcome_5 : decode cX13_outcome 5 = .ok (.getfield 575, 3) := by decide +kernel
theorem dX13_outcome_8 : decode cX13_outcome 8 = .ok (.iload_n 1, 1) := by decide +kernel
theorem dX13_outcome_9 : decode cX13_outcome 9 = .ok (.iastore, 1) := by decide +kernel
theorem dX13_outcome_10 : decode cX13_outcome 10 = .ok (.aload_n 0, 1) := by decide +kernel
theorem dX13_outcome_11 : decode cX13_outcome 11 = .ok (.getfield 134, 3) := by decide +kernel
theorem dX13_outcome_14 : decode cX13_outcome 14 = .ok (.aload_n 0, 1) := by decide +kernel
theorem dX13_outcome_15 : decode cX13_outcome 15 = .ok (.getfield 575, 3) := by decide +kernel
theorem dX13_outcome_18 : decode cX13_outcome 18 = .ok (.iload_n 2, 1) := by decide +kernel
theorem dX13_outcome_19 : decode cX13_outcome 19 = .ok (.iastore, 1) := by decide +kernel
theorem dX13_outcome_20 : decode cX13_outcome 20 = .ok (.aload_n 0, 1) := by decide +kernel
theorem dX13_outcome_21 : decode cX13_outcome 21 = .ok (.dup, 1) := by decide +kernel
theorem dX13_outcome_22 : decode cX13_outcome 22 = .ok (.getfield 575, 3) := by decide +kernel
theorem dX13_outcome_25 : decode cX13_outcome 25 = .ok (.iconst 1, 1) := by decide +kernel
theorem dX13_outcome_26 : decode cX13_outcome 26 = .ok (.iadd, 1) := by decide +kernel
theorem dX13_outcome_27 : decode cX13_outcome 27 = .ok (.putfield 575, 3) := by decide +kernel
theorem dX13_outcome_30 : decode cX13_outcome 30 = .ok (.return_, 1) := by decide +kernel
def w_outcome_0 (C : rCx) (Q : rS → Prop)  (a1 : Int32) (a2 : Int32) (σ : rS) : Prop :=
  inb (σ.1 63) 64 ∧
  ∀ σ1, σ1 = riU σ 64 ((σ.1 63)).toNatClampNeg a1 →
  inb (σ1.1 63) 64 ∧
  ∀ σ2, σ2 = riU σ1 65 ((σ1.1 63)).toNatClampNeg a2 →
  ∀ σ3, σ3 = siU σ2 63 ((σ2.1 63) + (1 : Int32)) →
  Q σ3
theorem t_outcome_0 {C : rCx} (hC : cOK C) {Q : rS → Prop}   {a1 : Int32} {a2 : Int32} {σ : rS} (F : w_outcome_0 C Q  a1 a2 σ) : wG C 0 m_outcome 0 [some (.ref (co C)), some (.int a1), some (.int a2)] [] σ (qV Q) := by
  unfold w_outcome_0 at F
  refine s_aln dX13_outcome_0 rfl ?_
  refine gf_131 dX13_outcome_1 rfl ?_
  refine s_aln dX13_outcome_4 rfl ?_
  refine gf_575 dX13_outcome_5 rfl ?_
  refine s_iln dX13_outcome_8 rfl ?_
  refine s_astb hC dX13_outcome_9 rt_64 F.1 (fun σ1 eσ1 => ?_)
  replace F := F.2 σ1 eσ1
  refine s_aln dX13_outcome_10 rfl ?_
  refine gf_134 dX13_outcome_11 rfl ?_
  refine s_aln dX13_outcome_14 rfl ?_
  refine gf_575 dX13_outcome_15 rfl ?_
  refine s_iln dX13_outcome_18 rfl ?_
  refine s_astb hC dX13_outcome_19 rt_65 F.1 (fun σ2 eσ2 => ?_)
  replace F := F.2 σ2 eσ2
  refine s_aln dX13_outcome_20 rfl ?_
  refine s_dup dX13_outcome_21 rfl ?_
  refine gf_575 dX13_outcome_22 rfl ?_
  refine s_ic dX13_outcome_25 ki_1 ?_
  refine s_iadd dX13_outcome_26 ?_
  refine pf_575 hC dX13_outcome_27 rfl (fun σ3 eσ3 => ?_)
  replace F := F σ3 eσ3
  exact s_rv dX13_outcome_30 rfl F

theorem m_outcome_run {C : rCx} (hC : cOK C) {Q : rS → Prop} {a1 : Int32} {a2 : Int32} {σ : rS} (F : w_outcome_0 C Q a1 a2 σ) : cV C 0 m_outcome [.ref (co C), .int a1, .int a2] σ Q := m_V (m_ent _ 0) (t_outcome_0 hC F)

theorem dX13_draw_0 : decode cX13_draw 0 = .ok (.aload_n 0, 1) := by decide +kernel
theorem dX13_draw_1 : decode cX13_draw 1 = .ok (.iconst 0, 1) := by decide +kernel
theorem dX13_draw_2 : decode cX13_draw 2 = .ok (.putfield 575, 3) := by decide +kernel
theorem dX13_draw_5 : decode cX13_draw 5 = .ok (.aload_n 0, 1) := by decide +kernel
theorem dX13_draw_6 : decode cX13_draw 6 = .ok (.aload_n 0, 1) := by decide +kernel
theorem dX13_draw_7 : decode cX13_draw 7 = .ok (.getfield 72, 3) := by decide +kernel
theorem dX13_draw_10 : decode cX13_draw 10 = .ok (.iload_n 1, 1) := by decide +kernel
theorem dX13_draw_11 : decode cX13_draw 11 = .ok (.iaload, 1) := by decide +kernel
theorem dX13_draw_12 : decode cX13_draw 12 = .ok (.putfield 306, 3) := by decide +kernel
theorem dX13_draw_15 : decode cX13_draw 15 = .ok (.aload_n 0, 1) := by decide +kernel
theorem dX13_draw_16 : decode cX13_draw 16 = .ok (.bipush 11, 2) := by decide +kernel
theorem dX13_draw_18 : decode cX13_draw 18 = .ok (.invokevirtual 391, 3) := by decide +kernel
theorem dX13_draw_21 : decode cX13_draw 21 = .ok (.istore_n 2, 1) := by decide +kernel
theorem dX13_draw_22 : decode cX13_draw 22 = .ok (.aload_n 0, 1) := by decide +kernel
theorem dX13_draw_23 : decode cX13_draw 23 = .ok (.bipush 12, 2) := by decide +kernel
theorem dX13_draw_25 : decode cX13_draw 25 = .ok (.invokevirtual 391, 3) := by decide +kernel
theorem dX13_draw_28 : decode cX13_draw 28 = .ok (.istore_n 3, 1) := by decide +kernel
theorem dX13_draw_29 : decode cX13_draw 29 = .ok (.iload_n 2, 1) := by decide +kernel
theorem dX13_draw_30 : decode cX13_draw 30 = .ok (.ifCond .eq 81, 3) := by decide +kernel
theorem dX13_draw_33 : decode cX13_draw 33 = .ok (.aload_n 0, 1) := by decide +kernel
theorem dX13_draw_34 : decode cX13_draw 34 = .ok (.aload_n 0, 1) := by decide +kernel
theorem dX13_draw_35 : decode cX13_draw 35 = .ok (.getfield 306, 3) := by decide +kernel
theorem dX13_draw_38 : decode cX13_draw 38 = .ok (.iconst 2, 1) := by decide +kernel
theorem dX13_draw_39 : decode cX13_draw 39 = .ok (.iadd, 1) := by decide +kernel
theorem dX13_draw_40 : decode cX13_draw 40 = .ok (.invokevirtual 569, 3) := by decide +kernel
theorem dX13_draw_43 : decode cX13_draw 43 = .ok (.istore 4, 2) := by decide +kernel
theorem dX13_draw_45 : decode cX13_draw 45 = .ok (.aload_n 0, 1) := by decide +kernel
theorem dX13_draw_46 : decode cX13_draw 46 = .ok (.getfield 428, 3) := by decide +kernel
theorem dX13_draw_49 : decode cX13_draw 49 = .ok (.ifCond .gt 16, 3) := by decide +kernel
theorem dX13_draw_52 : decode cX13_draw 52 = .ok (.iload 4, 2) := by decide +kernel
theorem dX13_draw_54 : decode cX13_draw 54 = .ok (.iconst 1, 1) := by decide +kernel
theorem dX13_draw_55 : decode cX13_draw 55 = .ok (.if_icmp .lt 10, 3) := by decide +kernel
theorem dX13_draw_58 : decode cX13_draw 58 = .ok (.iload 4, 2) := by decide +kernel
theorem dX13_draw_60 : decode cX13_draw 60 = .ok (.bipush 64, 2) := by decide +kernel
theorem dX13_draw_62 : decode cX13_draw 62 = .ok (.if_icmp .le 23, 3) := by decide +kernel
theorem dX13_draw_65 : decode cX13_draw 65 = .ok (.aload_n 0, 1) := by decide +kernel
theorem dX13_draw_66 : decode cX13_draw 66 = .ok (.aload_n 0, 1) := by decide +kernel
theorem dX13_draw_67 : decode cX13_draw 67 = .ok (.getfield 428, 3) := by decide +kernel
theorem dX13_draw_70 : decode cX13_draw 70 = .ok (.ifCond .le 10, 3) := by decide +kernel
theorem dX13_draw_73 : decode cX13_draw 73 = .ok (.aload_n 0, 1) := by decide +kernel
theorem dX13_draw_74 : decode cX13_draw 74 = .ok (.getfield 428, 3) := by decide +kernel
theorem dX13_draw_77 : decode cX13_draw 77 = .ok (.goto 4, 3) := by decide +kernel
theorem dX13_draw_80 : decode cX13_draw 80 = .ok (.iconst 3, 1) := by decide +kernel
theorem dX13_draw_81 : decode cX13_draw 81 = .ok (.invokevirtual 572, 3) := by decide +kernel
theorem dX13_draw_84 : decode cX13_draw 84 = .ok (.ireturn, 1) := by decide +kernel
theorem dX13_draw_85 : decode cX13_draw 85 = .ok (.iconst 0, 1) := by decide +kernel
theorem dX13_draw_86 : decode cX13_draw 86 = .ok (.istore 5, 2) := by decide +kernel
theorem dX13_draw_88 : decode cX13_draw 88 = .ok (.iload 5, 2) := by decide +kernel
theorem dX13_draw_90 : decode cX13_draw 90 = .ok (.iload 4, 2) := by decide +kernel
theorem dX13_draw_92 : decode cX13_draw 92 = .ok (.if_icmp .ge 16, 3) := by decide +kernel
theorem dX13_draw_95 : decode cX13_draw 95 = .ok (.aload_n 0, 1) := by decide +kernel
theorem dX13_draw_96 : decode cX13_draw 96 = .ok (.iload 5, 2) := by decide +kernel
theorem dX13_draw_98 : decode cX13_draw 98 = .ok (.iconst 1, 1) := by decide +kernel
theorem dX13_draw_99 : decode cX13_draw 99 = .ok (.invokevirtual 578, 3) := by decide +kernel
theorem dX13_draw_102 : decode cX13_draw 102 = .ok (.iinc 5 1, 3) := by decide +kernel
theorem dX13_draw_105 : decode cX13_draw 105 = .ok (.goto (-17), 3) := by decide +kernel
theorem dX13_draw_108 : decode cX13_draw 108 = .ok (.goto 120, 3) := by decide +kernel
theorem dX13_draw_111 : decode cX13_draw 111 = .ok (.iload_n 3, 1) := by decide +kernel
theorem dX13_draw_112 : decode cX13_draw 112 = .ok (.ifCond .eq 47, 3) := by decide +kernel
theorem dX13_draw_115 : decode cX13_draw 115 = .ok (.aload_n 0, 1) := by decide +kernel
theorem dX13_draw_116 : decode cX13_draw 116 = .ok (.iconst 1, 1) := by decide +kernel
theorem dX13_draw_117 : decode cX13_draw 117 = .ok (.aload_n 0, 1) := by decide +kernel
theorem dX13_draw_118 : decode cX13_draw 118 = .ok (.aload_n 0, 1) := by decide +kernel
theorem dX13_draw_119 : decode cX13_draw 119 = .ok (.getfield 306, 3) := by decide +kernel
theorem dX13_draw_122 : decode cX13_draw 122 = .ok (.iconst 2, 1) := by decide +kernel
theorem dX13_draw_123 : decode cX13_draw 123 = .ok (.iadd, 1) := by decide +kernel
theorem dX13_draw_124 : decode cX13_draw 124 = .ok (.invokevirtual 569, 3) := by decide +kernel
theorem dX13_draw_127 : decode cX13_draw 127 = .ok (.invokevirtual 578, 3) := by decide +kernel
theorem dX13_draw_130 : decode cX13_draw 130 = .ok (.aload_n 0, 1) := by decide +kernel
theorem dX13_draw_131 : decode cX13_draw 131 = .ok (.iconst 0, 1) := by decide +kernel
theorem dX13_draw_132 : decode cX13_draw 132 = .ok (.aload_n 0, 1) := by decide +kernel
theorem dX13_draw_133 : decode cX13_draw 133 = .ok (.getfield 428, 3) := by decide +kernel
theorem dX13_draw_136 : decode cX13_draw 136 = .ok (.ifCond .le 7, 3) := by decide +kernel
theorem dX13_draw_139 : decode cX13_draw 139 = .ok (.iconst 0, 1) := by decide +kernel
theorem dX13_draw_140 : decode cX13_draw 140 = .ok (.goto 13, 3) := by decide +kernel
theorem dX13_draw_143 : decode cX13_draw 143 = .ok (.aload_n 0, 1) := by decide +kernel
theorem dX13_draw_144 : decode cX13_draw 144 = .ok (.aload_n 0, 1) := by decide +kernel
theorem dX13_draw_145 : decode cX13_draw 145 = .ok (.getfield 306, 3) := by decide +kernel
theorem dX13_draw_148 : decode cX13_draw 148 = .ok (.iconst 1, 1) := by decide +kernel
theorem dX13_draw_149 : decode cX13_draw 149 = .ok (.iadd, 1) := by decide +kernel
theorem dX13_draw_150 : decode cX13_draw 150 = .ok (.invokevirtual 569, 3) := by decide +kernel
theorem dX13_draw_153 : decode cX13_draw 153 = .ok (.invokevirtual 578, 3) := by decide +kernel
theorem dX13_draw_156 : decode cX13_draw 156 = .ok (.goto 72, 3) := by decide +kernel
theorem dX13_draw_159 : decode cX13_draw 159 = .ok (.iconst 1, 1) := by decide +kernel
theorem dX13_draw_160 : decode cX13_draw 160 = .ok (.istore 4, 2) := by decide +kernel
theorem dX13_draw_162 : decode cX13_draw 162 = .ok (.iload 4, 2) := by decide +kernel
theorem dX13_draw_164 : decode cX13_draw 164 = .ok (.ifCond .eq 64, 3) := by decide +kernel
theorem dX13_draw_167 : decode cX13_draw 167 = .ok (.aload_n 0, 1) := by decide +kernel
theorem dX13_draw_168 : decode cX13_draw 168 = .ok (.getfield 428, 3) := by decide +kernel
theorem dX13_draw_171 : decode cX13_draw 171 = .ok (.ifCond .ne 57, 3) := by decide +kernel
theorem dX13_draw_174 : decode cX13_draw 174 = .ok (.aload_n 0, 1) := by decide +kernel
theorem dX13_draw_175 : decode cX13_draw 175 = .ok (.aload_n 0, 1) := by decide +kernel
theorem dX13_draw_176 : decode cX13_draw 176 = .ok (.getfield 306, 3) := by decide +kernel
theorem dX13_draw_179 : decode cX13_draw 179 = .ok (.iconst 1, 1) := by decide +kernel
theorem dX13_draw_180 : decode cX13_draw 180 = .ok (.iadd, 1) := by decide +kernel
theorem dX13_draw_181 : decode cX13_draw 181 = .ok (.invokevirtual 569, 3) := by decide +kernel
theorem dX13_draw_184 : decode cX13_draw 184 = .ok (.istore 5, 2) := by decide +kernel
theorem dX13_draw_186 : decode cX13_draw 186 = .ok (.aload_n 0, 1) := by decide +kernel
theorem dX13_draw_187 : decode cX13_draw 187 = .ok (.getfield 428, 3) := by decide +kernel
theorem dX13_draw_190 : decode cX13_draw 190 = .ok (.ifCond .le 7, 3) := by decide +kernel
theorem dX13_draw_193 : decode cX13_draw 193 = .ok (.iconst 0, 1) := by decide +kernel
theorem dX13_draw_194 : decode cX13_draw 194 = .ok (.goto 13, 3) := by decide +kernel
theorem dX13_draw_197 : decode cX13_draw 197 = .ok (.aload_n 0, 1) := by decide +kernel
theorem dX13_draw_198 : decode cX13_draw 198 = .ok (.aload_n 0, 1) := by decide +kernel
theorem dX13_draw_199 : decode cX13_draw 199 = .ok (.getfield 306, 3) := by decide +kernel
theorem dX13_draw_202 : decode cX13_draw 202 = .ok (.iconst 1, 1) := by decide +kernel
theorem dX13_draw_203 : decode cX13_draw 203 = .ok (.iadd, 1) := by decide +kernel
theorem dX13_draw_204 : decode cX13_draw 204 = .ok (.invokevirtual 569, 3) := by decide +kernel
theorem dX13_draw_207 : decode cX13_draw 207 = .ok (.istore 6, 2) := by decide +kernel
theorem dX13_draw_209 : decode cX13_draw 209 = .ok (.aload_n 0, 1) := by decide +kernel
theorem dX13_draw_210 : decode cX13_draw 210 = .ok (.iload 5, 2) := by decide +kernel
theorem dX13_draw_212 : decode cX13_draw 212 = .ok (.iload 6, 2) := by decide +kernel
theorem dX13_draw_214 : decode cX13_draw 214 = .ok (.invokevirtual 578, 3) := by decide +kernel
theorem dX13_draw_217 : decode cX13_draw 217 = .ok (.aload_n 0, 1) := by decide +kernel
theorem dX13_draw_218 : decode cX13_draw 218 = .ok (.bipush 44, 2) := by decide +kernel
theorem dX13_draw_220 : decode cX13_draw 220 = .ok (.invokevirtual 316, 3) := by decide +kernel
theorem dX13_draw_223 : decode cX13_draw 223 = .ok (.istore 4, 2) := by decide +kernel
theorem dX13_draw_225 : decode cX13_draw 225 = .ok (.goto (-63), 3) := by decide +kernel
theorem dX13_draw_228 : decode cX13_draw 228 = .ok (.aload_n 0, 1) := by decide +kernel
theorem dX13_draw_229 : decode cX13_draw 229 = .ok (.iconst 0, 1) := by decide +kernel
theorem dX13_draw_230 : decode cX13_draw 230 = .ok (.putfield 581, 3) := by decide +kernel
theorem dX13_draw_233 : decode cX13_draw 233 = .ok (.iconst 1, 1) := by decide +kernel
theorem dX13_draw_234 : decode cX13_draw 234 = .ok (.istore 4, 2) := by decide +kernel
theorem dX13_draw_236 : decode cX13_draw 236 = .ok (.iconst 0, 1) := by decide +kernel
theorem dX13_draw_237 : decode cX13_draw 237 = .ok (.istore 5, 2) := by decide +kernel
theorem dX13_draw_239 : decode cX13_draw 239 = .ok (.iload 5, 2) := by decide +kernel
theorem dX13_draw_241 : decode cX13_draw 241 = .ok (.aload_n 0, 1) := by decide +kernel
theorem dX13_draw_242 : decode cX13_draw 242 = .ok (.getfield 575, 3) := by decide +kernel
theorem dX13_draw_245 : decode cX13_draw 245 = .ok (.if_icmp .ge 54, 3) := by decide +kernel
theorem dX13_draw_248 : decode cX13_draw 248 = .ok (.iload 4, 2) := by decide +kernel
theorem dX13_draw_250 : decode cX13_draw 250 = .ok (.ifCond .eq 24, 3) := by decide +kernel
theorem dX13_draw_253 : decode cX13_draw 253 = .ok (.aload_n 0, 1) := by decide +kernel
theorem dX13_draw_254 : decode cX13_draw 254 = .ok (.getfield 134, 3) := by decide +kernel
theorem dX13_draw_257 : decode cX13_draw 257 = .ok (.iload 5, 2) := by decide +kernel
theorem dX13_draw_259 : decode cX13_draw 259 = .ok (.iaload, 1) := by decide +kernel
theorem dX13_draw_260 : decode cX13_draw 260 = .ok (.iconst 0, 1) := by decide +kernel
theorem dX13_draw_261 : decode cX13_draw 261 = .ok (.ldc_w 584, 3) := by decide +kernel
theorem dX13_draw_264 : decode cX13_draw 264 = .ok (.invokestatic 362, 3) := by decide +kernel
theorem dX13_draw_267 : decode cX13_draw 267 = .ok (.ifCond .eq 7, 3) := by decide +kernel
theorem dX13_draw_270 : decode cX13_draw 270 = .ok (.iconst 1, 1) := by decide +kernel
theorem dX13_draw_271 : decode cX13_draw 271 = .ok (.goto 4, 3) := by decide +kernel
theorem dX13_draw_274 : decode cX13_draw 274 = .ok (.iconst 0, 1) := by decide +kernel
theorem dX13_draw_275 : decode cX13_draw 275 = .ok (.istore 4, 2) := by decide +kernel
theorem dX13_draw_277 : decode cX13_draw 277 = .ok (.aload_n 0, 1) := by decide +kernel
theorem dX13_draw_278 : decode cX13_draw 278 = .ok (.dup, 1) := by decide +kernel
theorem dX13_draw_279 : decode cX13_draw 279 = .ok (.getfield 581, 3) := by decide +kernel
theorem dX13_draw_282 : decode cX13_draw 282 = .ok (.aload_n 0, 1) := by decide +kernel
theorem dX13_draw_283 : decode cX13_draw 283 = .ok (.getfield 134, 3) := by decide +kernel
theorem dX13_draw_286 : decode cX13_draw 286 = .ok (.iload 5, 2) := by decide +kernel
theorem dX13_draw_288 : decode cX13_draw 288 = .ok (.iaload, 1) := by decide +kernel
theorem dX13_draw_289 : decode cX13_draw 289 = .ok (.iadd, 1) := by decide +kernel
theorem dX13_draw_290 : decode cX13_draw 290 = .ok (.putfield 581, 3) := by decide +kernel
theorem dX13_draw_293 : decode cX13_draw 293 = .ok (.iinc 5 1, 3) := by decide +kernel
theorem dX13_draw_296 : decode cX13_draw 296 = .ok (.goto (-57), 3) := by decide +kernel
theorem dX13_draw_299 : decode cX13_draw 299 = .ok (.aload_n 0, 1) := by decide +kernel
theorem dX13_draw_300 : decode cX13_draw 300 = .ok (.getfield 428, 3) := by decide +kernel
theorem dX13_draw_303 : decode cX13_draw 303 = .ok (.ifCond .le 14, 3) := by decide +kernel
theorem dX13_draw_306 : decode cX13_draw 306 = .ok (.aload_n 0, 1) := by decide +kernel
theorem dX13_draw_307 : decode cX13_draw 307 = .ok (.aload_n 0, 1) := by decide +kernel
theorem dX13_draw_308 : decode cX13_draw 308 = .ok (.getfield 428, 3) := by decide +kernel
theorem dX13_draw_311 : decode cX13_draw 311 = .ok (.invokevirtual 572, 3) := by decide +kernel
theorem dX13_draw_314 : decode cX13_draw 314 = .ok (.goto 24, 3) := by decide +kernel
theorem dX13_draw_317 : decode cX13_draw 317 = .ok (.iload 4, 2) := by decide +kernel
theorem dX13_draw_319 : decode cX13_draw 319 = .ok (.ifCond .eq 10, 3) := by decide +kernel
theorem dX13_draw_322 : decode cX13_draw 322 = .ok (.aload_n 0, 1) := by decide +kernel
theorem dX13_draw_323 : decode cX13_draw 323 = .ok (.getfield 581, 3) := by decide +kernel
theorem dX13_draw_326 : decode cX13_draw 326 = .ok (.ifCond .ne 11, 3) := by decide +kernel
theorem dX13_draw_329 : decode cX13_draw 329 = .ok (.aload_n 0, 1) := by decide +kernel
theorem dX13_draw_330 : decode cX13_draw 330 = .ok (.iconst 3, 1) := by decide +kernel
theorem dX13_draw_331 : decode cX13_draw 331 = .ok (.invokevirtual 572, 3) := by decide +kernel
theorem dX13_draw_334 : decode cX13_draw 334 = .ok (.goto 4, 3) := by decide +kernel
theorem dX13_draw_337 : decode cX13_draw 337 = .ok (.iconst 4, 1) := by decide +kernel
theorem dX13_draw_338 : decode cX13_draw 338 = .ok (.ireturn, 1) := by decide +kernel
def w_draw_65 (C : rCx) (Q : Int32 → rS → Prop)   (σ : rS) : Prop :=
  ((σ.1 47) ≤ 0 →
    cI C 0 m_fail [.ref (co C), .int (3 : Int32)] σ (fun r2 σ1 =>
      Q r2 σ1)) ∧
  (¬ ((σ.1 47) ≤ 0) →
    cI C 0 m_fail [.ref (co C), .int (σ.1 47)] σ (fun r4 σ3 =>
      Q r4 σ3))
theorem t_draw_65 {C : rCx} (hC : cOK C) {Q : Int32 → rS → Prop}    {σ : rS} (F : w_draw_65 C Q   σ) : wG C 8 m_draw 65 [some (.ref (co C)), none, none, none, none, none, none] [] σ (qI Q) := by
  unfold w_draw_65 at F
  refine s_aln dX13_draw_65 rfl ?_
  refine s_aln dX13_draw_66 rfl ?_
  refine gf_428 dX13_draw_67 rfl ?_
  refine s_i (t := 80) ((σ.1 47) ≤ 0) dX13_draw_70 rfl rfl (fun hc => ?_) (fun hc => ?_)
  · replace F := F.1 hc
    refine s_ic dX13_draw_80 ki_3 ?_
    refine k_572 dX13_draw_81 rfl (Nat.le_of_ble_eq_true rfl) (Nat.le_of_ble_eq_true rfl) F (fun r2 σ1 F => ?_)
    exact s_ri dX13_draw_84 rfl in_nar F
  · replace F := F.2 hc
    refine s_aln dX13_draw_73 rfl ?_
    refine gf_428 dX13_draw_74 rfl ?_
    refine s_goto (t := 81) dX13_draw_77 rfl ?_
    refine k_572 dX13_draw_81 rfl (Nat.le_of_ble_eq_true rfl) (Nat.le_of_ble_eq_true rfl) F (fun r4 σ3 F => ?_)
    exact s_ri dX13_draw_84 rfl in_nar F

def w_draw_275 (C : rCx) (Q : Int32 → rS → Prop) (B239 : Int32 → Int32 → rS → Prop) (a5 : Int32) (s0 : Int32) (σ : rS) : Prop :=
  inb a5 64 ∧
  ∀ σ1, σ1 = siU σ 66 ((σ.1 66) + (σ.2.2.1 65 (a5).toNatClampNeg)) →
  ∀ v5_2 : Int32, v5_2 = a5 + (1 : Int32) →
  B239 s0 v5_2 σ1
theorem t_draw_275 {C : rCx} (hC : cOK C) {Q : Int32 → rS → Prop} {B239 : Int32 → Int32 → rS → Prop} (hB239 : ∀ a4' a5' τ, B239 a4' a5' τ → wG C 8 m_draw 239 [some (.ref (co C)), none, none, none, some (.int a4'), some (.int a5'), none] [] τ (qI Q)) {a5 : Int32} {s0 : Int32} {σ : rS} (F : w_draw_275 C Q B239 a5 s0 σ) : wG C 8 m_draw 275 [some (.ref (co C)), none, none, none, none, some (.int a5), none] [.int s0] σ (qI Q) := by
  unfold w_draw_275 at F
  refine s_is dX13_draw_275 (Nat.le_of_ble_eq_true rfl) rfl ?_
  refine s_aln dX13_draw_277 rfl ?_
  refine s_dup dX13_draw_278 rfl ?_
  refine gf_581 dX13_draw_279 rfl ?_
  refine s_aln dX13_draw_282 rfl ?_
  refine gf_134 dX13_draw_283 rfl ?_
  refine s_il dX13_draw_286 rfl ?_
  refine s_ald hC dX13_draw_288 rt_65 F.1 ?_
  replace F := F.2
  refine s_iadd dX13_draw_289 ?_
  refine pf_581 hC dX13_draw_290 rfl (fun σ1 eσ1 => ?_)
  replace F := F σ1 eσ1
  refine s_incb dX13_draw_293 ki_1 rfl (Nat.le_of_ble_eq_true rfl) (fun v5_2 ev5_2 => ?_)
  replace F := F v5_2 ev5_2
  refine s_goto (t := 239) dX13_draw_296 rfl ?_
  exact s_k (hB239 _ _ _ F) ⟨rfl, rfl, rfl, trivial⟩

def w_draw_329 (C : rCx) (Q : Int32 → rS → Prop)   (σ : rS) : Prop :=
  cI C 0 m_fail [.ref (co C), .int (3 : Int32)] σ (fun r2 σ1 =>
    Q r2 σ1)
theorem t_draw_329 {C : rCx} (hC : cOK C) {Q : Int32 → rS → Prop}    {σ : rS} (F : w_draw_329 C Q   σ) : wG C 8 m_draw 329 [some (.ref (co C)), none, none, none, none, none, none] [] σ (qI Q) := by
  unfold w_draw_329 at F
  refine s_aln dX13_draw_329 rfl ?_
  refine s_ic dX13_draw_330 ki_3 ?_
  refine k_572 dX13_draw_331 rfl (Nat.le_of_ble_eq_true rfl) (Nat.le_of_ble_eq_true rfl) F (fun r2 σ1 F => ?_)
  refine s_goto (t := 338) dX13_draw_334 rfl ?_
  exact s_ri dX13_draw_338 rfl in_nar F

def w_draw_239 (C : rCx) (Q : Int32 → rS → Prop)  (a4 : Int32) (a5 : Int32) (σ : rS) : Prop :=
  ∃ I : Nat → Int32 → Int32 → rS → Prop, (∃ n, I n a4 a5 σ) ∧ ∀ n a4 a5 σ, I n a4 a5 σ →
    ((σ.1 63) ≤ a5 →
      ((σ.1 47) ≤ 0 →
        (a4 = 0 →
          w_draw_329 C Q   σ) ∧
        (¬ (a4 = 0) →
          (¬ ((σ.1 66) = 0) →
            Q (4 : Int32) σ) ∧
          ((σ.1 66) = 0 →
            w_draw_329 C Q   σ))) ∧
      (¬ ((σ.1 47) ≤ 0) →
        cI C 0 m_fail [.ref (co C), .int (σ.1 47)] σ (fun r2 σ1 =>
          Q r2 σ1))) ∧
    (¬ ((σ.1 63) ≤ a5) →
      (a4 = 0 →
        w_draw_275 C Q (fun a4' a5' τ => ∃ k < n, I k a4' a5' τ) a5 (0 : Int32) σ) ∧
      (¬ (a4 = 0) →
        inb a5 64 ∧
        cI C 0 m_within [.int (σ.2.2.1 65 (a5).toNatClampNeg), .int (0 : Int32), .int (1000000 : Int32)] σ (fun r4 σ3 =>
          (r4 = 0 →
            w_draw_275 C Q (fun a4' a5' τ => ∃ k < n, I k a4' a5' τ) a5 (0 : Int32) σ3) ∧
          (¬ (r4 = 0) →
            w_draw_275 C Q (fun a4' a5' τ => ∃ k < n, I k a4' a5' τ) a5 (1 : Int32) σ3))))
theorem t_draw_239 {C : rCx} (hC : cOK C) {Q : Int32 → rS → Prop}   {a4 : Int32} {a5 : Int32} {σ : rS} (F : w_draw_239 C Q  a4 a5 σ) : wG C 8 m_draw 239 [some (.ref (co C)), none, none, none, some (.int a4), some (.int a5), none] [] σ (qI Q) := by
  obtain ⟨I, ⟨n0, hI0⟩, F0⟩ := F
  have key : ∀ n a4 a5 σ, I n a4 a5 σ → wG C 8 m_draw 239 [some (.ref (co C)), none, none, none, some (.int a4), some (.int a5), none] [] σ (qI Q) := by
    intro n
    induction n using Nat.strongRecOn with
    | _ n ih =>
      intro a4 a5 σ hI
      have F := F0 n a4 a5 σ hI
      clear hI hI0
      refine s_il dX13_draw_239 rfl ?_
      refine s_aln dX13_draw_241 rfl ?_
      refine gf_575 dX13_draw_242 rfl ?_
      refine s_ii (t := 299) ((σ.1 63) ≤ a5) dX13_draw_245 rfl rfl (fun hc => ?_) (fun hc => ?_)
      · replace F := F.1 hc
        refine s_aln dX13_draw_299 rfl ?_
        refine gf_428 dX13_draw_300 rfl ?_
        refine s_i (t := 317) ((σ.1 47) ≤ 0) dX13_draw_303 rfl rfl (fun hc => ?_) (fun hc => ?_)
        · replace F := F.1 hc
          refine s_il dX13_draw_317 rfl ?_
          refine s_i (t := 329) (a4 = 0) dX13_draw_319 rfl rfl (fun hc => ?_) (fun hc => ?_)
          · replace F := F.1 hc
            exact s_k (t_draw_329 hC  F) ⟨rfl, trivial⟩
          · replace F := F.2 hc
            refine s_aln dX13_draw_322 rfl ?_
            refine gf_581 dX13_draw_323 rfl ?_
            refine s_in (t := 337) ((σ.1 66) = 0) dX13_draw_326 rfl rfl (fun hc => ?_) (fun hc => ?_)
            · replace F := F.1 hc
              refine s_ic dX13_draw_337 ki_4 ?_
              exact s_ri dX13_draw_338 rfl in_nar F
            · replace F := F.2 hc
              exact s_k (t_draw_329 hC  F) ⟨rfl, trivial⟩
        · replace F := F.2 hc
          refine s_aln dX13_draw_306 rfl ?_
          refine s_aln dX13_draw_307 rfl ?_
          refine gf_428 dX13_draw_308 rfl ?_
          refine k_572 dX13_draw_311 rfl (Nat.le_of_ble_eq_true rfl) (Nat.le_of_ble_eq_true rfl) F (fun r2 σ1 F => ?_)
          refine s_goto (t := 338) dX13_draw_314 rfl ?_
          exact s_ri dX13_draw_338 rfl in_nar F
      · replace F := F.2 hc
        refine s_il dX13_draw_248 rfl ?_
        refine s_i (t := 274) (a4 = 0) dX13_draw_250 rfl rfl (fun hc => ?_) (fun hc => ?_)
        · replace F := F.1 hc
          refine s_ic dX13_draw_274 ki_0 ?_
          exact s_k (t_draw_275 hC (fun a4' a5' τ hb => by obtain ⟨k, hk, hI⟩ := hb; exact ih k hk a4' a5' τ hI) F) ⟨rfl, rfl, trivial⟩
        · replace F := F.2 hc
          refine s_aln dX13_draw_253 rfl ?_
          refine gf_134 dX13_draw_254 rfl ?_
          refine s_il dX13_draw_257 rfl ?_
          refine s_ald hC dX13_draw_259 rt_65 F.1 ?_
          replace F := F.2
          refine s_ic dX13_draw_260 ki_0 ?_
          refine s_ldcw dX13_draw_261 rfl cn_584 ?_
          refine k_362 dX13_draw_264 rfl (Nat.le_of_ble_eq_true rfl) (Nat.le_of_ble_eq_true rfl) F (fun r4 σ3 F => ?_)
          refine s_i (t := 274) (r4 = 0) dX13_draw_267 rfl rfl (fun hc => ?_) (fun hc => ?_)
          · replace F := F.1 hc
            refine s_ic dX13_draw_274 ki_0 ?_
            exact s_k (t_draw_275 hC (fun a4' a5' τ hb => by obtain ⟨k, hk, hI⟩ := hb; exact ih k hk a4' a5' τ hI) F) ⟨rfl, rfl, trivial⟩
          · replace F := F.2 hc
            refine s_ic dX13_draw_270 ki_1 ?_
            refine s_goto (t := 275) dX13_draw_271 rfl ?_
            exact s_k (t_draw_275 hC (fun a4' a5' τ hb => by obtain ⟨k, hk, hI⟩ := hb; exact ih k hk a4' a5' τ hI) F) ⟨rfl, rfl, trivial⟩
  exact key n0 a4 a5 σ hI0

def w_draw_228 (C : rCx) (Q : Int32 → rS → Prop)   (σ : rS) : Prop :=
  ∀ σ1, σ1 = siU σ 66 (0 : Int32) →
  w_draw_239 C Q  (1 : Int32) (0 : Int32) σ1
theorem t_draw_228 {C : rCx} (hC : cOK C) {Q : Int32 → rS → Prop}    {σ : rS} (F : w_draw_228 C Q   σ) : wG C 8 m_draw 228 [some (.ref (co C)), none, none, none, none, none, none] [] σ (qI Q) := by
  unfold w_draw_228 at F
  refine s_aln dX13_draw_228 rfl ?_
  refine s_ic dX13_draw_229 ki_0 ?_
  refine pf_581 hC dX13_draw_230 rfl (fun σ1 eσ1 => ?_)
  replace F := F σ1 eσ1
  refine s_ic dX13_draw_233 ki_1 ?_
  refine s_is dX13_draw_234 (Nat.le_of_ble_eq_true rfl) rfl ?_
  refine s_ic dX13_draw_236 ki_0 ?_
  refine s_is dX13_draw_237 (Nat.le_of_ble_eq_true rfl) rfl ?_
  exact s_k (t_draw_239 hC  F) ⟨rfl, rfl, rfl, trivial⟩

def w_draw_88 (C : rCx) (Q : Int32 → rS → Prop)  (a4 : Int32) (a5 : Int32) (σ : rS) : Prop :=
  ∃ I : Nat → Int32 → Int32 → rS → Prop, (∃ n, I n a4 a5 σ) ∧ ∀ n a4 a5 σ, I n a4 a5 σ →
    (a4 ≤ a5 →
      w_draw_228 C Q   σ) ∧
    (¬ (a4 ≤ a5) →
      cV C 0 m_outcome [.ref (co C), .int a5, .int (1 : Int32)] σ (fun σ1 =>
        ∀ v5_3 : Int32, v5_3 = a5 + (1 : Int32) →
        ∃ k < n, I k a4 v5_3 σ1))
theorem t_draw_88 {C : rCx} (hC : cOK C) {Q : Int32 → rS → Prop}   {a4 : Int32} {a5 : Int32} {σ : rS} (F : w_draw_88 C Q  a4 a5 σ) : wG C 8 m_draw 88 [some (.ref (co C)), none, none, none, some (.int a4), some (.int a5), none] [] σ (qI Q) := by
  obtain ⟨I, ⟨n0, hI0⟩, F0⟩ := F
  have key : ∀ n a4 a5 σ, I n a4 a5 σ → wG C 8 m_draw 88 [some (.ref (co C)), none, none, none, some (.int a4), some (.int a5), none] [] σ (qI Q) := by
    intro n
    induction n using Nat.strongRecOn with
    | _ n ih =>
      intro a4 a5 σ hI
      have F := F0 n a4 a5 σ hI
      clear hI hI0
      refine s_il dX13_draw_88 rfl ?_
      refine s_il dX13_draw_90 rfl ?_
      refine s_ii (t := 108) (a4 ≤ a5) dX13_draw_92 rfl rfl (fun hc => ?_) (fun hc => ?_)
      · replace F := F.1 hc
        refine s_goto (t := 228) dX13_draw_108 rfl ?_
        exact s_k (t_draw_228 hC  F) ⟨rfl, trivial⟩
      · replace F := F.2 hc
        refine s_aln dX13_draw_95 rfl ?_
        refine s_il dX13_draw_96 rfl ?_
        refine s_ic dX13_draw_98 ki_1 ?_
        refine k_578 dX13_draw_99 rfl (Nat.le_of_ble_eq_true rfl) (Nat.le_of_ble_eq_true rfl) F (fun σ1 F => ?_)
        refine s_incb dX13_draw_102 ki_1 rfl (Nat.le_of_ble_eq_true rfl) (fun v5_3 ev5_3 => ?_)
        replace F := F v5_3 ev5_3
        refine s_goto (t := 88) dX13_draw_105 rfl ?_
        obtain ⟨k, hk, hI⟩ := F
        exact s_k (ih k hk _ _ _ hI) ⟨rfl, rfl, rfl, trivial⟩
  exact key n0 a4 a5 σ hI0

def w_draw_207 (C : rCx) (Q : Int32 → rS → Prop) (B162 : Int32 → rS → Prop) (a5 : Int32) (s0 : Int32) (σ : rS) : Prop :=
  cV C 0 m_outcome [.ref (co C), .int a5, .int s0] σ (fun σ1 =>
    cI C 0 m_isAt [.ref (co C), .int (44 : Int32)] σ1 (fun r4 σ3 =>
      B162 r4 σ3))
theorem t_draw_207 {C : rCx} (hC : cOK C) {Q : Int32 → rS → Prop} {B162 : Int32 → rS → Prop} (hB162 : ∀ a4' τ, B162 a4' τ → wG C 8 m_draw 162 [some (.ref (co C)), none, none, none, some (.int a4'), none, none] [] τ (qI Q)) {a5 : Int32} {s0 : Int32} {σ : rS} (F : w_draw_207 C Q B162 a5 s0 σ) : wG C 8 m_draw 207 [some (.ref (co C)), none, none, none, none, some (.int a5), none] [.int s0] σ (qI Q) := by
  unfold w_draw_207 at F
  refine s_is dX13_draw_207 (Nat.le_of_ble_eq_true rfl) rfl ?_
  refine s_aln dX13_draw_209 rfl ?_
  refine s_il dX13_draw_210 rfl ?_
  refine s_il dX13_draw_212 rfl ?_
  refine k_578 dX13_draw_214 rfl (Nat.le_of_ble_eq_true rfl) (Nat.le_of_ble_eq_true rfl) F (fun σ1 F => ?_)
  refine s_aln dX13_draw_217 rfl ?_
  refine s_bi dX13_draw_218 kb_44 ?_
  refine k_316 dX13_draw_220 rfl (Nat.le_of_ble_eq_true rfl) (Nat.le_of_ble_eq_true rfl) F (fun r4 σ3 F => ?_)
  refine s_is dX13_draw_223 (Nat.le_of_ble_eq_true rfl) rfl ?_
  refine s_goto (t := 162) dX13_draw_225 rfl ?_
  exact s_k (hB162 _ _ F) ⟨rfl, rfl, trivial⟩

def w_draw_162 (C : rCx) (Q : Int32 → rS → Prop)  (a4 : Int32) (σ : rS) : Prop :=
  ∃ I : Nat → Int32 → rS → Prop, (∃ n, I n a4 σ) ∧ ∀ n a4 σ, I n a4 σ →
    (a4 = 0 →
      w_draw_228 C Q   σ) ∧
    (¬ (a4 = 0) →
      (¬ ((σ.1 47) = 0) →
        w_draw_228 C Q   σ) ∧
      ((σ.1 47) = 0 →
        cI C 7 m_workAt [.ref (co C), .int ((σ.1 10) + (1 : Int32))] σ (fun r2 σ1 =>
          ((σ1.1 47) ≤ 0 →
            cI C 7 m_workAt [.ref (co C), .int ((σ1.1 10) + (1 : Int32))] σ1 (fun r4 σ3 =>
              w_draw_207 C Q (fun a4' τ => ∃ k < n, I k a4' τ) r2 r4 σ3)) ∧
          (¬ ((σ1.1 47) ≤ 0) →
            w_draw_207 C Q (fun a4' τ => ∃ k < n, I k a4' τ) r2 (0 : Int32) σ1))))
theorem t_draw_162 {C : rCx} (hC : cOK C) {Q : Int32 → rS → Prop}   {a4 : Int32} {σ : rS} (F : w_draw_162 C Q  a4 σ) : wG C 8 m_draw 162 [some (.ref (co C)), none, none, none, some (.int a4), none, none] [] σ (qI Q) := by
  obtain ⟨I, ⟨n0, hI0⟩, F0⟩ := F
  have key : ∀ n a4 σ, I n a4 σ → wG C 8 m_draw 162 [some (.ref (co C)), none, none, none, some (.int a4), none, none] [] σ (qI Q) := by
    intro n
    induction n using Nat.strongRecOn with
    | _ n ih =>
      intro a4 σ hI
      have F := F0 n a4 σ hI
      clear hI hI0
      refine s_il dX13_draw_162 rfl ?_
      refine s_i (t := 228) (a4 = 0) dX13_draw_164 rfl rfl (fun hc => ?_) (fun hc => ?_)
      · replace F := F.1 hc
        exact s_k (t_draw_228 hC  F) ⟨rfl, trivial⟩
      · replace F := F.2 hc
        refine s_aln dX13_draw_167 rfl ?_
        refine gf_428 dX13_draw_168 rfl ?_
        refine s_in (t := 228) ((σ.1 47) = 0) dX13_draw_171 rfl rfl (fun hc => ?_) (fun hc => ?_)
        · replace F := F.1 hc
          exact s_k (t_draw_228 hC  F) ⟨rfl, trivial⟩
        · replace F := F.2 hc
          refine s_aln dX13_draw_174 rfl ?_
          refine s_aln dX13_draw_175 rfl ?_
          refine gf_306 dX13_draw_176 rfl ?_
          refine s_ic dX13_draw_179 ki_1 ?_
          refine s_iadd dX13_draw_180 ?_
          refine k_569 dX13_draw_181 rfl (Nat.le_of_ble_eq_true rfl) (Nat.le_of_ble_eq_true rfl) F (fun r2 σ1 F => ?_)
          refine s_is dX13_draw_184 (Nat.le_of_ble_eq_true rfl) rfl ?_
          refine s_aln dX13_draw_186 rfl ?_
          refine gf_428 dX13_draw_187 rfl ?_
          refine s_i (t := 197) ((σ1.1 47) ≤ 0) dX13_draw_190 rfl rfl (fun hc => ?_) (fun hc => ?_)
          · replace F := F.1 hc
            refine s_aln dX13_draw_197 rfl ?_
            refine s_aln dX13_draw_198 rfl ?_
            refine gf_306 dX13_draw_199 rfl ?_
            refine s_ic dX13_draw_202 ki_1 ?_
            refine s_iadd dX13_draw_203 ?_
            refine k_569 dX13_draw_204 rfl (Nat.le_of_ble_eq_true rfl) (Nat.le_of_ble_eq_true rfl) F (fun r4 σ3 F => ?_)
            exact s_k (t_draw_207 hC (fun a4' τ hb => by obtain ⟨k, hk, hI⟩ := hb; exact ih k hk a4' τ hI) F) ⟨rfl, rfl, trivial⟩
          · replace F := F.2 hc
            refine s_ic dX13_draw_193 ki_0 ?_
            refine s_goto (t := 207) dX13_draw_194 rfl ?_
            exact s_k (t_draw_207 hC (fun a4' τ hb => by obtain ⟨k, hk, hI⟩ := hb; exact ih k hk a4' τ hI) F) ⟨rfl, rfl, trivial⟩
  exact key n0 a4 σ hI0

def w_draw_0 (C : rCx) (Q : Int32 → rS → Prop)  (a1 : Int32) (σ : rS) : Prop :=
  ∀ σ1, σ1 = siU σ 63 (0 : Int32) →
  inb a1 150 ∧
  ∀ σ2, σ2 = siU σ1 10 (σ1.2.2.1 32 (a1).toNatClampNeg) →
  cI C 0 m_isWord [.ref (co C), .int (11 : Int32)] σ2 (fun r4 σ3 =>
    cI C 0 m_isWord [.ref (co C), .int (12 : Int32)] σ3 (fun r6 σ5 =>
      (r4 = 0 →
        (r6 = 0 →
          w_draw_162 C Q  (1 : Int32) σ5) ∧
        (¬ (r6 = 0) →
          cI C 7 m_workAt [.ref (co C), .int ((σ5.1 10) + (2 : Int32))] σ5 (fun r8 σ7 =>
            cV C 0 m_outcome [.ref (co C), .int (1 : Int32), .int r8] σ7 (fun σ9 =>
              ((σ9.1 47) ≤ 0 →
                cI C 7 m_workAt [.ref (co C), .int ((σ9.1 10) + (1 : Int32))] σ9 (fun r12 σ11 =>
                  cV C 0 m_outcome [.ref (co C), .int (0 : Int32), .int r12] σ11 (fun σ13 =>
                    w_draw_228 C Q   σ13))) ∧
              (¬ ((σ9.1 47) ≤ 0) →
                cV C 0 m_outcome [.ref (co C), .int (0 : Int32), .int (0 : Int32)] σ9 (fun σ15 =>
                  w_draw_228 C Q   σ15)))))) ∧
      (¬ (r4 = 0) →
        cI C 7 m_workAt [.ref (co C), .int ((σ5.1 10) + (2 : Int32))] σ5 (fun r18 σ17 =>
          (0 < (σ17.1 47) →
            w_draw_65 C Q   σ17) ∧
          (¬ (0 < (σ17.1 47)) →
            (r18 < (1 : Int32) →
              w_draw_65 C Q   σ17) ∧
            (¬ (r18 < (1 : Int32)) →
              (r18 ≤ (64 : Int32) →
                w_draw_88 C Q  r18 (0 : Int32) σ17) ∧
              (¬ (r18 ≤ (64 : Int32)) →
                w_draw_65 C Q   σ17)))))))
theorem t_draw_0 {C : rCx} (hC : cOK C) {Q : Int32 → rS → Prop}   {a1 : Int32} {σ : rS} (F : w_draw_0 C Q  a1 σ) : wG C 8 m_draw 0 [some (.ref (co C)), some (.int a1), none, none, none, none, none] [] σ (qI Q) := by
  unfold w_draw_0 at F
  refine s_aln dX13_draw_0 rfl ?_
  refine s_ic dX13_draw_1 ki_0 ?_
  refine pf_575 hC dX13_draw_2 rfl (fun σ1 eσ1 => ?_)
  replace F := F σ1 eσ1
  refine s_aln dX13_draw_5 rfl ?_
  refine s_aln dX13_draw_6 rfl ?_
  refine gf_72 dX13_draw_7 rfl ?_
  refine s_iln dX13_draw_10 rfl ?_
  refine s_ald hC dX13_draw_11 rt_32 F.1 ?_
  replace F := F.2
  refine pf_306 hC dX13_draw_12 rfl (fun σ2 eσ2 => ?_)
  replace F := F σ2 eσ2
  refine s_aln dX13_draw_15 rfl ?_
  refine s_bi dX13_draw_16 kb_11 ?_
  refine k_391 dX13_draw_18 rfl (Nat.le_of_ble_eq_true rfl) (Nat.le_of_ble_eq_true rfl) F (fun r4 σ3 F => ?_)
  refine s_isn dX13_draw_21 (Nat.le_of_ble_eq_true rfl) rfl ?_
  refine s_aln dX13_draw_22 rfl ?_
  refine s_bi dX13_draw_23 kb_12 ?_
  refine k_391 dX13_draw_25 rfl (Nat.le_of_ble_eq_true rfl) (Nat.le_of_ble_eq_true rfl) F (fun r6 σ5 F => ?_)
  refine s_isn dX13_draw_28 (Nat.le_of_ble_eq_true rfl) rfl ?_
  refine s_iln dX13_draw_29 rfl ?_
  refine s_i (t := 111) (r4 = 0) dX13_draw_30 rfl rfl (fun hc => ?_) (fun hc => ?_)
  · replace F := F.1 hc
    refine s_iln dX13_draw_111 rfl ?_
    refine s_i (t := 159) (r6 = 0) dX13_draw_112 rfl rfl (fun hc => ?_) (fun hc => ?_)
    · replace F := F.1 hc
      refine s_ic dX13_draw_159 ki_1 ?_
      refine s_is dX13_draw_160 (Nat.le_of_ble_eq_true rfl) rfl ?_
      exact s_k (t_draw_162 hC  F) ⟨rfl, rfl, trivial⟩
    · replace F := F.2 hc
      refine s_aln dX13_draw_115 rfl ?_
      refine s_ic dX13_draw_116 ki_1 ?_
      refine s_aln dX13_draw_117 rfl ?_
      refine s_aln dX13_draw_118 rfl ?_
      refine gf_306 dX13_draw_119 rfl ?_
      refine s_ic dX13_draw_122 ki_2 ?_
      refine s_iadd dX13_draw_123 ?_
      refine k_569 dX13_draw_124 rfl (Nat.le_of_ble_eq_true rfl) (Nat.le_of_ble_eq_true rfl) F (fun r8 σ7 F => ?_)
      refine k_578 dX13_draw_127 rfl (Nat.le_of_ble_eq_true rfl) (Nat.le_of_ble_eq_true rfl) F (fun σ9 F => ?_)
      refine s_aln dX13_draw_130 rfl ?_
      refine s_ic dX13_draw_131 ki_0 ?_
      refine s_aln dX13_draw_132 rfl ?_
      refine gf_428 dX13_draw_133 rfl ?_
      refine s_i (t := 143) ((σ9.1 47) ≤ 0) dX13_draw_136 rfl rfl (fun hc => ?_) (fun hc => ?_)
      · replace F := F.1 hc
        refine s_aln dX13_draw_143 rfl ?_
        refine s_aln dX13_draw_144 rfl ?_
        refine gf_306 dX13_draw_145 rfl ?_
        refine s_ic dX13_draw_148 ki_1 ?_
        refine s_iadd dX13_draw_149 ?_
        refine k_569 dX13_draw_150 rfl (Nat.le_of_ble_eq_true rfl) (Nat.le_of_ble_eq_true rfl) F (fun r12 σ11 F => ?_)
        refine k_578 dX13_draw_153 rfl (Nat.le_of_ble_eq_true rfl) (Nat.le_of_ble_eq_true rfl) F (fun σ13 F => ?_)
        refine s_goto (t := 228) dX13_draw_156 rfl ?_
        exact s_k (t_draw_228 hC  F) ⟨rfl, trivial⟩
      · replace F := F.2 hc
        refine s_ic dX13_draw_139 ki_0 ?_
        refine s_goto (t := 153) dX13_draw_140 rfl ?_
        refine k_578 dX13_draw_153 rfl (Nat.le_of_ble_eq_true rfl) (Nat.le_of_ble_eq_true rfl) F (fun σ15 F => ?_)
        refine s_goto (t := 228) dX13_draw_156 rfl ?_
        exact s_k (t_draw_228 hC  F) ⟨rfl, trivial⟩
  · replace F := F.2 hc
    refine s_aln dX13_draw_33 rfl ?_
    refine s_aln dX13_draw_34 rfl ?_
    refine gf_306 dX13_draw_35 rfl ?_
    refine s_ic dX13_draw_38 ki_2 ?_
    refine s_iadd dX13_draw_39 ?_
    refine k_569 dX13_draw_40 rfl (Nat.le_of_ble_eq_true rfl) (Nat.le_of_ble_eq_true rfl) F (fun r18 σ17 F => ?_)
    refine s_is dX13_draw_43 (Nat.le_of_ble_eq_true rfl) rfl ?_
    refine s_aln dX13_draw_45 rfl ?_
    refine gf_428 dX13_draw_46 rfl ?_
    refine s_i (t := 65) (0 < (σ17.1 47)) dX13_draw_49 rfl rfl (fun hc => ?_) (fun hc => ?_)
    · replace F := F.1 hc
      exact s_k (t_draw_65 hC  F) ⟨rfl, trivial⟩
    · replace F := F.2 hc
      refine s_il dX13_draw_52 rfl ?_
      refine s_ic dX13_draw_54 ki_1 ?_
      refine s_ii (t := 65) (r18 < (1 : Int32)) dX13_draw_55 rfl rfl (fun hc => ?_) (fun hc => ?_)
      · replace F := F.1 hc
        exact s_k (t_draw_65 hC  F) ⟨rfl, trivial⟩
      · replace F := F.2 hc
        refine s_il dX13_draw_58 rfl ?_
        refine s_bi dX13_draw_60 kb_64 ?_
        refine s_ii (t := 85) (r18 ≤ (64 : Int32)) dX13_draw_62 rfl rfl (fun hc => ?_) (fun hc => ?_)
        · replace F := F.1 hc
          refine s_ic dX13_draw_85 ki_0 ?_
          refine s_is dX13_draw_86 (Nat.le_of_ble_eq_true rfl) rfl ?_
          exact s_k (t_draw_88 hC  F) ⟨rfl, rfl, rfl, trivial⟩
        · replace F := F.2 hc
          exact s_k (t_draw_65 hC  F) ⟨rfl, trivial⟩

theorem m_draw_run {C : rCx} (hC : cOK C) {Q : Int32 → rS → Prop} {a1 : Int32} {σ : rS} (F : w_draw_0 C Q a1 σ) : cI C 8 m_draw [.ref (co C), .int a1] σ Q := m_I (m_ent _ 5) (t_draw_0 hC F)

