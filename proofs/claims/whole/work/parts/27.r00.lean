/-! methods of the reference: within, feed, end, byteAt, isLetter, isDigit, isBlank, skip, word, shortWord, wordOf, isSign -/
theorem dX13_within_0 : decode cX13_within 0 = .ok (.iload_n 0, 1) := by decide +kernel
theorem dX13_within_1 : decode cX13_within 1 = .ok (.iload_n 1, 1) := by decide +kernel
theorem dX13_within_2 : decode cX13_within 2 = .ok (.if_icmp .lt 12, 3) := by decide +kernel
theorem dX13_within_5 : decode cX13_within 5 = .ok (.iload_n 0, 1) := by decide +kernel
theorem dX13_within_6 : decode cX13_within 6 = .ok (.iload_n 2, 1) := by decide +kernel
theorem dX13_within_7 : decode cX13_within 7 = .ok (.if_icmp .gt 7, 3) := by decide +kernel
theorem dX13_within_10 : decode cX13_within 10 = .ok (.iconst 1, 1) := by decide +kernel
theorem dX13_within_11 : decode cX13_within 11 = .ok (.goto 4, 3) := by decide +kernel
theorem dX13_within_14 : decode cX13_within 14 = .ok (.iconst 0, 1) := by decide +kernel
theorem dX13_within_15 : decode cX13_within 15 = .ok (.ireturn, 1) := by decide +kernel
def w_within_0 (C : rCx) (Q : Int32 → rS → Prop)  (a0 : Int32) (a1 : Int32) (a2 : Int32) (σ : rS) : Prop :=
  (a0 < a1 →
    Q (0 : Int32) σ) ∧
  (¬ (a0 < a1) →
    (a2 < a0 →
      Q (0 : Int32) σ) ∧
    (¬ (a2 < a0) →
      Q (1 : Int32) σ))
theorem t_within_0 {C : rCx} (hC : cOK C) {Q : Int32 → rS → Prop}   {a0 : Int32} {a1 : Int32} {a2 : Int32} {σ : rS} (F : w_within_0 C Q  a0 a1 a2 σ) : wG C 0 m_within 0 [some (.int a0), some (.int a1), some (.int a2)] [] σ (qI Q) := by
  unfold w_within_0 at F
  refine s_iln dX13_within_0 rfl ?_
  refine s_iln dX13_within_1 rfl ?_
  refine s_ii (t := 14) (a0 < a1) dX13_within_2 rfl rfl (fun hc => ?_) (fun hc => ?_)
  · replace F := F.1 hc
    refine s_ic dX13_within_14 ki_0 ?_
    exact s_ri dX13_within_15 rfl (nb_nar nb_0) F
  · replace F := F.2 hc
    refine s_iln dX13_within_5 rfl ?_
    refine s_iln dX13_within_6 rfl ?_
    refine s_ii (t := 14) (a2 < a0) dX13_within_7 rfl rfl (fun hc => ?_) (fun hc => ?_)
    · replace F := F.1 hc
      refine s_ic dX13_within_14 ki_0 ?_
      exact s_ri dX13_within_15 rfl (nb_nar nb_0) F
    · replace F := F.2 hc
      refine s_ic dX13_within_10 ki_1 ?_
      refine s_goto (t := 15) dX13_within_11 rfl ?_
      exact s_ri dX13_within_15 rfl (nb_nar nb_1) F

theorem m_within_run {C : rCx} (hC : cOK C) {Q : Int32 → rS → Prop} {a0 : Int32} {a1 : Int32} {a2 : Int32} {σ : rS} (F : w_within_0 C Q a0 a1 a2 σ) : cI C 0 m_within [.int a0, .int a1, .int a2] σ Q := m_I (m_ent _ 0) (t_within_0 hC F)

theorem dX13_feed_0 : decode cX13_feed 0 = .ok (.aload_n 0, 1) := by decide +kernel
theorem dX13_feed_1 : decode cX13_feed 1 = .ok (.aload_n 0, 1) := by decide +kernel
theorem dX13_feed_2 : decode cX13_feed 2 = .ok (.getfield 253, 3) := by decide +kernel
theorem dX13_feed_5 : decode cX13_feed 5 = .ok (.bipush 20, 2) := by decide +kernel
theorem dX13_feed_7 : decode cX13_feed 7 = .ok (.iadd, 1) := by decide +kernel
theorem dX13_feed_8 : decode cX13_feed 8 = .ok (.ldc 13, 2) := by decide +kernel
theorem dX13_feed_10 : decode cX13_feed 10 = .ok (.if_icmp .le 7, 3) := by decide +kernel
theorem dX13_feed_13 : decode cX13_feed 13 = .ok (.iconst 1, 1) := by decide +kernel
theorem dX13_feed_14 : decode cX13_feed 14 = .ok (.goto 4, 3) := by decide +kernel
theorem dX13_feed_17 : decode cX13_feed 17 = .ok (.iconst 0, 1) := by decide +kernel
theorem dX13_feed_18 : decode cX13_feed 18 = .ok (.putfield 1, 3) := by decide +kernel
theorem dX13_feed_21 : decode cX13_feed 21 = .ok (.aload_n 0, 1) := by decide +kernel
theorem dX13_feed_22 : decode cX13_feed 22 = .ok (.getfield 1, 3) := by decide +kernel
theorem dX13_feed_25 : decode cX13_feed 25 = .ok (.ifCond .le 5, 3) := by decide +kernel
theorem dX13_feed_28 : decode cX13_feed 28 = .ok (.iconst 0, 1) := by decide +kernel
theorem dX13_feed_29 : decode cX13_feed 29 = .ok (.ireturn, 1) := by decide +kernel
theorem dX13_feed_30 : decode cX13_feed 30 = .ok (.iconst 0, 1) := by decide +kernel
theorem dX13_feed_31 : decode cX13_feed 31 = .ok (.istore 6, 2) := by decide +kernel
theorem dX13_feed_33 : decode cX13_feed 33 = .ok (.iload 6, 2) := by decide +kernel
theorem dX13_feed_35 : decode cX13_feed 35 = .ok (.bipush 20, 2) := by decide +kernel
theorem dX13_feed_37 : decode cX13_feed 37 = .ok (.if_icmp .ge 90, 3) := by decide +kernel
theorem dX13_feed_40 : decode cX13_feed 40 = .ok (.iload 6, 2) := by decide +kernel
theorem dX13_feed_42 : decode cX13_feed 42 = .ok (.iconst 4, 1) := by decide +kernel
theorem dX13_feed_43 : decode cX13_feed 43 = .ok (.if_icmp .ge 7, 3) := by decide +kernel
theorem dX13_feed_46 : decode cX13_feed 46 = .ok (.iload_n 1, 1) := by decide +kernel
theorem dX13_feed_47 : decode cX13_feed 47 = .ok (.goto 39, 3) := by decide +kernel
theorem dX13_feed_50 : decode cX13_feed 50 = .ok (.iload 6, 2) := by decide +kernel
theorem dX13_feed_52 : decode cX13_feed 52 = .ok (.bipush 8, 2) := by decide +kernel
theorem dX13_feed_54 : decode cX13_feed 54 = .ok (.if_icmp .ge 7, 3) := by decide +kernel
theorem dX13_feed_57 : decode cX13_feed 57 = .ok (.iload_n 2, 1) := by decide +kernel
theorem dX13_feed_58 : decode cX13_feed 58 = .ok (.goto 28, 3) := by decide +kernel
theorem dX13_feed_61 : decode cX13_feed 61 = .ok (.iload 6, 2) := by decide +kernel
theorem dX13_feed_63 : decode cX13_feed 63 = .ok (.bipush 12, 2) := by decide +kernel
theorem dX13_feed_65 : decode cX13_feed 65 = .ok (.if_icmp .ge 7, 3) := by decide +kernel
theorem dX13_feed_68 : decode cX13_feed 68 = .ok (.iload_n 3, 1) := by decide +kernel
theorem dX13_feed_69 : decode cX13_feed 69 = .ok (.goto 17, 3) := by decide +kernel
theorem dX13_feed_72 : decode cX13_feed 72 = .ok (.iload 6, 2) := by decide +kernel
theorem dX13_feed_74 : decode cX13_feed 74 = .ok (.bipush 16, 2) := by decide +kernel
theorem dX13_feed_76 : decode cX13_feed 76 = .ok (.if_icmp .ge 8, 3) := by decide +kernel
theorem dX13_feed_79 : decode cX13_feed 79 = .ok (.iload 4, 2) := by decide +kernel
theorem dX13_feed_81 : decode cX13_feed 81 = .ok (.goto 5, 3) := by decide +kernel
theorem dX13_feed_84 : decode cX13_feed 84 = .ok (.iload 5, 2) := by decide +kernel
theorem dX13_feed_86 : decode cX13_feed 86 = .ok (.istore 7, 2) := by decide +kernel
theorem dX13_feed_88 : decode cX13_feed 88 = .ok (.aload_n 0, 1) := by decide +kernel
theorem dX13_feed_89 : decode cX13_feed 89 = .ok (.getfield 14, 3) := by decide +kernel
theorem dX13_feed_92 : decode cX13_feed 92 = .ok (.aload_n 0, 1) := by decide +kernel
theorem dX13_feed_93 : decode cX13_feed 93 = .ok (.getfield 253, 3) := by decide +kernel
theorem dX13_feed_96 : decode cX13_feed 96 = .ok (.iload 7, 2) := by decide +kernel
theorem dX13_feed_98 : decode cX13_feed 98 = .ok (.bipush 24, 2) := by decide +kernel
theorem dX13_feed_100 : decode cX13_feed 100 = .ok (.bipush 8, 2) := by decide +kernel
theorem dX13_feed_102 : decode cX13_feed 102 = .ok (.iload 6, 2) := by decide +kernel
theorem dX13_feed_104 : decode cX13_feed 104 = .ok (.iconst 3, 1) := by decide +kernel
theorem dX13_feed_105 : decode cX13_feed 105 = .ok (.iand, 1) := by decide +kernel
theorem dX13_feed_106 : decode cX13_feed 106 = .ok (.imul, 1) := by decide +kernel
theorem dX13_feed_107 : decode cX13_feed 107 = .ok (.isub, 1) := by decide +kernel
theorem dX13_feed_108 : decode cX13_feed 108 = .ok (.ishr, 1) := by decide +kernel
theorem dX13_feed_109 : decode cX13_feed 109 = .ok (.i2b, 1) := by decide +kernel
theorem dX13_feed_110 : decode cX13_feed 110 = .ok (.bastore, 1) := by decide +kernel
theorem dX13_feed_111 : decode cX13_feed 111 = .ok (.aload_n 0, 1) := by decide +kernel
theorem dX13_feed_112 : decode cX13_feed 112 = .ok (.dup, 1) := by decide +kernel
theorem dX13_feed_113 : decode cX13_feed 113 = .ok (.getfield 253, 3) := by decide +kernel
theorem dX13_feed_116 : decode cX13_feed 116 = .ok (.iconst 1, 1) := by decide +kernel
theorem dX13_feed_117 : decode cX13_feed 117 = .ok (.iadd, 1) := by decide +kernel
theorem dX13_feed_118 : decode cX13_feed 118 = .ok (.putfield 253, 3) := by decide +kernel
theorem dX13_feed_121 : decode cX13_feed 121 = .ok (.iinc 6 1, 3) := by decide +kernel
theorem dX13_feed_124 : decode cX13_feed 124 = .ok (.goto (-91), 3) := by decide +kernel
theorem dX13_feed_127 : decode cX13_feed 127 = .ok (.aload_n 0, 1) := by decide +kernel
theorem dX13_feed_128 : decode cX13_feed 128 = .ok (.getfield 253, 3) := by decide +kernel
theorem dX13_feed_131 : decode cX13_feed 131 = .ok (.ireturn, 1) := by decide +kernel
def w_feed_86 (C : rCx) (Q : Int32 → rS → Prop) (B33 : Int32 → Int32 → Int32 → Int32 → Int32 → Int32 → rS → Prop) (a1 : Int32) (a2 : Int32) (a3 : Int32) (a4 : Int32) (a5 : Int32) (a6 : Int32) (s0 : Int32) (σ : rS) : Prop :=
  inb (σ.1 2) 65536 ∧
  ∀ σ1, σ1 = riU σ 1 ((σ.1 2)).toNatClampNeg (vp_nar .byte ((s0 >>> (((24 : Int32) - ((8 : Int32) * (a6 &&& (3 : Int32)))) &&& 31))).toInt8.toInt32) →
  ∀ σ2, σ2 = siU σ1 2 ((σ1.1 2) + (1 : Int32)) →
  ∀ v6_3 : Int32, v6_3 = a6 + (1 : Int32) →
  B33 a1 a2 a3 a4 a5 v6_3 σ2
theorem t_feed_86 {C : rCx} (hC : cOK C) {Q : Int32 → rS → Prop} {B33 : Int32 → Int32 → Int32 → Int32 → Int32 → Int32 → rS → Prop} (hB33 : ∀ a1' a2' a3' a4' a5' a6' τ, B33 a1' a2' a3' a4' a5' a6' τ → wG C 0 m_feed 33 [some (.ref (co C)), some (.int a1'), some (.int a2'), some (.int a3'), some (.int a4'), some (.int a5'), some (.int a6'), none] [] τ (qI Q)) {a1 : Int32} {a2 : Int32} {a3 : Int32} {a4 : Int32} {a5 : Int32} {a6 : Int32} {s0 : Int32} {σ : rS} (F : w_feed_86 C Q B33 a1 a2 a3 a4 a5 a6 s0 σ) : wG C 0 m_feed 86 [some (.ref (co C)), some (.int a1), some (.int a2), some (.int a3), some (.int a4), some (.int a5), some (.int a6), none] [.int s0] σ (qI Q) := by
  unfold w_feed_86 at F
  refine s_is dX13_feed_86 (Nat.le_of_ble_eq_true rfl) rfl ?_
  refine s_aln dX13_feed_88 rfl ?_
  refine gf_14 dX13_feed_89 rfl ?_
  refine s_aln dX13_feed_92 rfl ?_
  refine gf_253 dX13_feed_93 rfl ?_
  refine s_il dX13_feed_96 rfl ?_
  refine s_bi dX13_feed_98 kb_24 ?_
  refine s_bi dX13_feed_100 kb_8 ?_
  refine s_il dX13_feed_102 rfl ?_
  refine s_ic dX13_feed_104 ki_3 ?_
  refine s_iand dX13_feed_105 ?_
  refine s_imul dX13_feed_106 ?_
  refine s_isub dX13_feed_107 ?_
  refine s_ishr dX13_feed_108 ?_
  refine s_i2b dX13_feed_109 ?_
  refine s_bstb hC dX13_feed_110 rt_1 F.1 (fun σ1 eσ1 => ?_)
  replace F := F.2 σ1 eσ1
  refine s_aln dX13_feed_111 rfl ?_
  refine s_dup dX13_feed_112 rfl ?_
  refine gf_253 dX13_feed_113 rfl ?_
  refine s_ic dX13_feed_116 ki_1 ?_
  refine s_iadd dX13_feed_117 ?_
  refine pf_253 hC dX13_feed_118 rfl (fun σ2 eσ2 => ?_)
  replace F := F σ2 eσ2
  refine s_incb dX13_feed_121 ki_1 rfl (Nat.le_of_ble_eq_true rfl) (fun v6_3 ev6_3 => ?_)
  replace F := F v6_3 ev6_3
  refine s_goto (t := 33) dX13_feed_124 rfl ?_
  exact s_k (hB33 _ _ _ _ _ _ _ F) ⟨rfl, rfl, rfl, rfl, rfl, rfl, rfl, trivial⟩

def w_feed_33 (C : rCx) (Q : Int32 → rS → Prop)  (a1 : Int32) (a2 : Int32) (a3 : Int32) (a4 : Int32) (a5 : Int32) (a6 : Int32) (σ : rS) : Prop :=
  ∃ I : Nat → Int32 → Int32 → Int32 → Int32 → Int32 → Int32 → rS → Prop, (∃ n, I n a1 a2 a3 a4 a5 a6 σ) ∧ ∀ n a1 a2 a3 a4 a5 a6 σ, I n a1 a2 a3 a4 a5 a6 σ →
    ((20 : Int32) ≤ a6 →
      Q (σ.1 2) σ) ∧
    (¬ ((20 : Int32) ≤ a6) →
      ((4 : Int32) ≤ a6 →
        ((8 : Int32) ≤ a6 →
          ((12 : Int32) ≤ a6 →
            ((16 : Int32) ≤ a6 →
              w_feed_86 C Q (fun a1' a2' a3' a4' a5' a6' τ => ∃ k < n, I k a1' a2' a3' a4' a5' a6' τ) a1 a2 a3 a4 a5 a6 a5 σ) ∧
            (¬ ((16 : Int32) ≤ a6) →
              w_feed_86 C Q (fun a1' a2' a3' a4' a5' a6' τ => ∃ k < n, I k a1' a2' a3' a4' a5' a6' τ) a1 a2 a3 a4 a5 a6 a4 σ)) ∧
          (¬ ((12 : Int32) ≤ a6) →
            w_feed_86 C Q (fun a1' a2' a3' a4' a5' a6' τ => ∃ k < n, I k a1' a2' a3' a4' a5' a6' τ) a1 a2 a3 a4 a5 a6 a3 σ)) ∧
        (¬ ((8 : Int32) ≤ a6) →
          w_feed_86 C Q (fun a1' a2' a3' a4' a5' a6' τ => ∃ k < n, I k a1' a2' a3' a4' a5' a6' τ) a1 a2 a3 a4 a5 a6 a2 σ)) ∧
      (¬ ((4 : Int32) ≤ a6) →
        w_feed_86 C Q (fun a1' a2' a3' a4' a5' a6' τ => ∃ k < n, I k a1' a2' a3' a4' a5' a6' τ) a1 a2 a3 a4 a5 a6 a1 σ))
theorem t_feed_33 {C : rCx} (hC : cOK C) {Q : Int32 → rS → Prop}   {a1 : Int32} {a2 : Int32} {a3 : Int32} {a4 : Int32} {a5 : Int32} {a6 : Int32} {σ : rS} (F : w_feed_33 C Q  a1 a2 a3 a4 a5 a6 σ) : wG C 0 m_feed 33 [some (.ref (co C)), some (.int a1), some (.int a2), some (.int a3), some (.int a4), some (.int a5), some (.int a6), none] [] σ (qI Q) := by
  obtain ⟨I, ⟨n0, hI0⟩, F0⟩ := F
  have key : ∀ n a1 a2 a3 a4 a5 a6 σ, I n a1 a2 a3 a4 a5 a6 σ → wG C 0 m_feed 33 [some (.ref (co C)), some (.int a1), some (.int a2), some (.int a3), some (.int a4), some (.int a5), some (.int a6), none] [] σ (qI Q) := by
    intro n
    induction n using Nat.strongRecOn with
    | _ n ih =>
      intro a1 a2 a3 a4 a5 a6 σ hI
      have F := F0 n a1 a2 a3 a4 a5 a6 σ hI
      clear hI hI0
      refine s_il dX13_feed_33 rfl ?_
      refine s_bi dX13_feed_35 kb_20 ?_
      refine s_ii (t := 127) ((20 : Int32) ≤ a6) dX13_feed_37 rfl rfl (fun hc => ?_) (fun hc => ?_)
      · replace F := F.1 hc
        refine s_aln dX13_feed_127 rfl ?_
        refine gf_253 dX13_feed_128 rfl ?_
        exact s_ri dX13_feed_131 rfl in_nar F
      · replace F := F.2 hc
        refine s_il dX13_feed_40 rfl ?_
        refine s_ic dX13_feed_42 ki_4 ?_
        refine s_ii (t := 50) ((4 : Int32) ≤ a6) dX13_feed_43 rfl rfl (fun hc => ?_) (fun hc => ?_)
        · replace F := F.1 hc
          refine s_il dX13_feed_50 rfl ?_
          refine s_bi dX13_feed_52 kb_8 ?_
          refine s_ii (t := 61) ((8 : Int32) ≤ a6) dX13_feed_54 rfl rfl (fun hc => ?_) (fun hc => ?_)
          · replace F := F.1 hc
            refine s_il dX13_feed_61 rfl ?_
            refine s_bi dX13_feed_63 kb_12 ?_
            refine s_ii (t := 72) ((12 : Int32) ≤ a6) dX13_feed_65 rfl rfl (fun hc => ?_) (fun hc => ?_)
            · replace F := F.1 hc
              refine s_il dX13_feed_72 rfl ?_
              refine s_bi dX13_feed_74 kb_16 ?_
              refine s_ii (t := 84) ((16 : Int32) ≤ a6) dX13_feed_76 rfl rfl (fun hc => ?_) (fun hc => ?_)
              · replace F := F.1 hc
                refine s_il dX13_feed_84 rfl ?_
                exact s_k (t_feed_86 hC (fun a1' a2' a3' a4' a5' a6' τ hb => by obtain ⟨k, hk, hI⟩ := hb; exact ih k hk a1' a2' a3' a4' a5' a6' τ hI) F) ⟨rfl, rfl, rfl, rfl, rfl, rfl, rfl, trivial⟩
              · replace F := F.2 hc
                refine s_il dX13_feed_79 rfl ?_
                refine s_goto (t := 86) dX13_feed_81 rfl ?_
                exact s_k (t_feed_86 hC (fun a1' a2' a3' a4' a5' a6' τ hb => by obtain ⟨k, hk, hI⟩ := hb; exact ih k hk a1' a2' a3' a4' a5' a6' τ hI) F) ⟨rfl, rfl, rfl, rfl, rfl, rfl, rfl, trivial⟩
            · replace F := F.2 hc
              refine s_iln dX13_feed_68 rfl ?_
              refine s_goto (t := 86) dX13_feed_69 rfl ?_
              exact s_k (t_feed_86 hC (fun a1' a2' a3' a4' a5' a6' τ hb => by obtain ⟨k, hk, hI⟩ := hb; exact ih k hk a1' a2' a3' a4' a5' a6' τ hI) F) ⟨rfl, rfl, rfl, rfl, rfl, rfl, rfl, trivial⟩
          · replace F := F.2 hc
            refine s_iln dX13_feed_57 rfl ?_
            refine s_goto (t := 86) dX13_feed_58 rfl ?_
            exact s_k (t_feed_86 hC (fun a1' a2' a3' a4' a5' a6' τ hb => by obtain ⟨k, hk, hI⟩ := hb; exact ih k hk a1' a2' a3' a4' a5' a6' τ hI) F) ⟨rfl, rfl, rfl, rfl, rfl, rfl, rfl, trivial⟩
        · replace F := F.2 hc
          refine s_iln dX13_feed_46 rfl ?_
          refine s_goto (t := 86) dX13_feed_47 rfl ?_
          exact s_k (t_feed_86 hC (fun a1' a2' a3' a4' a5' a6' τ hb => by obtain ⟨k, hk, hI⟩ := hb; exact ih k hk a1' a2' a3' a4' a5' a6' τ hI) F) ⟨rfl, rfl, rfl, rfl, rfl, rfl, rfl, trivial⟩
  exact key n0 a1 a2 a3 a4 a5 a6 σ hI0

def w_feed_18 (C : rCx) (Q : Int32 → rS → Prop)  (a1 : Int32) (a2 : Int32) (a3 : Int32) (a4 : Int32) (a5 : Int32) (s1 : Int32) (σ : rS) : Prop :=
  ∀ σ1, σ1 = siU σ 0 s1 →
  ((σ1.1 0) ≤ 0 →
    w_feed_33 C Q  a1 a2 a3 a4 a5 (0 : Int32) σ1) ∧
  (¬ ((σ1.1 0) ≤ 0) →
    Q (0 : Int32) σ1)
theorem t_feed_18 {C : rCx} (hC : cOK C) {Q : Int32 → rS → Prop}   {a1 : Int32} {a2 : Int32} {a3 : Int32} {a4 : Int32} {a5 : Int32} {s1 : Int32} {σ : rS} (F : w_feed_18 C Q  a1 a2 a3 a4 a5 s1 σ) : wG C 0 m_feed 18 [some (.ref (co C)), some (.int a1), some (.int a2), some (.int a3), some (.int a4), some (.int a5), none, none] [.int s1, .ref (co C)] σ (qI Q) := by
  unfold w_feed_18 at F
  refine pf_1 hC dX13_feed_18 rfl (fun σ1 eσ1 => ?_)
  replace F := F σ1 eσ1
  refine s_aln dX13_feed_21 rfl ?_
  refine gf_1 dX13_feed_22 rfl ?_
  refine s_i (t := 30) ((σ1.1 0) ≤ 0) dX13_feed_25 rfl rfl (fun hc => ?_) (fun hc => ?_)
  · replace F := F.1 hc
    refine s_ic dX13_feed_30 ki_0 ?_
    refine s_is dX13_feed_31 (Nat.le_of_ble_eq_true rfl) rfl ?_
    exact s_k (t_feed_33 hC  F) ⟨rfl, rfl, rfl, rfl, rfl, rfl, rfl, trivial⟩
  · replace F := F.2 hc
    refine s_ic dX13_feed_28 ki_0 ?_
    exact s_ri dX13_feed_29 rfl in_nar F

def w_feed_0 (C : rCx) (Q : Int32 → rS → Prop)  (a1 : Int32) (a2 : Int32) (a3 : Int32) (a4 : Int32) (a5 : Int32) (σ : rS) : Prop :=
  (((σ.1 2) + (20 : Int32)) ≤ (65536 : Int32) →
    w_feed_18 C Q  a1 a2 a3 a4 a5 (0 : Int32) σ) ∧
  (¬ (((σ.1 2) + (20 : Int32)) ≤ (65536 : Int32)) →
    w_feed_18 C Q  a1 a2 a3 a4 a5 (1 : Int32) σ)
theorem t_feed_0 {C : rCx} (hC : cOK C) {Q : Int32 → rS → Prop}   {a1 : Int32} {a2 : Int32} {a3 : Int32} {a4 : Int32} {a5 : Int32} {σ : rS} (F : w_feed_0 C Q  a1 a2 a3 a4 a5 σ) : wG C 0 m_feed 0 [some (.ref (co C)), some (.int a1), some (.int a2), some (.int a3), some (.int a4), some (.int a5), none, none] [] σ (qI Q) := by
  unfold w_feed_0 at F
  refine s_aln dX13_feed_0 rfl ?_
  refine s_aln dX13_feed_1 rfl ?_
  refine gf_253 dX13_feed_2 rfl ?_
  refine s_bi dX13_feed_5 kb_20 ?_
  refine s_iadd dX13_feed_7 ?_
  refine s_ldc dX13_feed_8 rfl cn_13 ?_
  refine s_ii (t := 17) (((σ.1 2) + (20 : Int32)) ≤ (65536 : Int32)) dX13_feed_10 rfl rfl (fun hc => ?_) (fun hc => ?_)
  · replace F := F.1 hc
    refine s_ic dX13_feed_17 ki_0 ?_
    exact s_k (t_feed_18 hC  F) ⟨rfl, rfl, rfl, rfl, rfl, rfl, trivial⟩
  · replace F := F.2 hc
    refine s_ic dX13_feed_13 ki_1 ?_
    refine s_goto (t := 18) dX13_feed_14 rfl ?_
    exact s_k (t_feed_18 hC  F) ⟨rfl, rfl, rfl, rfl, rfl, rfl, trivial⟩

theorem m_feed_run {C : rCx} (hC : cOK C) {Q : Int32 → rS → Prop} {a1 : Int32} {a2 : Int32} {a3 : Int32} {a4 : Int32} {a5 : Int32} {σ : rS} (F : w_feed_0 C Q a1 a2 a3 a4 a5 σ) : cI C 0 m_feed [.ref (co C), .int a1, .int a2, .int a3, .int a4, .int a5] σ Q := m_I (m_ent _ 2) (t_feed_0 hC F)

theorem dX13_end_0 : decode cX13_end 0 = .ok (.aload_n 0, 1) := by decide +kernel
theorem dX13_end_1 : decode cX13_end 1 = .ok (.iload_n 1, 1) := by decide +kernel
theorem dX13_end_2 : decode cX13_end 2 = .ok (.ifCond .lt 11, 3) := by decide +kernel
theorem dX13_end_5 : decode cX13_end 5 = .ok (.iload_n 1, 1) := by decide +kernel
theorem dX13_end_6 : decode cX13_end 6 = .ok (.aload_n 0, 1) := by decide +kernel
theorem dX13_end_7 : decode cX13_end 7 = .ok (.getfield 253, 3) := by decide +kernel
theorem dX13_end_10 : decode cX13_end 10 = .ok (.if_icmp .le 7, 3) := by decide +kernel
theorem dX13_end_13 : decode cX13_end 13 = .ok (.iconst 1, 1) := by decide +kernel
theorem dX13_end_14 : decode cX13_end 14 = .ok (.goto 4, 3) := by decide +kernel
theorem dX13_end_17 : decode cX13_end 17 = .ok (.iconst 0, 1) := by decide +kernel
theorem dX13_end_18 : decode cX13_end 18 = .ok (.putfield 1, 3) := by decide +kernel
theorem dX13_end_21 : decode cX13_end 21 = .ok (.aload_n 0, 1) := by decide +kernel
theorem dX13_end_22 : decode cX13_end 22 = .ok (.aload_n 0, 1) := by decide +kernel
theorem dX13_end_23 : decode cX13_end 23 = .ok (.getfield 1, 3) := by decide +kernel
theorem dX13_end_26 : decode cX13_end 26 = .ok (.ifCond .le 10, 3) := by decide +kernel
theorem dX13_end_29 : decode cX13_end 29 = .ok (.aload_n 0, 1) := by decide +kernel
theorem dX13_end_30 : decode cX13_end 30 = .ok (.getfield 253, 3) := by decide +kernel
theorem dX13_end_33 : decode cX13_end 33 = .ok (.goto 4, 3) := by decide +kernel
theorem dX13_end_36 : decode cX13_end 36 = .ok (.iload_n 1, 1) := by decide +kernel
theorem dX13_end_37 : decode cX13_end 37 = .ok (.putfield 253, 3) := by decide +kernel
theorem dX13_end_40 : decode cX13_end 40 = .ok (.return_, 1) := by decide +kernel
def w_end_18 (C : rCx) (Q : rS → Prop)  (a1 : Int32) (s1 : Int32) (σ : rS) : Prop :=
  ∀ σ1, σ1 = siU σ 0 s1 →
  ((σ1.1 0) ≤ 0 →
    ∀ σ2, σ2 = siU σ1 2 a1 →
    Q σ2) ∧
  (¬ ((σ1.1 0) ≤ 0) →
    ∀ σ3, σ3 = siU σ1 2 (σ1.1 2) →
    Q σ3)
theorem t_end_18 {C : rCx} (hC : cOK C) {Q : rS → Prop}   {a1 : Int32} {s1 : Int32} {σ : rS} (F : w_end_18 C Q  a1 s1 σ) : wG C 0 m_end 18 [some (.ref (co C)), some (.int a1)] [.int s1, .ref (co C)] σ (qV Q) := by
  unfold w_end_18 at F
  refine pf_1 hC dX13_end_18 rfl (fun σ1 eσ1 => ?_)
  replace F := F σ1 eσ1
  refine s_aln dX13_end_21 rfl ?_
  refine s_aln dX13_end_22 rfl ?_
  refine gf_1 dX13_end_23 rfl ?_
  refine s_i (t := 36) ((σ1.1 0) ≤ 0) dX13_end_26 rfl rfl (fun hc => ?_) (fun hc => ?_)
  · replace F := F.1 hc
    refine s_iln dX13_end_36 rfl ?_
    refine pf_253 hC dX13_end_37 rfl (fun σ2 eσ2 => ?_)
    replace F := F σ2 eσ2
    exact s_rv dX13_end_40 rfl F
  · replace F := F.2 hc
    refine s_aln dX13_end_29 rfl ?_
    refine gf_253 dX13_end_30 rfl ?_
    refine s_goto (t := 37) dX13_end_33 rfl ?_
    refine pf_253 hC dX13_end_37 rfl (fun σ3 eσ3 => ?_)
    replace F := F σ3 eσ3
    exact s_rv dX13_end_40 rfl F

def w_end_0 (C : rCx) (Q : rS → Prop)  (a1 : Int32) (σ : rS) : Prop :=
  (a1 < 0 →
    w_end_18 C Q  a1 (1 : Int32) σ) ∧
  (¬ (a1 < 0) →
    (a1 ≤ (σ.1 2) →
      w_end_18 C Q  a1 (0 : Int32) σ) ∧
    (¬ (a1 ≤ (σ.1 2)) →
      w_end_18 C Q  a1 (1 : Int32) σ))
theorem t_end_0 {C : rCx} (hC : cOK C) {Q : rS → Prop}   {a1 : Int32} {σ : rS} (F : w_end_0 C Q  a1 σ) : wG C 0 m_end 0 [some (.ref (co C)), some (.int a1)] [] σ (qV Q) := by
  unfold w_end_0 at F
  refine s_aln dX13_end_0 rfl ?_
  refine s_iln dX13_end_1 rfl ?_
  refine s_i (t := 13) (a1 < 0) dX13_end_2 rfl rfl (fun hc => ?_) (fun hc => ?_)
  · replace F := F.1 hc
    refine s_ic dX13_end_13 ki_1 ?_
    refine s_goto (t := 18) dX13_end_14 rfl ?_
    exact s_k (t_end_18 hC  F) ⟨rfl, rfl, trivial⟩
  · replace F := F.2 hc
    refine s_iln dX13_end_5 rfl ?_
    refine s_aln dX13_end_6 rfl ?_
    refine gf_253 dX13_end_7 rfl ?_
    refine s_ii (t := 17) (a1 ≤ (σ.1 2)) dX13_end_10 rfl rfl (fun hc => ?_) (fun hc => ?_)
    · replace F := F.1 hc
      refine s_ic dX13_end_17 ki_0 ?_
      exact s_k (t_end_18 hC  F) ⟨rfl, rfl, trivial⟩
    · replace F := F.2 hc
      refine s_ic dX13_end_13 ki_1 ?_
      refine s_goto (t := 18) dX13_end_14 rfl ?_
      exact s_k (t_end_18 hC  F) ⟨rfl, rfl, trivial⟩

theorem m_end_run {C : rCx} (hC : cOK C) {Q : rS → Prop} {a1 : Int32} {σ : rS} (F : w_end_0 C Q a1 σ) : cV C 0 m_end [.ref (co C), .int a1] σ Q := m_V (m_ent _ 0) (t_end_0 hC F)

theorem dX13_byteAt_0 : decode cX13_byteAt 0 = .ok (.iload_n 1, 1) := by decide +kernel
theorem dX13_byteAt_1 : decode cX13_byteAt 1 = .ok (.aload_n 0, 1) := by decide +kernel
theorem dX13_byteAt_2 : decode cX13_byteAt 2 = .ok (.getfield 253, 3) := by decide +kernel
theorem dX13_byteAt_5 : decode cX13_byteAt 5 = .ok (.if_icmp .ge 16, 3) := by decide +kernel
theorem dX13_byteAt_8 : decode cX13_byteAt 8 = .ok (.aload_n 0, 1) := by decide +kernel
theorem dX13_byteAt_9 : decode cX13_byteAt 9 = .ok (.getfield 14, 3) := by decide +kernel
theorem dX13_byteAt_12 : decode cX13_byteAt 12 = .ok (.iload_n 1, 1) := by decide +kernel
theorem dX13_byteAt_13 : decode cX13_byteAt 13 = .ok (.baload, 1) := by decide +kernel
theorem dX13_byteAt_14 : decode cX13_byteAt 14 = .ok (.sipush 255, 3) := by decide +kernel
theorem dX13_byteAt_17 : decode cX13_byteAt 17 = .ok (.iand, 1) := by decide +kernel
theorem dX13_byteAt_18 : decode cX13_byteAt 18 = .ok (.goto 4, 3) := by decide +kernel
theorem dX13_byteAt_21 : decode cX13_byteAt 21 = .ok (.iconst (-1), 1) := by decide +kernel
theorem dX13_byteAt_22 : decode cX13_byteAt 22 = .ok (.ireturn, 1) := by decide +kernel
def w_byteAt_0 (C : rCx) (Q : Int32 → rS → Prop)  (a1 : Int32) (σ : rS) : Prop :=
  ((σ.1 2) ≤ a1 →
    Q (-1 : Int32) σ) ∧
  (¬ ((σ.1 2) ≤ a1) →
    inb a1 65536 ∧
    Q ((σ.2.2.1 1 (a1).toNatClampNeg) &&& (255 : Int32)) σ)
theorem t_byteAt_0 {C : rCx} (hC : cOK C) {Q : Int32 → rS → Prop}   {a1 : Int32} {σ : rS} (F : w_byteAt_0 C Q  a1 σ) : wG C 0 m_byteAt 0 [some (.ref (co C)), some (.int a1)] [] σ (qI Q) := by
  unfold w_byteAt_0 at F
  refine s_iln dX13_byteAt_0 rfl ?_
  refine s_aln dX13_byteAt_1 rfl ?_
  refine gf_253 dX13_byteAt_2 rfl ?_
  refine s_ii (t := 21) ((σ.1 2) ≤ a1) dX13_byteAt_5 rfl rfl (fun hc => ?_) (fun hc => ?_)
  · replace F := F.1 hc
    refine s_ic dX13_byteAt_21 ki_m1 ?_
    exact s_ri dX13_byteAt_22 rfl in_nar F
  · replace F := F.2 hc
    refine s_aln dX13_byteAt_8 rfl ?_
    refine gf_14 dX13_byteAt_9 rfl ?_
    refine s_iln dX13_byteAt_12 rfl ?_
    refine s_bld hC dX13_byteAt_13 rt_1 F.1 ?_
    replace F := F.2
    refine s_si dX13_byteAt_14 ks_255 ?_
    refine s_iand dX13_byteAt_17 ?_
    refine s_goto (t := 22) dX13_byteAt_18 rfl ?_
    exact s_ri dX13_byteAt_22 rfl in_nar F

theorem m_byteAt_run {C : rCx} (hC : cOK C) {Q : Int32 → rS → Prop} {a1 : Int32} {σ : rS} (F : w_byteAt_0 C Q a1 σ) : cI C 0 m_byteAt [.ref (co C), .int a1] σ Q := m_I (m_ent _ 0) (t_byteAt_0 hC F)

theorem dX13_isLetter_0 : decode cX13_isLetter 0 = .ok (.iload_n 0, 1) := by decide +kernel
theorem dX13_isLetter_1 : decode cX13_isLetter 1 = .ok (.bipush 97, 2) := by decide +kernel
theorem dX13_isLetter_3 : decode cX13_isLetter 3 = .ok (.if_icmp .lt 9, 3) := by decide +kernel
theorem dX13_isLetter_6 : decode cX13_isLetter 6 = .ok (.iload_n 0, 1) := by decide +kernel
theorem dX13_isLetter_7 : decode cX13_isLetter 7 = .ok (.bipush 122, 2) := by decide +kernel
theorem dX13_isLetter_9 : decode cX13_isLetter 9 = .ok (.if_icmp .le 21, 3) := by decide +kernel
theorem dX13_isLetter_12 : decode cX13_isLetter 12 = .ok (.iload_n 0, 1) := by decide +kernel
theorem dX13_isLetter_13 : decode cX13_isLetter 13 = .ok (.bipush 65, 2) := by decide +kernel
theorem dX13_isLetter_15 : decode cX13_isLetter 15 = .ok (.if_icmp .lt 9, 3) := by decide +kernel
theorem dX13_isLetter_18 : decode cX13_isLetter 18 = .ok (.iload_n 0, 1) := by decide +kernel
theorem dX13_isLetter_19 : decode cX13_isLetter 19 = .ok (.bipush 90, 2) := by decide +kernel
theorem dX13_isLetter_21 : decode cX13_isLetter 21 = .ok (.if_icmp .le 9, 3) := by decide +kernel
theorem dX13_isLetter_24 : decode cX13_isLetter 24 = .ok (.iload_n 0, 1) := by decide +kernel
theorem dX13_isLetter_25 : decode cX13_isLetter 25 = .ok (.bipush 95, 2) := by decide +kernel
theorem dX13_isLetter_27 : decode cX13_isLetter 27 = .ok (.if_icmp .ne 7, 3) := by decide +kernel
theorem dX13_isLetter_30 : decode cX13_isLetter 30 = .ok (.iconst 1, 1) := by decide +kernel
theorem dX13_isLetter_31 : decode cX13_isLetter 31 = .ok (.goto 4, 3) := by decide +kernel
theorem dX13_isLetter_34 : decode cX13_isLetter 34 = .ok (.iconst 0, 1) := by decide +kernel
theorem dX13_isLetter_35 : decode cX13_isLetter 35 = .ok (.ireturn, 1) := by decide +kernel
def w_isLetter_24 (C : rCx) (Q : Int32 → rS → Prop)  (a0 : Int32) (σ : rS) : Prop :=
  (¬ (a0 = (95 : Int32)) →
    Q (0 : Int32) σ) ∧
  (a0 = (95 : Int32) →
    Q (1 : Int32) σ)
theorem t_isLetter_24 {C : rCx} (hC : cOK C) {Q : Int32 → rS → Prop}   {a0 : Int32} {σ : rS} (F : w_isLetter_24 C Q  a0 σ) : wG C 0 m_isLetter 24 [some (.int a0)] [] σ (qI Q) := by
  unfold w_isLetter_24 at F
  refine s_iln dX13_isLetter_24 rfl ?_
  refine s_bi dX13_isLetter_25 kb_95 ?_
  refine s_iin (t := 34) (a0 = (95 : Int32)) dX13_isLetter_27 rfl rfl (fun hc => ?_) (fun hc => ?_)
  · replace F := F.1 hc
    refine s_ic dX13_isLetter_34 ki_0 ?_
    exact s_ri dX13_isLetter_35 rfl (nb_nar nb_0) F
  · replace F := F.2 hc
    refine s_ic dX13_isLetter_30 ki_1 ?_
    refine s_goto (t := 35) dX13_isLetter_31 rfl ?_
    exact s_ri dX13_isLetter_35 rfl (nb_nar nb_1) F

def w_isLetter_12 (C : rCx) (Q : Int32 → rS → Prop)  (a0 : Int32) (σ : rS) : Prop :=
  (a0 < (65 : Int32) →
    w_isLetter_24 C Q  a0 σ) ∧
  (¬ (a0 < (65 : Int32)) →
    (a0 ≤ (90 : Int32) →
      Q (1 : Int32) σ) ∧
    (¬ (a0 ≤ (90 : Int32)) →
      w_isLetter_24 C Q  a0 σ))
theorem t_isLetter_12 {C : rCx} (hC : cOK C) {Q : Int32 → rS → Prop}   {a0 : Int32} {σ : rS} (F : w_isLetter_12 C Q  a0 σ) : wG C 0 m_isLetter 12 [some (.int a0)] [] σ (qI Q) := by
  unfold w_isLetter_12 at F
  refine s_iln dX13_isLetter_12 rfl ?_
  refine s_bi dX13_isLetter_13 kb_65 ?_
  refine s_ii (t := 24) (a0 < (65 : Int32)) dX13_isLetter_15 rfl rfl (fun hc => ?_) (fun hc => ?_)
  · replace F := F.1 hc
    exact s_k (t_isLetter_24 hC  F) ⟨rfl, trivial⟩
  · replace F := F.2 hc
    refine s_iln dX13_isLetter_18 rfl ?_
    refine s_bi dX13_isLetter_19 kb_90 ?_
    refine s_ii (t := 30) (a0 ≤ (90 : Int32)) dX13_isLetter_21 rfl rfl (fun hc => ?_) (fun hc => ?_)
    · replace F := F.1 hc
      refine s_ic dX13_isLetter_30 ki_1 ?_
      refine s_goto (t := 35) dX13_isLetter_31 rfl ?_
      exact s_ri dX13_isLetter_35 rfl (nb_nar nb_1) F
    · replace F := F.2 hc
      exact s_k (t_isLetter_24 hC  F) ⟨rfl, trivial⟩

def w_isLetter_0 (C : rCx) (Q : Int32 → rS → Prop)  (a0 : Int32) (σ : rS) : Prop :=
  (a0 < (97 : Int32) →
    w_isLetter_12 C Q  a0 σ) ∧
  (¬ (a0 < (97 : Int32)) →
    (a0 ≤ (122 : Int32) →
      Q (1 : Int32) σ) ∧
    (¬ (a0 ≤ (122 : Int32)) →
      w_isLetter_12 C Q  a0 σ))
theorem t_isLetter_0 {C : rCx} (hC : cOK C) {Q : Int32 → rS → Prop}   {a0 : Int32} {σ : rS} (F : w_isLetter_0 C Q  a0 σ) : wG C 0 m_isLetter 0 [some (.int a0)] [] σ (qI Q) := by
  unfold w_isLetter_0 at F
  refine s_iln dX13_isLetter_0 rfl ?_
  refine s_bi dX13_isLetter_1 kb_97 ?_
  refine s_ii (t := 12) (a0 < (97 : Int32)) dX13_isLetter_3 rfl rfl (fun hc => ?_) (fun hc => ?_)
  · replace F := F.1 hc
    exact s_k (t_isLetter_12 hC  F) ⟨rfl, trivial⟩
  · replace F := F.2 hc
    refine s_iln dX13_isLetter_6 rfl ?_
    refine s_bi dX13_isLetter_7 kb_122 ?_
    refine s_ii (t := 30) (a0 ≤ (122 : Int32)) dX13_isLetter_9 rfl rfl (fun hc => ?_) (fun hc => ?_)
    · replace F := F.1 hc
      refine s_ic dX13_isLetter_30 ki_1 ?_
      refine s_goto (t := 35) dX13_isLetter_31 rfl ?_
      exact s_ri dX13_isLetter_35 rfl (nb_nar nb_1) F
    · replace F := F.2 hc
      exact s_k (t_isLetter_12 hC  F) ⟨rfl, trivial⟩

theorem m_isLetter_run {C : rCx} (hC : cOK C) {Q : Int32 → rS → Prop} {a0 : Int32} {σ : rS} (F : w_isLetter_0 C Q a0 σ) : cI C 0 m_isLetter [.int a0] σ Q := m_I (m_ent _ 0) (t_isLetter_0 hC F)

theorem dX13_isDigit_0 : decode cX13_isDigit 0 = .ok (.iload_n 0, 1) := by decide +kernel
theorem dX13_isDigit_1 : decode cX13_isDigit 1 = .ok (.bipush 48, 2) := by decide +kernel
theorem dX13_isDigit_3 : decode cX13_isDigit 3 = .ok (.if_icmp .lt 13, 3) := by decide +kernel
theorem dX13_isDigit_6 : decode cX13_isDigit 6 = .ok (.iload_n 0, 1) := by decide +kernel
theorem dX13_isDigit_7 : decode cX13_isDigit 7 = .ok (.bipush 57, 2) := by decide +kernel
theorem dX13_isDigit_9 : decode cX13_isDigit 9 = .ok (.if_icmp .gt 7, 3) := by decide +kernel
theorem dX13_isDigit_12 : decode cX13_isDigit 12 = .ok (.iconst 1, 1) := by decide +kernel
theorem dX13_isDigit_13 : decode cX13_isDigit 13 = .ok (.goto 4, 3) := by decide +kernel
theorem dX13_isDigit_16 : decode cX13_isDigit 16 = .ok (.iconst 0, 1) := by decide +kernel
theorem dX13_isDigit_17 : decode cX13_isDigit 17 = .ok (.ireturn, 1) := by decide +kernel
def w_isDigit_0 (C : rCx) (Q : Int32 → rS → Prop)  (a0 : Int32) (σ : rS) : Prop :=
  (a0 < (48 : Int32) →
    Q (0 : Int32) σ) ∧
  (¬ (a0 < (48 : Int32)) →
    ((57 : Int32) < a0 →
      Q (0 : Int32) σ) ∧
    (¬ ((57 : Int32) < a0) →
      Q (1 : Int32) σ))
theorem t_isDigit_0 {C : rCx} (hC : cOK C) {Q : Int32 → rS → Prop}   {a0 : Int32} {σ : rS} (F : w_isDigit_0 C Q  a0 σ) : wG C 0 m_isDigit 0 [some (.int a0)] [] σ (qI Q) := by
  unfold w_isDigit_0 at F
  refine s_iln dX13_isDigit_0 rfl ?_
  refine s_bi dX13_isDigit_1 kb_48 ?_
  refine s_ii (t := 16) (a0 < (48 : Int32)) dX13_isDigit_3 rfl rfl (fun hc => ?_) (fun hc => ?_)
  · replace F := F.1 hc
    refine s_ic dX13_isDigit_16 ki_0 ?_
    exact s_ri dX13_isDigit_17 rfl (nb_nar nb_0) F
  · replace F := F.2 hc
    refine s_iln dX13_isDigit_6 rfl ?_
    refine s_bi dX13_isDigit_7 kb_57 ?_
    refine s_ii (t := 16) ((57 : Int32) < a0) dX13_isDigit_9 rfl rfl (fun hc => ?_) (fun hc => ?_)
    · replace F := F.1 hc
      refine s_ic dX13_isDigit_16 ki_0 ?_
      exact s_ri dX13_isDigit_17 rfl (nb_nar nb_0) F
    · replace F := F.2 hc
      refine s_ic dX13_isDigit_12 ki_1 ?_
      refine s_goto (t := 17) dX13_isDigit_13 rfl ?_
      exact s_ri dX13_isDigit_17 rfl (nb_nar nb_1) F

theorem m_isDigit_run {C : rCx} (hC : cOK C) {Q : Int32 → rS → Prop} {a0 : Int32} {σ : rS} (F : w_isDigit_0 C Q a0 σ) : cI C 0 m_isDigit [.int a0] σ Q := m_I (m_ent _ 0) (t_isDigit_0 hC F)

theorem dX13_isBlank_0 : decode cX13_isBlank 0 = .ok (.iload_n 0, 1) := by decide +kernel
theorem dX13_isBlank_1 : decode cX13_isBlank 1 = .ok (.bipush 9, 2) := by decide +kernel
theorem dX13_isBlank_3 : decode cX13_isBlank 3 = .ok (.if_icmp .eq 21, 3) := by decide +kernel
theorem dX13_isBlank_6 : decode cX13_isBlank 6 = .ok (.iload_n 0, 1) := by decide +kernel
theorem dX13_isBlank_7 : decode cX13_isBlank 7 = .ok (.bipush 10, 2) := by decide +kernel
theorem dX13_isBlank_9 : decode cX13_isBlank 9 = .ok (.if_icmp .eq 15, 3) := by decide +kernel
theorem dX13_isBlank_12 : decode cX13_isBlank 12 = .ok (.iload_n 0, 1) := by decide +kernel
theorem dX13_isBlank_13 : decode cX13_isBlank 13 = .ok (.bipush 13, 2) := by decide +kernel
theorem dX13_isBlank_15 : decode cX13_isBlank 15 = .ok (.if_icmp .eq 9, 3) := by decide +kernel
theorem dX13_isBlank_18 : decode cX13_isBlank 18 = .ok (.iload_n 0, 1) := by decide +kernel
theorem dX13_isBlank_19 : decode cX13_isBlank 19 = .ok (.bipush 32, 2) := by decide +kernel
theorem dX13_isBlank_21 : decode cX13_isBlank 21 = .ok (.if_icmp .ne 7, 3) := by decide +kernel
theorem dX13_isBlank_24 : decode cX13_isBlank 24 = .ok (.iconst 1, 1) := by decide +kernel
theorem dX13_isBlank_25 : decode cX13_isBlank 25 = .ok (.goto 4, 3) := by decide +kernel
theorem dX13_isBlank_28 : decode cX13_isBlank 28 = .ok (.iconst 0, 1) := by decide +kernel
theorem dX13_isBlank_29 : decode cX13_isBlank 29 = .ok (.ireturn, 1) := by decide +kernel
def w_isBlank_0 (C : rCx) (Q : Int32 → rS → Prop)  (a0 : Int32) (σ : rS) : Prop :=
  (a0 = (9 : Int32) →
    Q (1 : Int32) σ) ∧
  (¬ (a0 = (9 : Int32)) →
    (a0 = (10 : Int32) →
      Q (1 : Int32) σ) ∧
    (¬ (a0 = (10 : Int32)) →
      (a0 = (13 : Int32) →
        Q (1 : Int32) σ) ∧
      (¬ (a0 = (13 : Int32)) →
        (¬ (a0 = (32 : Int32)) →
          Q (0 : Int32) σ) ∧
        (a0 = (32 : Int32) →
          Q (1 : Int32) σ))))
theorem t_isBlank_0 {C : rCx} (hC : cOK C) {Q : Int32 → rS → Prop}   {a0 : Int32} {σ : rS} (F : w_isBlank_0 C Q  a0 σ) : wG C 0 m_isBlank 0 [some (.int a0)] [] σ (qI Q) := by
  unfold w_isBlank_0 at F
  refine s_iln dX13_isBlank_0 rfl ?_
  refine s_bi dX13_isBlank_1 kb_9 ?_
  refine s_ii (t := 24) (a0 = (9 : Int32)) dX13_isBlank_3 rfl rfl (fun hc => ?_) (fun hc => ?_)
  · replace F := F.1 hc
    refine s_ic dX13_isBlank_24 ki_1 ?_
    refine s_goto (t := 29) dX13_isBlank_25 rfl ?_
    exact s_ri dX13_isBlank_29 rfl (nb_nar nb_1) F
  · replace F := F.2 hc
    refine s_iln dX13_isBlank_6 rfl ?_
    refine s_bi dX13_isBlank_7 kb_10 ?_
    refine s_ii (t := 24) (a0 = (10 : Int32)) dX13_isBlank_9 rfl rfl (fun hc => ?_) (fun hc => ?_)
    · replace F := F.1 hc
      refine s_ic dX13_isBlank_24 ki_1 ?_
      refine s_goto (t := 29) dX13_isBlank_25 rfl ?_
      exact s_ri dX13_isBlank_29 rfl (nb_nar nb_1) F
    · replace F := F.2 hc
      refine s_iln dX13_isBlank_12 rfl ?_
      refine s_bi dX13_isBlank_13 kb_13 ?_
      refine s_ii (t := 24) (a0 = (13 : Int32)) dX13_isBlank_15 rfl rfl (fun hc => ?_) (fun hc => ?_)
      · replace F := F.1 hc
        refine s_ic dX13_isBlank_24 ki_1 ?_
        refine s_goto (t := 29) dX13_isBlank_25 rfl ?_
        exact s_ri dX13_isBlank_29 rfl (nb_nar nb_1) F
      · replace F := F.2 hc
        refine s_iln dX13_isBlank_18 rfl ?_
        refine s_bi dX13_isBlank_19 kb_32 ?_
        refine s_iin (t := 28) (a0 = (32 : Int32)) dX13_isBlank_21 rfl rfl (fun hc => ?_) (fun hc => ?_)
        · replace F := F.1 hc
          refine s_ic dX13_isBlank_28 ki_0 ?_
          exact s_ri dX13_isBlank_29 rfl (nb_nar nb_0) F
        · replace F := F.2 hc
          refine s_ic dX13_isBlank_24 ki_1 ?_
          refine s_goto (t := 29) dX13_isBlank_25 rfl ?_
          exact s_ri dX13_isBlank_29 rfl (nb_nar nb_1) F

theorem m_isBlank_run {C : rCx} (hC : cOK C) {Q : Int32 → rS → Prop} {a0 : Int32} {σ : rS} (F : w_isBlank_0 C Q a0 σ) : cI C 0 m_isBlank [.int a0] σ Q := m_I (m_ent _ 0) (t_isBlank_0 hC F)

theorem dX13_skip_0 : decode cX13_skip 0 = .ok (.iload_n 1, 1) := by decide +kernel
theorem dX13_skip_1 : decode cX13_skip 1 = .ok (.istore_n 2, 1) := by decide +kernel
theorem dX13_skip_2 : decode cX13_skip 2 = .ok (.aload_n 0, 1) := by decide +kernel
theorem dX13_skip_3 : decode cX13_skip 3 = .ok (.iload_n 2, 1) := by decide +kernel
theorem dX13_skip_4 : decode cX13_skip 4 = .ok (.invokevirtual 256, 3) := by decide +kernel
theorem dX13_skip_7 : decode cX13_skip 7 = .ok (.invokestatic 260, 3) := by decide +kernel
theorem dX13_skip_10 : decode cX13_skip 10 = .ok (.ifCond .ne 13, 3) := by decide +kernel
theorem dX13_skip_13 : decode cX13_skip 13 = .ok (.aload_n 0, 1) := by decide +kernel
theorem dX13_skip_14 : decode cX13_skip 14 = .ok (.iload_n 2, 1) := by decide +kernel
theorem dX13_skip_15 : decode cX13_skip 15 = .ok (.invokevirtual 256, 3) := by decide +kernel
theorem dX13_skip_18 : decode cX13_skip 18 = .ok (.bipush 35, 2) := by decide +kernel
theorem dX13_skip_20 : decode cX13_skip 20 = .ok (.if_icmp .ne 43, 3) := by decide +kernel
theorem dX13_skip_23 : decode cX13_skip 23 = .ok (.aload_n 0, 1) := by decide +kernel
theorem dX13_skip_24 : decode cX13_skip 24 = .ok (.iload_n 2, 1) := by decide +kernel
theorem dX13_skip_25 : decode cX13_skip 25 = .ok (.invokevirtual 256, 3) := by decide +kernel
theorem dX13_skip_28 : decode cX13_skip 28 = .ok (.bipush 35, 2) := by decide +kernel
theorem dX13_skip_30 : decode cX13_skip 30 = .ok (.if_icmp .ne 27, 3) := by decide +kernel
theorem dX13_skip_33 : decode cX13_skip 33 = .ok (.iload_n 2, 1) := by decide +kernel
theorem dX13_skip_34 : decode cX13_skip 34 = .ok (.aload_n 0, 1) := by decide +kernel
theorem dX13_skip_35 : decode cX13_skip 35 = .ok (.getfield 253, 3) := by decide +kernel
theorem dX13_skip_38 : decode cX13_skip 38 = .ok (.if_icmp .ge (-36), 3) := by decide +kernel
theorem dX13_skip_41 : decode cX13_skip 41 = .ok (.aload_n 0, 1) := by decide +kernel
theorem dX13_skip_42 : decode cX13_skip 42 = .ok (.iload_n 2, 1) := by decide +kernel
theorem dX13_skip_43 : decode cX13_skip 43 = .ok (.invokevirtual 256, 3) := by decide +kernel
theorem dX13_skip_46 : decode cX13_skip 46 = .ok (.bipush 10, 2) := by decide +kernel
theorem dX13_skip_48 : decode cX13_skip 48 = .ok (.if_icmp .eq (-46), 3) := by decide +kernel
theorem dX13_skip_51 : decode cX13_skip 51 = .ok (.iinc 2 1, 3) := by decide +kernel
theorem dX13_skip_54 : decode cX13_skip 54 = .ok (.goto (-21), 3) := by decide +kernel
theorem dX13_skip_57 : decode cX13_skip 57 = .ok (.iinc 2 1, 3) := by decide +kernel
theorem dX13_skip_60 : decode cX13_skip 60 = .ok (.goto (-58), 3) := by decide +kernel
theorem dX13_skip_63 : decode cX13_skip 63 = .ok (.iload_n 2, 1) := by decide +kernel
theorem dX13_skip_64 : decode cX13_skip 64 = .ok (.ireturn, 1) := by decide +kernel
def w_skip_33 (C : rCx) (Q : Int32 → rS → Prop) (B2 : Int32 → rS → Prop) (a2 : Int32) (σ : rS) : Prop :=
  ∃ I : Nat → Int32 → rS → Prop, (∃ n, I n a2 σ) ∧ ∀ n a2 σ, I n a2 σ →
    ((σ.1 2) ≤ a2 →
      B2 a2 σ) ∧
    (¬ ((σ.1 2) ≤ a2) →
      cI C 0 m_byteAt [.ref (co C), .int a2] σ (fun r2 σ1 =>
        (r2 = (10 : Int32) →
          B2 a2 σ1) ∧
        (¬ (r2 = (10 : Int32)) →
          ∀ v2_3 : Int32, v2_3 = a2 + (1 : Int32) →
          ∃ k < n, I k v2_3 σ1)))
theorem t_skip_33 {C : rCx} (hC : cOK C) {Q : Int32 → rS → Prop} {B2 : Int32 → rS → Prop} (hB2 : ∀ a2' τ, B2 a2' τ → wG C 1 m_skip 2 [some (.ref (co C)), none, some (.int a2')] [] τ (qI Q)) {a2 : Int32} {σ : rS} (F : w_skip_33 C Q B2 a2 σ) : wG C 1 m_skip 33 [some (.ref (co C)), none, some (.int a2)] [] σ (qI Q) := by
  obtain ⟨I, ⟨n0, hI0⟩, F0⟩ := F
  have key : ∀ n a2 σ, I n a2 σ → wG C 1 m_skip 33 [some (.ref (co C)), none, some (.int a2)] [] σ (qI Q) := by
    intro n
    induction n using Nat.strongRecOn with
    | _ n ih =>
      intro a2 σ hI
      have F := F0 n a2 σ hI
      clear hI hI0
      refine s_iln dX13_skip_33 rfl ?_
      refine s_aln dX13_skip_34 rfl ?_
      refine gf_253 dX13_skip_35 rfl ?_
      refine s_ii (t := 2) ((σ.1 2) ≤ a2) dX13_skip_38 rfl rfl (fun hc => ?_) (fun hc => ?_)
      · replace F := F.1 hc
        exact s_k (hB2 _ _ F) ⟨rfl, rfl, trivial⟩
      · replace F := F.2 hc
        refine s_aln dX13_skip_41 rfl ?_
        refine s_iln dX13_skip_42 rfl ?_
        refine k_256 dX13_skip_43 rfl (Nat.le_of_ble_eq_true rfl) (Nat.le_of_ble_eq_true rfl) F (fun r2 σ1 F => ?_)
        refine s_bi dX13_skip_46 kb_10 ?_
        refine s_ii (t := 2) (r2 = (10 : Int32)) dX13_skip_48 rfl rfl (fun hc => ?_) (fun hc => ?_)
        · replace F := F.1 hc
          exact s_k (hB2 _ _ F) ⟨rfl, rfl, trivial⟩
        · replace F := F.2 hc
          refine s_incb dX13_skip_51 ki_1 rfl (Nat.le_of_ble_eq_true rfl) (fun v2_3 ev2_3 => ?_)
          replace F := F v2_3 ev2_3
          refine s_goto (t := 33) dX13_skip_54 rfl ?_
          obtain ⟨k, hk, hI⟩ := F
          exact s_k (ih k hk _ _ hI) ⟨rfl, rfl, trivial⟩
  exact key n0 a2 σ hI0

def w_skip_23 (C : rCx) (Q : Int32 → rS → Prop) (B2 : Int32 → rS → Prop) (a2 : Int32) (σ : rS) : Prop :=
  cI C 0 m_byteAt [.ref (co C), .int a2] σ (fun r2 σ1 =>
    (¬ (r2 = (35 : Int32)) →
      ∀ v2_3 : Int32, v2_3 = a2 + (1 : Int32) →
      B2 v2_3 σ1) ∧
    (r2 = (35 : Int32) →
      w_skip_33 C Q B2 a2 σ1))
theorem t_skip_23 {C : rCx} (hC : cOK C) {Q : Int32 → rS → Prop} {B2 : Int32 → rS → Prop} (hB2 : ∀ a2' τ, B2 a2' τ → wG C 1 m_skip 2 [some (.ref (co C)), none, some (.int a2')] [] τ (qI Q)) {a2 : Int32} {σ : rS} (F : w_skip_23 C Q B2 a2 σ) : wG C 1 m_skip 23 [some (.ref (co C)), none, some (.int a2)] [] σ (qI Q) := by
  unfold w_skip_23 at F
  refine s_aln dX13_skip_23 rfl ?_
  refine s_iln dX13_skip_24 rfl ?_
  refine k_256 dX13_skip_25 rfl (Nat.le_of_ble_eq_true rfl) (Nat.le_of_ble_eq_true rfl) F (fun r2 σ1 F => ?_)
  refine s_bi dX13_skip_28 kb_35 ?_
  refine s_iin (t := 57) (r2 = (35 : Int32)) dX13_skip_30 rfl rfl (fun hc => ?_) (fun hc => ?_)
  · replace F := F.1 hc
    refine s_incb dX13_skip_57 ki_1 rfl (Nat.le_of_ble_eq_true rfl) (fun v2_3 ev2_3 => ?_)
    replace F := F v2_3 ev2_3
    refine s_goto (t := 2) dX13_skip_60 rfl ?_
    exact s_k (hB2 _ _ F) ⟨rfl, rfl, trivial⟩
  · replace F := F.2 hc
    exact s_k (t_skip_33 hC hB2 F) ⟨rfl, rfl, trivial⟩

def w_skip_2 (C : rCx) (Q : Int32 → rS → Prop)  (a2 : Int32) (σ : rS) : Prop :=
  ∃ I : Nat → Int32 → rS → Prop, (∃ n, I n a2 σ) ∧ ∀ n a2 σ, I n a2 σ →
    cI C 0 m_byteAt [.ref (co C), .int a2] σ (fun r2 σ1 =>
      cI C 0 m_isBlank [.int r2] σ1 (fun r4 σ3 =>
        (¬ (r4 = 0) →
          w_skip_23 C Q (fun a2' τ => ∃ k < n, I k a2' τ) a2 σ3) ∧
        (r4 = 0 →
          cI C 0 m_byteAt [.ref (co C), .int a2] σ3 (fun r6 σ5 =>
            (¬ (r6 = (35 : Int32)) →
              Q a2 σ5) ∧
            (r6 = (35 : Int32) →
              w_skip_23 C Q (fun a2' τ => ∃ k < n, I k a2' τ) a2 σ5)))))
theorem t_skip_2 {C : rCx} (hC : cOK C) {Q : Int32 → rS → Prop}   {a2 : Int32} {σ : rS} (F : w_skip_2 C Q  a2 σ) : wG C 1 m_skip 2 [some (.ref (co C)), none, some (.int a2)] [] σ (qI Q) := by
  obtain ⟨I, ⟨n0, hI0⟩, F0⟩ := F
  have key : ∀ n a2 σ, I n a2 σ → wG C 1 m_skip 2 [some (.ref (co C)), none, some (.int a2)] [] σ (qI Q) := by
    intro n
    induction n using Nat.strongRecOn with
    | _ n ih =>
      intro a2 σ hI
      have F := F0 n a2 σ hI
      clear hI hI0
      refine s_aln dX13_skip_2 rfl ?_
      refine s_iln dX13_skip_3 rfl ?_
      refine k_256 dX13_skip_4 rfl (Nat.le_of_ble_eq_true rfl) (Nat.le_of_ble_eq_true rfl) F (fun r2 σ1 F => ?_)
      refine k_260 dX13_skip_7 rfl (Nat.le_of_ble_eq_true rfl) (Nat.le_of_ble_eq_true rfl) F (fun r4 σ3 F => ?_)
      refine s_in (t := 23) (r4 = 0) dX13_skip_10 rfl rfl (fun hc => ?_) (fun hc => ?_)
      · replace F := F.1 hc
        exact s_k (t_skip_23 hC (fun a2' τ hb => by obtain ⟨k, hk, hI⟩ := hb; exact ih k hk a2' τ hI) F) ⟨rfl, rfl, trivial⟩
      · replace F := F.2 hc
        refine s_aln dX13_skip_13 rfl ?_
        refine s_iln dX13_skip_14 rfl ?_
        refine k_256 dX13_skip_15 rfl (Nat.le_of_ble_eq_true rfl) (Nat.le_of_ble_eq_true rfl) F (fun r6 σ5 F => ?_)
        refine s_bi dX13_skip_18 kb_35 ?_
        refine s_iin (t := 63) (r6 = (35 : Int32)) dX13_skip_20 rfl rfl (fun hc => ?_) (fun hc => ?_)
        · replace F := F.1 hc
          refine s_iln dX13_skip_63 rfl ?_
          exact s_ri dX13_skip_64 rfl in_nar F
        · replace F := F.2 hc
          exact s_k (t_skip_23 hC (fun a2' τ hb => by obtain ⟨k, hk, hI⟩ := hb; exact ih k hk a2' τ hI) F) ⟨rfl, rfl, trivial⟩
  exact key n0 a2 σ hI0

def w_skip_0 (C : rCx) (Q : Int32 → rS → Prop)  (a1 : Int32) (σ : rS) : Prop :=
  w_skip_2 C Q  a1 σ
theorem t_skip_0 {C : rCx} (hC : cOK C) {Q : Int32 → rS → Prop}   {a1 : Int32} {σ : rS} (F : w_skip_0 C Q  a1 σ) : wG C 1 m_skip 0 [some (.ref (co C)), some (.int a1), none] [] σ (qI Q) := by
  unfold w_skip_0 at F
  refine s_iln dX13_skip_0 rfl ?_
  refine s_isn dX13_skip_1 (Nat.le_of_ble_eq_true rfl) rfl ?_
  exact s_k (t_skip_2 hC  F) ⟨rfl, rfl, trivial⟩

theorem m_skip_run {C : rCx} (hC : cOK C) {Q : Int32 → rS → Prop} {a1 : Int32} {σ : rS} (F : w_skip_0 C Q a1 σ) : cI C 1 m_skip [.ref (co C), .int a1] σ Q := m_I (m_ent _ 1) (t_skip_0 hC F)

theorem dX13_word_0 : decode cX13_word 0 = .ok (.iload_n 0, 1) := by decide +kernel
theorem dX13_word_1 : decode cX13_word 1 = .ok (.i2l, 1) := by decide +kernel
theorem dX13_word_2 : decode cX13_word 2 = .ok (.bipush 56, 2) := by decide +kernel
theorem dX13_word_4 : decode cX13_word 4 = .ok (.lshl, 1) := by decide +kernel
theorem dX13_word_5 : decode cX13_word 5 = .ok (.iload_n 1, 1) := by decide +kernel
theorem dX13_word_6 : decode cX13_word 6 = .ok (.i2l, 1) := by decide +kernel
theorem dX13_word_7 : decode cX13_word 7 = .ok (.bipush 48, 2) := by decide +kernel
theorem dX13_word_9 : decode cX13_word 9 = .ok (.lshl, 1) := by decide +kernel
theorem dX13_word_10 : decode cX13_word 10 = .ok (.lor, 1) := by decide +kernel
theorem dX13_word_11 : decode cX13_word 11 = .ok (.iload_n 2, 1) := by decide +kernel
theorem dX13_word_12 : decode cX13_word 12 = .ok (.i2l, 1) := by decide +kernel
theorem dX13_word_13 : decode cX13_word 13 = .ok (.bipush 40, 2) := by decide +kernel
theorem dX13_word_15 : decode cX13_word 15 = .ok (.lshl, 1) := by decide +kernel
theorem dX13_word_16 : decode cX13_word 16 = .ok (.lor, 1) := by decide +kernel
theorem dX13_word_17 : decode cX13_word 17 = .ok (.iload_n 3, 1) := by decide +kernel
theorem dX13_word_18 : decode cX13_word 18 = .ok (.i2l, 1) := by decide +kernel
theorem dX13_word_19 : decode cX13_word 19 = .ok (.bipush 32, 2) := by decide +kernel
theorem dX13_word_21 : decode cX13_word 21 = .ok (.lshl, 1) := by decide +kernel
theorem dX13_word_22 : decode cX13_word 22 = .ok (.lor, 1) := by decide +kernel
theorem dX13_word_23 : decode cX13_word 23 = .ok (.iload 4, 2) := by decide +kernel
theorem dX13_word_25 : decode cX13_word 25 = .ok (.i2l, 1) := by decide +kernel
theorem dX13_word_26 : decode cX13_word 26 = .ok (.bipush 24, 2) := by decide +kernel
theorem dX13_word_28 : decode cX13_word 28 = .ok (.lshl, 1) := by decide +kernel
theorem dX13_word_29 : decode cX13_word 29 = .ok (.lor, 1) := by decide +kernel
theorem dX13_word_30 : decode cX13_word 30 = .ok (.iload 5, 2) := by decide +kernel
theorem dX13_word_32 : decode cX13_word 32 = .ok (.i2l, 1) := by decide +kernel
theorem dX13_word_33 : decode cX13_word 33 = .ok (.bipush 16, 2) := by decide +kernel
theorem dX13_word_35 : decode cX13_word 35 = .ok (.lshl, 1) := by decide +kernel
theorem dX13_word_36 : decode cX13_word 36 = .ok (.lor, 1) := by decide +kernel
theorem dX13_word_37 : decode cX13_word 37 = .ok (.iload 6, 2) := by decide +kernel
theorem dX13_word_39 : decode cX13_word 39 = .ok (.i2l, 1) := by decide +kernel
theorem dX13_word_40 : decode cX13_word 40 = .ok (.bipush 8, 2) := by decide +kernel
theorem dX13_word_42 : decode cX13_word 42 = .ok (.lshl, 1) := by decide +kernel
theorem dX13_word_43 : decode cX13_word 43 = .ok (.lor, 1) := by decide +kernel
theorem dX13_word_44 : decode cX13_word 44 = .ok (.lreturn, 1) := by decide +kernel
def w_word_0 (C : rCx) (Q : Int64 → rS → Prop)  (a0 : Int32) (a1 : Int32) (a2 : Int32) (a3 : Int32) (a4 : Int32) (a5 : Int32) (a6 : Int32) (σ : rS) : Prop :=
  Q ((((((((a0).toInt64 <<< (((56 : Int32)).toInt64 &&& 63)) ||| ((a1).toInt64 <<< (((48 : Int32)).toInt64 &&& 63))) ||| ((a2).toInt64 <<< (((40 : Int32)).toInt64 &&& 63))) ||| ((a3).toInt64 <<< (((32 : Int32)).toInt64 &&& 63))) ||| ((a4).toInt64 <<< (((24 : Int32)).toInt64 &&& 63))) ||| ((a5).toInt64 <<< (((16 : Int32)).toInt64 &&& 63))) ||| ((a6).toInt64 <<< (((8 : Int32)).toInt64 &&& 63))) σ
theorem t_word_0 {C : rCx} (hC : cOK C) {Q : Int64 → rS → Prop}   {a0 : Int32} {a1 : Int32} {a2 : Int32} {a3 : Int32} {a4 : Int32} {a5 : Int32} {a6 : Int32} {σ : rS} (F : w_word_0 C Q  a0 a1 a2 a3 a4 a5 a6 σ) : wG C 0 m_word 0 [some (.int a0), some (.int a1), some (.int a2), some (.int a3), some (.int a4), some (.int a5), some (.int a6)] [] σ (qL Q) := by
  unfold w_word_0 at F
  refine s_iln dX13_word_0 rfl ?_
  refine s_i2l dX13_word_1 ?_
  refine s_bi dX13_word_2 kb_56 ?_
  refine s_lshl dX13_word_4 ?_
  refine s_iln dX13_word_5 rfl ?_
  refine s_i2l dX13_word_6 ?_
  refine s_bi dX13_word_7 kb_48 ?_
  refine s_lshl dX13_word_9 ?_
  refine s_lor dX13_word_10 ?_
  refine s_iln dX13_word_11 rfl ?_
  refine s_i2l dX13_word_12 ?_
  refine s_bi dX13_word_13 kb_40 ?_
  refine s_lshl dX13_word_15 ?_
  refine s_lor dX13_word_16 ?_
  refine s_iln dX13_word_17 rfl ?_
  refine s_i2l dX13_word_18 ?_
  refine s_bi dX13_word_19 kb_32 ?_
  refine s_lshl dX13_word_21 ?_
  refine s_lor dX13_word_22 ?_
  refine s_il dX13_word_23 rfl ?_
  refine s_i2l dX13_word_25 ?_
  refine s_bi dX13_word_26 kb_24 ?_
  refine s_lshl dX13_word_28 ?_
  refine s_lor dX13_word_29 ?_
  refine s_il dX13_word_30 rfl ?_
  refine s_i2l dX13_word_32 ?_
  refine s_bi dX13_word_33 kb_16 ?_
  refine s_lshl dX13_word_35 ?_
  refine s_lor dX13_word_36 ?_
  refine s_il dX13_word_37 rfl ?_
  refine s_i2l dX13_word_39 ?_
  refine s_bi dX13_word_40 kb_8 ?_
  refine s_lshl dX13_word_42 ?_
  refine s_lor dX13_word_43 ?_
  exact s_rl dX13_word_44 rfl F

theorem m_word_run {C : rCx} (hC : cOK C) {Q : Int64 → rS → Prop} {a0 : Int32} {a1 : Int32} {a2 : Int32} {a3 : Int32} {a4 : Int32} {a5 : Int32} {a6 : Int32} {σ : rS} (F : w_word_0 C Q a0 a1 a2 a3 a4 a5 a6 σ) : cJ C 0 m_word [.int a0, .int a1, .int a2, .int a3, .int a4, .int a5, .int a6] σ Q := m_J (m_ent _ 0) (t_word_0 hC F)

theorem dX13_shortWord_0 : decode cX13_shortWord 0 = .ok (.lload_n 0, 1) := by decide +kernel
theorem dX13_shortWord_1 : decode cX13_shortWord 1 = .ok (.bipush 118, 2) := by decide +kernel
theorem dX13_shortWord_3 : decode cX13_shortWord 3 = .ok (.bipush 97, 2) := by decide +kernel
theorem dX13_shortWord_5 : decode cX13_shortWord 5 = .ok (.bipush 114, 2) := by decide +kernel
theorem dX13_shortWord_7 : decode cX13_shortWord 7 = .ok (.iconst 0, 1) := by decide +kernel
theorem dX13_shortWord_8 : decode cX13_shortWord 8 = .ok (.iconst 0, 1) := by decide +kernel
theorem dX13_shortWord_9 : decode cX13_shortWord 9 = .ok (.iconst 0, 1) := by decide +kernel
theorem dX13_shortWord_10 : decode cX13_shortWord 10 = .ok (.iconst 0, 1) := by decide +kernel
theorem dX13_shortWord_11 : decode cX13_shortWord 11 = .ok (.invokestatic 264, 3) := by decide +kernel
theorem dX13_shortWord_14 : decode cX13_shortWord 14 = .ok (.lcmp, 1) := by decide +kernel
theorem dX13_shortWord_15 : decode cX13_shortWord 15 = .ok (.ifCond .ne 7, 3) := by decide +kernel
theorem dX13_shortWord_18 : decode cX13_shortWord 18 = .ok (.iconst 1, 1) := by decide +kernel
theorem dX13_shortWord_19 : decode cX13_shortWord 19 = .ok (.goto 166, 3) := by decide +kernel
theorem dX13_shortWord_22 : decode cX13_shortWord 22 = .ok (.lload_n 0, 1) := by decide +kernel
theorem dX13_shortWord_23 : decode cX13_shortWord 23 = .ok (.bipush 97, 2) := by decide +kernel
theorem dX13_shortWord_25 : decode cX13_shortWord 25 = .ok (.bipush 114, 2) := by decide +kernel
theorem dX13_shortWord_27 : decode cX13_shortWord 27 = .ok (.bipush 114, 2) := by decide +kernel
theorem dX13_shortWord_29 : decode cX13_shortWord 29 = .ok (.iconst 0, 1) := by decide +kernel
theorem dX13_shortWord_30 : decode cX13_shortWord 30 = .ok (.iconst 0, 1) := by decide +kernel
theorem dX13_shortWord_31 : decode cX13_shortWord 31 = .ok (.iconst 0, 1) := by decide +kernel
theorem dX13_shortWord_32 : decode cX13_shortWord 32 = .ok (.iconst 0, 1) := by decide +kernel
theorem dX13_shortWord_33 : decode cX13_shortWord 33 = .ok (.invokestatic 264, 3) := by decide +kernel
theorem dX13_shortWord_36 : decode cX13_shortWord 36 = .ok (.lcmp, 1) := by decide +kernel
theorem dX13_shortWord_37 : decode cX13_shortWord 37 = .ok (.ifCond .ne 7, 3) := by decide +kernel
theorem dX13_shortWord_40 : decode cX13_shortWord 40 = .ok (.iconst 2, 1) := by decide +kernel
theorem dX13_shortWord_41 : decode cX13_shortWord 41 = .ok (.goto 144, 3) := by decide +kernel
theorem dX13_shortWord_44 : decode cX13_shortWord 44 = .ok (.lload_n 0, 1) := by decide +kernel
theorem dX13_shortWord_45 : decode cX13_shortWord 45 = .ok (.bipush 102, 2) := by decide +kernel
theorem dX13_shortWord_47 : decode cX13_shortWord 47 = .ok (.bipush 117, 2) := by decide +kernel
theorem dX13_shortWord_49 : decode cX13_shortWord 49 = .ok (.bipush 110, 2) := by decide +kernel
theorem dX13_shortWord_51 : decode cX13_shortWord 51 = .ok (.bipush 99, 2) := by decide +kernel
theorem dX13_shortWord_53 : decode cX13_shortWord 53 = .ok (.iconst 0, 1) := by decide +kernel
theorem dX13_shortWord_54 : decode cX13_shortWord 54 = .ok (.iconst 0, 1) := by decide +kernel
theorem dX13_shortWord_55 : decode cX13_shortWord 55 = .ok (.iconst 0, 1) := by decide +kernel
theorem dX13_shortWord_56 : decode cX13_shortWord 56 = .ok (.invokestatic 264, 3) := by decide +kernel
theorem dX13_shortWord_59 : decode cX13_shortWord 59 = .ok (.lcmp, 1) := by decide +kernel
theorem dX13_shortWord_60 : decode cX13_shortWord 60 = .ok (.ifCond .ne 7, 3) := by decide +kernel
theorem dX13_shortWord_63 : decode cX13_shortWord 63 = .ok (.iconst 3, 1) := by decide +kernel
theorem dX13_shortWord_64 : decode cX13_shortWord 64 = .ok (.goto 121, 3) := by decide +kernel
theorem dX13_shortWord_67 : decode cX13_shortWord 67 = .ok (.lload_n 0, 1) := by decide +kernel
theorem dX13_shortWord_68 : decode cX13_shortWord 68 = .ok (.bipush 105, 2) := by decide +kernel
theorem dX13_shortWord_70 : decode cX13_shortWord 70 = .ok (.bipush 102, 2) := by decide +kernel
theorem dX13_shortWord_72 : decode cX13_shortWord 72 = .ok (.iconst 0, 1) := by decide +kernel
theorem dX13_shortWord_73 : decode cX13_shortWord 73 = .ok (.iconst 0, 1) := by decide +kernel
theorem dX13_shortWord_74 : decode cX13_shortWord 74 = .ok (.iconst 0, 1) := by decide +kernel
theorem dX13_shortWord_75 : decode cX13_shortWord 75 = .ok (.iconst 0, 1) := by decide +kernel
theorem dX13_shortWord_76 : decode cX13_shortWord 76 = .ok (.iconst 0, 1) := by decide +kernel
theorem dX13_shortWord_77 : decode cX13_shortWord 77 = .ok (.invokestatic 264, 3) := by decide +kernel
theorem dX13_shortWord_80 : decode cX13_shortWord 80 = .ok (.lcmp, 1) := by decide +kernel
theorem dX13_shortWord_81 : decode cX13_shortWord 81 = .ok (.ifCond .ne 7, 3) := by decide +kernel
theorem dX13_shortWord_84 : decode cX13_shortWord 84 = .ok (.iconst 5, 1) := by decide +kernel
theorem dX13_shortWord_85 : decode cX13_shortWord 85 = .ok (.goto 100, 3) := by decide +kernel
theorem dX13_shortWord_88 : decode cX13_shortWord 88 = .ok (.lload_n 0, 1) := by decide +kernel
theorem dX13_shortWord_89 : decode cX13_shortWord 89 = .ok (.bipush 101, 2) := by decide +kernel
theorem dX13_shortWord_91 : decode cX13_shortWord 91 = .ok (.bipush 108, 2) := by decide +kernel
theorem dX13_shortWord_93 : decode cX13_shortWord 93 = .ok (.bipush 115, 2) := by decide +kernel
theorem dX13_shortWord_95 : decode cX13_shortWord 95 = .ok (.bipush 101, 2) := by decide +kernel
theorem dX13_shortWord_97 : decode cX13_shortWord 97 = .ok (.iconst 0, 1) := by decide +kernel
theorem dX13_shortWord_98 : decode cX13_shortWord 98 = .ok (.iconst 0, 1) := by decide +kernel
theorem dX13_shortWord_99 : decode cX13_shortWord 99 = .ok (.iconst 0, 1) := by decide +kernel
theorem dX13_shortWord_100 : decode cX13_shortWord 100 = .ok (.invokestatic 264, 3) := by decide +kernel
theorem dX13_shortWord_103 : decode cX13_shortWord 103 = .ok (.lcmp, 1) := by decide +kernel
theorem dX13_shortWord_104 : decode cX13_shortWord 104 = .ok (.ifCond .ne 8, 3) := by decide +kernel
theorem dX13_shortWord_107 : decode cX13_shortWord 107 = .ok (.bipush 6, 2) := by decide +kernel
theorem dX13_shortWord_109 : decode cX13_shortWord 109 = .ok (.goto 76, 3) := by decide +kernel
theorem dX13_shortWord_112 : decode cX13_shortWord 112 = .ok (.lload_n 0, 1) := by decide +kernel
theorem dX13_shortWord_113 : decode cX13_shortWord 113 = .ok (.bipush 103, 2) := by decide +kernel
theorem dX13_shortWord_115 : decode cX13_shortWord 115 = .ok (.bipush 97, 2) := by decide +kernel
theorem dX13_shortWord_117 : decode cX13_shortWord 117 = .ok (.bipush 105, 2) := by decide +kernel
theorem dX13_shortWord_119 : decode cX13_shortWord 119 = .ok (.bipush 110, 2) := by decide +kernel
theorem dX13_shortWord_121 : decode cX13_shortWord 121 = .ok (.iconst 0, 1) := by decide +kernel
theorem dX13_shortWord_122 : decode cX13_shortWord 122 = .ok (.iconst 0, 1) := by decide +kernel
theorem dX13_shortWord_123 : decode cX13_shortWord 123 = .ok (.iconst 0, 1) := by decide +kernel
theorem dX13_shortWord_124 : decode cX13_shortWord 124 = .ok (.invokestatic 264, 3) := by decide +kernel
theorem dX13_shortWord_127 : decode cX13_shortWord 127 = .ok (.lcmp, 1) := by decide +kernel
theorem dX13_shortWord_128 : decode cX13_shortWord 128 = .ok (.ifCond .ne 8, 3) := by decide +kernel
theorem dX13_shortWord_131 : decode cX13_shortWord 131 = .ok (.bipush 10, 2) := by decide +kernel
theorem dX13_shortWord_133 : decode cX13_shortWord 133 = .ok (.goto 52, 3) := by decide +kernel
theorem dX13_shortWord_136 : decode cX13_shortWord 136 = .ok (.lload_n 0, 1) := by decide +kernel
theorem dX13_shortWord_137 : decode cX13_shortWord 137 = .ok (.bipush 112, 2) := by decide +kernel
theorem dX13_shortWord_139 : decode cX13_shortWord 139 = .ok (.bipush 105, 2) := by decide +kernel
theorem dX13_shortWord_141 : decode cX13_shortWord 141 = .ok (.bipush 99, 2) := by decide +kernel
theorem dX13_shortWord_143 : decode cX13_shortWord 143 = .ok (.bipush 107, 2) := by decide +kernel
theorem dX13_shortWord_145 : decode cX13_shortWord 145 = .ok (.iconst 0, 1) := by decide +kernel
theorem dX13_shortWord_146 : decode cX13_shortWord 146 = .ok (.iconst 0, 1) := by decide +kernel
theorem dX13_shortWord_147 : decode cX13_shortWord 147 = .ok (.iconst 0, 1) := by decide +kernel
theorem dX13_shortWord_148 : decode cX13_shortWord 148 = .ok (.invokestatic 264, 3) := by decide +kernel
theorem dX13_shortWord_151 : decode cX13_shortWord 151 = .ok (.lcmp, 1) := by decide +kernel
theorem dX13_shortWord_152 : decode cX13_shortWord 152 = .ok (.ifCond .ne 8, 3) := by decide +kernel
theorem dX13_shortWord_155 : decode cX13_shortWord 155 = .ok (.bipush 11, 2) := by decide +kernel
theorem dX13_shortWord_157 : decode cX13_shortWord 157 = .ok (.goto 28, 3) := by decide +kernel
theorem dX13_shortWord_160 : decode cX13_shortWord 160 = .ok (.lload_n 0, 1) := by decide +kernel
theorem dX13_shortWord_161 : decode cX13_shortWord 161 = .ok (.bipush 102, 2) := by decide +kernel
theorem dX13_shortWord_163 : decode cX13_shortWord 163 = .ok (.bipush 108, 2) := by decide +kernel
theorem dX13_shortWord_165 : decode cX13_shortWord 165 = .ok (.bipush 105, 2) := by decide +kernel
theorem dX13_shortWord_167 : decode cX13_shortWord 167 = .ok (.bipush 112, 2) := by decide +kernel
theorem dX13_shortWord_169 : decode cX13_shortWord 169 = .ok (.iconst 0, 1) := by decide +kernel
theorem dX13_shortWord_170 : decode cX13_shortWord 170 = .ok (.iconst 0, 1) := by decide +kernel
theorem dX13_shortWord_171 : decode cX13_shortWord 171 = .ok (.iconst 0, 1) := by decide +kernel
theorem dX13_shortWord_172 : decode cX13_shortWord 172 = .ok (.invokestatic 264, 3) := by decide +kernel
theorem dX13_shortWord_175 : decode cX13_shortWord 175 = .ok (.lcmp, 1) := by decide +kernel
theorem dX13_shortWord_176 : decode cX13_shortWord 176 = .ok (.ifCond .ne 8, 3) := by decide +kernel
theorem dX13_shortWord_179 : decode cX13_shortWord 179 = .ok (.bipush 12, 2) := by decide +kernel
theorem dX13_shortWord_181 : decode cX13_shortWord 181 = .ok (.goto 4, 3) := by decide +kernel
theorem dX13_shortWord_184 : decode cX13_shortWord 184 = .ok (.iconst 0, 1) := by decide +kernel
theorem dX13_shortWord_185 : decode cX13_shortWord 185 = .ok (.ireturn, 1) := by decide +kernel
def w_shortWord_0 (C : rCx) (Q : Int32 → rS → Prop)  (a0 : Int64) (σ : rS) : Prop :=
  cJ C 0 m_word [.int (118 : Int32), .int (97 : Int32), .int (114 : Int32), .int (0 : Int32), .int (0 : Int32), .int (0 : Int32), .int (0 : Int32)] σ (fun r2 σ1 =>
    (¬ ((lg_cmp a0 r2) = 0) →
      cJ C 0 m_word [.int (97 : Int32), .int (114 : Int32), .int (114 : Int32), .int (0 : Int32), .int (0 : Int32), .int (0 : Int32), .int (0 : Int32)] σ1 (fun r4 σ3 =>
        (¬ ((lg_cmp a0 r4) = 0) →
          cJ C 0 m_word [.int (102 : Int32), .int (117 : Int32), .int (110 : Int32), .int (99 : Int32), .int (0 : Int32), .int (0 : Int32), .int (0 : Int32)] σ3 (fun r6 σ5 =>
            (¬ ((lg_cmp a0 r6) = 0) →
              cJ C 0 m_word [.int (105 : Int32), .int (102 : Int32), .int (0 : Int32), .int (0 : Int32), .int (0 : Int32), .int (0 : Int32), .int (0 : Int32)] σ5 (fun r8 σ7 =>
                (¬ ((lg_cmp a0 r8) = 0) →
                  cJ C 0 m_word [.int (101 : Int32), .int (108 : Int32), .int (115 : Int32), .int (101 : Int32), .int (0 : Int32), .int (0 : Int32), .int (0 : Int32)] σ7 (fun r10 σ9 =>
                    (¬ ((lg_cmp a0 r10) = 0) →
                      cJ C 0 m_word [.int (103 : Int32), .int (97 : Int32), .int (105 : Int32), .int (110 : Int32), .int (0 : Int32), .int (0 : Int32), .int (0 : Int32)] σ9 (fun r12 σ11 =>
                        (¬ ((lg_cmp a0 r12) = 0) →
                          cJ C 0 m_word [.int (112 : Int32), .int (105 : Int32), .int (99 : Int32), .int (107 : Int32), .int (0 : Int32), .int (0 : Int32), .int (0 : Int32)] σ11 (fun r14 σ13 =>
                            (¬ ((lg_cmp a0 r14) = 0) →
                              cJ C 0 m_word [.int (102 : Int32), .int (108 : Int32), .int (105 : Int32), .int (112 : Int32), .int (0 : Int32), .int (0 : Int32), .int (0 : Int32)] σ13 (fun r16 σ15 =>
                                (¬ ((lg_cmp a0 r16) = 0) →
                                  Q (0 : Int32) σ15) ∧
                                ((lg_cmp a0 r16) = 0 →
                                  Q (12 : Int32) σ15))) ∧
                            ((lg_cmp a0 r14) = 0 →
                              Q (11 : Int32) σ13))) ∧
                        ((lg_cmp a0 r12) = 0 →
                          Q (10 : Int32) σ11))) ∧
                    ((lg_cmp a0 r10) = 0 →
                      Q (6 : Int32) σ9))) ∧
                ((lg_cmp a0 r8) = 0 →
                  Q (5 : Int32) σ7))) ∧
            ((lg_cmp a0 r6) = 0 →
              Q (3 : Int32) σ5))) ∧
        ((lg_cmp a0 r4) = 0 →
          Q (2 : Int32) σ3))) ∧
    ((lg_cmp a0 r2) = 0 →
      Q (1 : Int32) σ1))
theorem t_shortWord_0 {C : rCx} (hC : cOK C) {Q : Int32 → rS → Prop}   {a0 : Int64} {σ : rS} (F : w_shortWord_0 C Q  a0 σ) : wG C 1 m_shortWord 0 [some (.long a0), none] [] σ (qI Q) := by
  unfold w_shortWord_0 at F
  refine s_lln dX13_shortWord_0 rfl ?_
  refine s_bi dX13_shortWord_1 kb_118 ?_
  refine s_bi dX13_shortWord_3 kb_97 ?_
  refine s_bi dX13_shortWord_5 kb_114 ?_
  refine s_ic dX13_shortWord_7 ki_0 ?_
  refine s_ic dX13_shortWord_8 ki_0 ?_
  refine s_ic dX13_shortWord_9 ki_0 ?_
  refine s_ic dX13_shortWord_10 ki_0 ?_
  refine k_264 dX13_shortWord_11 rfl (Nat.le_of_ble_eq_true rfl) (Nat.le_of_ble_eq_true rfl) F (fun r2 σ1 F => ?_)
  refine s_lcmp dX13_shortWord_14 ?_
  refine s_in (t := 22) ((lg_cmp a0 r2) = 0) dX13_shortWord_15 rfl rfl (fun hc => ?_) (fun hc => ?_)
  · replace F := F.1 hc
    refine s_lln dX13_shortWord_22 rfl ?_
    refine s_bi dX13_shortWord_23 kb_97 ?_
    refine s_bi dX13_shortWord_25 kb_114 ?_
    refine s_bi dX13_shortWord_27 kb_114 ?_
    refine s_ic dX13_shortWord_29 ki_0 ?_
    refine s_ic dX13_shortWord_30 ki_0 ?_
    refine s_ic dX13_shortWord_31 ki_0 ?_
    refine s_ic dX13_shortWord_32 ki_0 ?_
    refine k_264 dX13_shortWord_33 rfl (Nat.le_of_ble_eq_true rfl) (Nat.le_of_ble_eq_true rfl) F (fun r4 σ3 F => ?_)
    refine s_lcmp dX13_shortWord_36 ?_
    refine s_in (t := 44) ((lg_cmp a0 r4) = 0) dX13_shortWord_37 rfl rfl (fun hc => ?_) (fun hc => ?_)
    · replace F := F.1 hc
      refine s_lln dX13_shortWord_44 rfl ?_
      refine s_bi dX13_shortWord_45 kb_102 ?_
      refine s_bi dX13_shortWord_47 kb_117 ?_
      refine s_bi dX13_shortWord_49 kb_110 ?_
      refine s_bi dX13_shortWord_51 kb_99 ?_
      refine s_ic dX13_shortWord_53 ki_0 ?_
      refine s_ic dX13_shortWord_54 ki_0 ?_
      refine s_ic dX13_shortWord_55 ki_0 ?_
      refine k_264 dX13_shortWord_56 rfl (Nat.le_of_ble_eq_true rfl) (Nat.le_of_ble_eq_true rfl) F (fun r6 σ5 F => ?_)
      refine s_lcmp dX13_shortWord_59 ?_
      refine s_in (t := 67) ((lg_cmp a0 r6) = 0) dX13_shortWord_60 rfl rfl (fun hc => ?_) (fun hc => ?_)
      · replace F := F.1 hc
        refine s_lln dX13_shortWord_67 rfl ?_
        refine s_bi dX13_shortWord_68 kb_105 ?_
        refine s_bi dX13_shortWord_70 kb_102 ?_
        refine s_ic dX13_shortWord_72 ki_0 ?_
        refine s_ic dX13_shortWord_73 ki_0 ?_
        refine s_ic dX13_shortWord_74 ki_0 ?_
        refine s_ic dX13_shortWord_75 ki_0 ?_
        refine s_ic dX13_shortWord_76 ki_0 ?_
        refine k_264 dX13_shortWord_77 rfl (Nat.le_of_ble_eq_true rfl) (Nat.le_of_ble_eq_true rfl) F (fun r8 σ7 F => ?_)
        refine s_lcmp dX13_shortWord_80 ?_
        refine s_in (t := 88) ((lg_cmp a0 r8) = 0) dX13_shortWord_81 rfl rfl (fun hc => ?_) (fun hc => ?_)
        · replace F := F.1 hc
          refine s_lln dX13_shortWord_88 rfl ?_
          refine s_bi dX13_shortWord_89 kb_101 ?_
          refine s_bi dX13_shortWord_91 kb_108 ?_
          refine s_bi dX13_shortWord_93 kb_115 ?_
          refine s_bi dX13_shortWord_95 kb_101 ?_
          refine s_ic dX13_shortWord_97 ki_0 ?_
          refine s_ic dX13_shortWord_98 ki_0 ?_
          refine s_ic dX13_shortWord_99 ki_0 ?_
          refine k_264 dX13_shortWord_100 rfl (Nat.le_of_ble_eq_true rfl) (Nat.le_of_ble_eq_true rfl) F (fun r10 σ9 F => ?_)
          refine s_lcmp dX13_shortWord_103 ?_
          refine s_in (t := 112) ((lg_cmp a0 r10) = 0) dX13_shortWord_104 rfl rfl (fun hc => ?_) (fun hc => ?_)
          · replace F := F.1 hc
            refine s_lln dX13_shortWord_112 rfl ?_
            refine s_bi dX13_shortWord_113 kb_103 ?_
            refine s_bi dX13_shortWord_115 kb_97 ?_
            refine s_bi dX13_shortWord_117 kb_105 ?_
            refine s_bi dX13_shortWord_119 kb_110 ?_
            refine s_ic dX13_shortWord_121 ki_0 ?_
            refine s_ic dX13_shortWord_122 ki_0 ?_
            refine s_ic dX13_shortWord_123 ki_0 ?_
            refine k_264 dX13_shortWord_124 rfl (Nat.le_of_ble_eq_true rfl) (Nat.le_of_ble_eq_true rfl) F (fun r12 σ11 F => ?_)
            refine s_lcmp dX13_shortWord_127 ?_
            refine s_in (t := 136) ((lg_cmp a0 r12) = 0) dX13_shortWord_128 rfl rfl (fun hc => ?_) (fun hc => ?_)
            · replace F := F.1 hc
              refine s_lln dX13_shortWord_136 rfl ?_
              refine s_bi dX13_shortWord_137 kb_112 ?_
              refine s_bi dX13_shortWord_139 kb_105 ?_
              refine s_bi dX13_shortWord_141 kb_99 ?_
              refine s_bi dX13_shortWord_143 kb_107 ?_
              refine s_ic dX13_shortWord_145 ki_0 ?_
              refine s_ic dX13_shortWord_146 ki_0 ?_
              refine s_ic dX13_shortWord_147 ki_0 ?_
              refine k_264 dX13_shortWord_148 rfl (Nat.le_of_ble_eq_true rfl) (Nat.le_of_ble_eq_true rfl) F (fun r14 σ13 F => ?_)
              refine s_lcmp dX13_shortWord_151 ?_
              refine s_in (t := 160) ((lg_cmp a0 r14) = 0) dX13_shortWord_152 rfl rfl (fun hc => ?_) (fun hc => ?_)
              · replace F := F.1 hc
                refine s_lln dX13_shortWord_160 rfl ?_
                refine s_bi dX13_shortWord_161 kb_102 ?_
                refine s_bi dX13_shortWord_163 kb_108 ?_
                refine s_bi dX13_shortWord_165 kb_105 ?_
                refine s_bi dX13_shortWord_167 kb_112 ?_
                refine s_ic dX13_shortWord_169 ki_0 ?_
                refine s_ic dX13_shortWord_170 ki_0 ?_
                refine s_ic dX13_shortWord_171 ki_0 ?_
                refine k_264 dX13_shortWord_172 rfl (Nat.le_of_ble_eq_true rfl) (Nat.le_of_ble_eq_true rfl) F (fun r16 σ15 F => ?_)
                refine s_lcmp dX13_shortWord_175 ?_
                refine s_in (t := 184) ((lg_cmp a0 r16) = 0) dX13_shortWord_176 rfl rfl (fun hc => ?_) (fun hc => ?_)
                · replace F := F.1 hc
                  refine s_ic dX13_shortWord_184 ki_0 ?_
                  exact s_ri dX13_shortWord_185 rfl in_nar F
                · replace F := F.2 hc
                  refine s_bi dX13_shortWord_179 kb_12 ?_
                  refine s_goto (t := 185) dX13_shortWord_181 rfl ?_
                  exact s_ri dX13_shortWord_185 rfl in_nar F
              · replace F := F.2 hc
                refine s_bi dX13_shortWord_155 kb_11 ?_
                refine s_goto (t := 185) dX13_shortWord_157 rfl ?_
                exact s_ri dX13_shortWord_185 rfl in_nar F
            · replace F := F.2 hc
              refine s_bi dX13_shortWord_131 kb_10 ?_
              refine s_goto (t := 185) dX13_shortWord_133 rfl ?_
              exact s_ri dX13_shortWord_185 rfl in_nar F
          · replace F := F.2 hc
            refine s_bi dX13_shortWord_107 kb_6 ?_
            refine s_goto (t := 185) dX13_shortWord_109 rfl ?_
            exact s_ri dX13_shortWord_185 rfl in_nar F
        · replace F := F.2 hc
          refine s_ic dX13_shortWord_84 ki_5 ?_
          refine s_goto (t := 185) dX13_shortWord_85 rfl ?_
          exact s_ri dX13_shortWord_185 rfl in_nar F
      · replace F := F.2 hc
        refine s_ic dX13_shortWord_63 ki_3 ?_
        refine s_goto (t := 185) dX13_shortWord_64 rfl ?_
        exact s_ri dX13_shortWord_185 rfl in_nar F
    · replace F := F.2 hc
      refine s_ic dX13_shortWord_40 ki_2 ?_
      refine s_goto (t := 185) dX13_shortWord_41 rfl ?_
      exact s_ri dX13_shortWord_185 rfl in_nar F
  · replace F := F.2 hc
    refine s_ic dX13_shortWord_18 ki_1 ?_
    refine s_goto (t := 185) dX13_shortWord_19 rfl ?_
    exact s_ri dX13_shortWord_185 rfl in_nar F

theorem m_shortWord_run {C : rCx} (hC : cOK C) {Q : Int32 → rS → Prop} {a0 : Int64} {σ : rS} (F : w_shortWord_0 C Q a0 σ) : cI C 1 m_shortWord [.long a0] σ Q := m_I (m_ent _ 0) (t_shortWord_0 hC F)

theorem dX13_wordOf_0 : decode cX13_wordOf 0 = .ok (.lload_n 0, 1) := by decide +kernel
theorem dX13_wordOf_1 : decode cX13_wordOf 1 = .ok (.invokestatic 268, 3) := by decide +kernel
theorem dX13_wordOf_4 : decode cX13_wordOf 4 = .ok (.istore_n 2, 1) := by decide +kernel
theorem dX13_wordOf_5 : decode cX13_wordOf 5 = .ok (.iload_n 2, 1) := by decide +kernel
theorem dX13_wordOf_6 : decode cX13_wordOf 6 = .ok (.ifCond .le 7, 3) := by decide +kernel
theorem dX13_wordOf_9 : decode cX13_wordOf 9 = .ok (.iload_n 2, 1) := by decide +kernel
theorem dX13_wordOf_10 : decode cX13_wordOf 10 = .ok (.goto 132, 3) := by decide +kernel
theorem dX13_wordOf_13 : decode cX13_wordOf 13 = .ok (.lload_n 0, 1) := by decide +kernel
theorem dX13_wordOf_14 : decode cX13_wordOf 14 = .ok (.bipush 108, 2) := by decide +kernel
theorem dX13_wordOf_16 : decode cX13_wordOf 16 = .ok (.bipush 111, 2) := by decide +kernel
theorem dX13_wordOf_18 : decode cX13_wordOf 18 = .ok (.bipush 99, 2) := by decide +kernel
theorem dX13_wordOf_20 : decode cX13_wordOf 20 = .ok (.bipush 97, 2) := by decide +kernel
theorem dX13_wordOf_22 : decode cX13_wordOf 22 = .ok (.bipush 108, 2) := by decide +kernel
theorem dX13_wordOf_24 : decode cX13_wordOf 24 = .ok (.iconst 0, 1) := by decide +kernel
theorem dX13_wordOf_25 : decode cX13_wordOf 25 = .ok (.iconst 0, 1) := by decide +kernel
theorem dX13_wordOf_26 : decode cX13_wordOf 26 = .ok (.invokestatic 264, 3) := by decide +kernel
theorem dX13_wordOf_29 : decode cX13_wordOf 29 = .ok (.lcmp, 1) := by decide +kernel
theorem dX13_wordOf_30 : decode cX13_wordOf 30 = .ok (.ifCond .ne 7, 3) := by decide +kernel
theorem dX13_wordOf_33 : decode cX13_wordOf 33 = .ok (.iconst 4, 1) := by decide +kernel
theorem dX13_wordOf_34 : decode cX13_wordOf 34 = .ok (.goto 108, 3) := by decide +kernel
theorem dX13_wordOf_37 : decode cX13_wordOf 37 = .ok (.lload_n 0, 1) := by decide +kernel
theorem dX13_wordOf_38 : decode cX13_wordOf 38 = .ok (.bipush 119, 2) := by decide +kernel
theorem dX13_wordOf_40 : decode cX13_wordOf 40 = .ok (.bipush 104, 2) := by decide +kernel
theorem dX13_wordOf_42 : decode cX13_wordOf 42 = .ok (.bipush 105, 2) := by decide +kernel
theorem dX13_wordOf_44 : decode cX13_wordOf 44 = .ok (.bipush 108, 2) := by decide +kernel
theorem dX13_wordOf_46 : decode cX13_wordOf 46 = .ok (.bipush 101, 2) := by decide +kernel
theorem dX13_wordOf_48 : decode cX13_wordOf 48 = .ok (.iconst 0, 1) := by decide +kernel
theorem dX13_wordOf_49 : decode cX13_wordOf 49 = .ok (.iconst 0, 1) := by decide +kernel
theorem dX13_wordOf_50 : decode cX13_wordOf 50 = .ok (.invokestatic 264, 3) := by decide +kernel
theorem dX13_wordOf_53 : decode cX13_wordOf 53 = .ok (.lcmp, 1) := by decide +kernel
theorem dX13_wordOf_54 : decode cX13_wordOf 54 = .ok (.ifCond .ne 8, 3) := by decide +kernel
theorem dX13_wordOf_57 : decode cX13_wordOf 57 = .ok (.bipush 7, 2) := by decide +kernel
theorem dX13_wordOf_59 : decode cX13_wordOf 59 = .ok (.goto 83, 3) := by decide +kernel
theorem dX13_wordOf_62 : decode cX13_wordOf 62 = .ok (.lload_n 0, 1) := by decide +kernel
theorem dX13_wordOf_63 : decode cX13_wordOf 63 = .ok (.bipush 114, 2) := by decide +kernel
theorem dX13_wordOf_65 : decode cX13_wordOf 65 = .ok (.bipush 101, 2) := by decide +kernel
theorem dX13_wordOf_67 : decode cX13_wordOf 67 = .ok (.bipush 116, 2) := by decide +kernel
theorem dX13_wordOf_69 : decode cX13_wordOf 69 = .ok (.bipush 117, 2) := by decide +kernel
theorem dX13_wordOf_71 : decode cX13_wordOf 71 = .ok (.bipush 114, 2) := by decide +kernel
theorem dX13_wordOf_73 : decode cX13_wordOf 73 = .ok (.bipush 110, 2) := by decide +kernel
theorem dX13_wordOf_75 : decode cX13_wordOf 75 = .ok (.iconst 0, 1) := by decide +kernel
theorem dX13_wordOf_76 : decode cX13_wordOf 76 = .ok (.invokestatic 264, 3) := by decide +kernel
theorem dX13_wordOf_79 : decode cX13_wordOf 79 = .ok (.lcmp, 1) := by decide +kernel
theorem dX13_wordOf_80 : decode cX13_wordOf 80 = .ok (.ifCond .ne 8, 3) := by decide +kernel
theorem dX13_wordOf_83 : decode cX13_wordOf 83 = .ok (.bipush 8, 2) := by decide +kernel
theorem dX13_wordOf_85 : decode cX13_wordOf 85 = .ok (.goto 57, 3) := by decide +kernel
theorem dX13_wordOf_88 : decode cX13_wordOf 88 = .ok (.lload_n 0, 1) := by decide +kernel
theorem dX13_wordOf_89 : decode cX13_wordOf 89 = .ok (.bipush 111, 2) := by decide +kernel
theorem dX13_wordOf_91 : decode cX13_wordOf 91 = .ok (.bipush 98, 2) := by decide +kernel
theorem dX13_wordOf_93 : decode cX13_wordOf 93 = .ok (.bipush 115, 2) := by decide +kernel
theorem dX13_wordOf_95 : decode cX13_wordOf 95 = .ok (.bipush 101, 2) := by decide +kernel
theorem dX13_wordOf_97 : decode cX13_wordOf 97 = .ok (.bipush 114, 2) := by decide +kernel
theorem dX13_wordOf_99 : decode cX13_wordOf 99 = .ok (.bipush 118, 2) := by decide +kernel
theorem dX13_wordOf_101 : decode cX13_wordOf 101 = .ok (.bipush 101, 2) := by decide +kernel
theorem dX13_wordOf_103 : decode cX13_wordOf 103 = .ok (.invokestatic 264, 3) := by decide +kernel
theorem dX13_wordOf_106 : decode cX13_wordOf 106 = .ok (.lcmp, 1) := by decide +kernel
theorem dX13_wordOf_107 : decode cX13_wordOf 107 = .ok (.ifCond .ne 8, 3) := by decide +kernel
theorem dX13_wordOf_110 : decode cX13_wordOf 110 = .ok (.bipush 9, 2) := by decide +kernel
theorem dX13_wordOf_112 : decode cX13_wordOf 112 = .ok (.goto 30, 3) := by decide +kernel
theorem dX13_wordOf_115 : decode cX13_wordOf 115 = .ok (.lload_n 0, 1) := by decide +kernel
theorem dX13_wordOf_116 : decode cX13_wordOf 116 = .ok (.bipush 99, 2) := by decide +kernel
theorem dX13_wordOf_118 : decode cX13_wordOf 118 = .ok (.bipush 104, 2) := by decide +kernel
theorem dX13_wordOf_120 : decode cX13_wordOf 120 = .ok (.bipush 111, 2) := by decide +kernel
theorem dX13_wordOf_122 : decode cX13_wordOf 122 = .ok (.bipush 111, 2) := by decide +kernel
theorem dX13_wordOf_124 : decode cX13_wordOf 124 = .ok (.bipush 115, 2) := by decide +kernel
theorem dX13_wordOf_126 : decode cX13_wordOf 126 = .ok (.bipush 101, 2) := by decide +kernel
theorem dX13_wordOf_128 : decode cX13_wordOf 128 = .ok (.iconst 0, 1) := by decide +kernel
theorem dX13_wordOf_129 : decode cX13_wordOf 129 = .ok (.invokestatic 264, 3) := by decide +kernel
theorem dX13_wordOf_132 : decode cX13_wordOf 132 = .ok (.lcmp, 1) := by decide +kernel
theorem dX13_wordOf_133 : decode cX13_wordOf 133 = .ok (.ifCond .ne 8, 3) := by decide +kernel
theorem dX13_wordOf_136 : decode cX13_wordOf 136 = .ok (.bipush 13, 2) := by decide +kernel
theorem dX13_wordOf_138 : decode cX13_wordOf 138 = .ok (.goto 4, 3) := by decide +kernel
theorem dX13_wordOf_141 : decode cX13_wordOf 141 = .ok (.iconst 0, 1) := by decide +kernel
theorem dX13_wordOf_142 : decode cX13_wordOf 142 = .ok (.ireturn, 1) := by decide +kernel
def w_wordOf_0 (C : rCx) (Q : Int32 → rS → Prop)  (a0 : Int64) (σ : rS) : Prop :=
  cI C 1 m_shortWord [.long a0] σ (fun r2 σ1 =>
    (r2 ≤ 0 →
      cJ C 0 m_word [.int (108 : Int32), .int (111 : Int32), .int (99 : Int32), .int (97 : Int32), .int (108 : Int32), .int (0 : Int32), .int (0 : Int32)] σ1 (fun r4 σ3 =>
        (¬ ((lg_cmp a0 r4) = 0) →
          cJ C 0 m_word [.int (119 : Int32), .int (104 : Int32), .int (105 : Int32), .int (108 : Int32), .int (101 : Int32), .int (0 : Int32), .int (0 : Int32)] σ3 (fun r6 σ5 =>
            (¬ ((lg_cmp a0 r6) = 0) →
              cJ C 0 m_word [.int (114 : Int32), .int (101 : Int32), .int (116 : Int32), .int (117 : Int32), .int (114 : Int32), .int (110 : Int32), .int (0 : Int32)] σ5 (fun r8 σ7 =>
                (¬ ((lg_cmp a0 r8) = 0) →
                  cJ C 0 m_word [.int (111 : Int32), .int (98 : Int32), .int (115 : Int32), .int (101 : Int32), .int (114 : Int32), .int (118 : Int32), .int (101 : Int32)] σ7 (fun r10 σ9 =>
                    (¬ ((lg_cmp a0 r10) = 0) →
                      cJ C 0 m_word [.int (99 : Int32), .int (104 : Int32), .int (111 : Int32), .int (111 : Int32), .int (115 : Int32), .int (101 : Int32), .int (0 : Int32)] σ9 (fun r12 σ11 =>
                        (¬ ((lg_cmp a0 r12) = 0) →
                          Q (0 : Int32) σ11) ∧
                        ((lg_cmp a0 r12) = 0 →
                          Q (13 : Int32) σ11))) ∧
                    ((lg_cmp a0 r10) = 0 →
                      Q (9 : Int32) σ9))) ∧
                ((lg_cmp a0 r8) = 0 →
                  Q (8 : Int32) σ7))) ∧
            ((lg_cmp a0 r6) = 0 →
              Q (7 : Int32) σ5))) ∧
        ((lg_cmp a0 r4) = 0 →
          Q (4 : Int32) σ3))) ∧
    (¬ (r2 ≤ 0) →
      Q r2 σ1))
theorem t_wordOf_0 {C : rCx} (hC : cOK C) {Q : Int32 → rS → Prop}   {a0 : Int64} {σ : rS} (F : w_wordOf_0 C Q  a0 σ) : wG C 2 m_wordOf 0 [some (.long a0), none, none] [] σ (qI Q) := by
  unfold w_wordOf_0 at F
  refine s_lln dX13_wordOf_0 rfl ?_
  refine k_268 dX13_wordOf_1 rfl (Nat.le_of_ble_eq_true rfl) (Nat.le_of_ble_eq_true rfl) F (fun r2 σ1 F => ?_)
  refine s_isn dX13_wordOf_4 (Nat.le_of_ble_eq_true rfl) rfl ?_
  refine s_iln dX13_wordOf_5 rfl ?_
  refine s_i (t := 13) (r2 ≤ 0) dX13_wordOf_6 rfl rfl (fun hc => ?_) (fun hc => ?_)
  · replace F := F.1 hc
    refine s_lln dX13_wordOf_13 rfl ?_
    refine s_bi dX13_wordOf_14 kb_108 ?_
    refine s_bi dX13_wordOf_16 kb_111 ?_
    refine s_bi dX13_wordOf_18 kb_99 ?_
    refine s_bi dX13_wordOf_20 kb_97 ?_
    refine s_bi dX13_wordOf_22 kb_108 ?_
    refine s_ic dX13_wordOf_24 ki_0 ?_
    refine s_ic dX13_wordOf_25 ki_0 ?_
    refine k_264 dX13_wordOf_26 rfl (Nat.le_of_ble_eq_true rfl) (Nat.le_of_ble_eq_true rfl) F (fun r4 σ3 F => ?_)
    refine s_lcmp dX13_wordOf_29 ?_
    refine s_in (t := 37) ((lg_cmp a0 r4) = 0) dX13_wordOf_30 rfl rfl (fun hc => ?_) (fun hc => ?_)
    · replace F := F.1 hc
      refine s_lln dX13_wordOf_37 rfl ?_
      refine s_bi dX13_wordOf_38 kb_119 ?_
      refine s_bi dX13_wordOf_40 kb_104 ?_
      refine s_bi dX13_wordOf_42 kb_105 ?_
      refine s_bi dX13_wordOf_44 kb_108 ?_
      refine s_bi dX13_wordOf_46 kb_101 ?_
      refine s_ic dX13_wordOf_48 ki_0 ?_
      refine s_ic dX13_wordOf_49 ki_0 ?_
      refine k_264 dX13_wordOf_50 rfl (Nat.le_of_ble_eq_true rfl) (Nat.le_of_ble_eq_true rfl) F (fun r6 σ5 F => ?_)
      refine s_lcmp dX13_wordOf_53 ?_
      refine s_in (t := 62) ((lg_cmp a0 r6) = 0) dX13_wordOf_54 rfl rfl (fun hc => ?_) (fun hc => ?_)
      · replace F := F.1 hc
        refine s_lln dX13_wordOf_62 rfl ?_
        refine s_bi dX13_wordOf_63 kb_114 ?_
        refine s_bi dX13_wordOf_65 kb_101 ?_
        refine s_bi dX13_wordOf_67 kb_116 ?_
        refine s_bi dX13_wordOf_69 kb_117 ?_
        refine s_bi dX13_wordOf_71 kb_114 ?_
        refine s_bi dX13_wordOf_73 kb_110 ?_
        refine s_ic dX13_wordOf_75 ki_0 ?_
        refine k_264 dX13_wordOf_76 rfl (Nat.le_of_ble_eq_true rfl) (Nat.le_of_ble_eq_true rfl) F (fun r8 σ7 F => ?_)
        refine s_lcmp dX13_wordOf_79 ?_
        refine s_in (t := 88) ((lg_cmp a0 r8) = 0) dX13_wordOf_80 rfl rfl (fun hc => ?_) (fun hc => ?_)
        · replace F := F.1 hc
          refine s_lln dX13_wordOf_88 rfl ?_
          refine s_bi dX13_wordOf_89 kb_111 ?_
          refine s_bi dX13_wordOf_91 kb_98 ?_
          refine s_bi dX13_wordOf_93 kb_115 ?_
          refine s_bi dX13_wordOf_95 kb_101 ?_
          refine s_bi dX13_wordOf_97 kb_114 ?_
          refine s_bi dX13_wordOf_99 kb_118 ?_
          refine s_bi dX13_wordOf_101 kb_101 ?_
          refine k_264 dX13_wordOf_103 rfl (Nat.le_of_ble_eq_true rfl) (Nat.le_of_ble_eq_true rfl) F (fun r10 σ9 F => ?_)
          refine s_lcmp dX13_wordOf_106 ?_
          refine s_in (t := 115) ((lg_cmp a0 r10) = 0) dX13_wordOf_107 rfl rfl (fun hc => ?_) (fun hc => ?_)
          · replace F := F.1 hc
            refine s_lln dX13_wordOf_115 rfl ?_
            refine s_bi dX13_wordOf_116 kb_99 ?_
            refine s_bi dX13_wordOf_118 kb_104 ?_
            refine s_bi dX13_wordOf_120 kb_111 ?_
            refine s_bi dX13_wordOf_122 kb_111 ?_
            refine s_bi dX13_wordOf_124 kb_115 ?_
            refine s_bi dX13_wordOf_126 kb_101 ?_
            refine s_ic dX13_wordOf_128 ki_0 ?_
            refine k_264 dX13_wordOf_129 rfl (Nat.le_of_ble_eq_true rfl) (Nat.le_of_ble_eq_true rfl) F (fun r12 σ11 F => ?_)
            refine s_lcmp dX13_wordOf_132 ?_
            refine s_in (t := 141) ((lg_cmp a0 r12) = 0) dX13_wordOf_133 rfl rfl (fun hc => ?_) (fun hc => ?_)
            · replace F := F.1 hc
              refine s_ic dX13_wordOf_141 ki_0 ?_
              exact s_ri dX13_wordOf_142 rfl in_nar F
            · replace F := F.2 hc
              refine s_bi dX13_wordOf_136 kb_13 ?_
              refine s_goto (t := 142) dX13_wordOf_138 rfl ?_
              exact s_ri dX13_wordOf_142 rfl in_nar F
          · replace F := F.2 hc
            refine s_bi dX13_wordOf_110 kb_9 ?_
            refine s_goto (t := 142) dX13_wordOf_112 rfl ?_
            exact s_ri dX13_wordOf_142 rfl in_nar F
        · replace F := F.2 hc
          refine s_bi dX13_wordOf_83 kb_8 ?_
          refine s_goto (t := 142) dX13_wordOf_85 rfl ?_
          exact s_ri dX13_wordOf_142 rfl in_nar F
      · replace F := F.2 hc
        refine s_bi dX13_wordOf_57 kb_7 ?_
        refine s_goto (t := 142) dX13_wordOf_59 rfl ?_
        exact s_ri dX13_wordOf_142 rfl in_nar F
    · replace F := F.2 hc
      refine s_ic dX13_wordOf_33 ki_4 ?_
      refine s_goto (t := 142) dX13_wordOf_34 rfl ?_
      exact s_ri dX13_wordOf_142 rfl in_nar F
  · replace F := F.2 hc
    refine s_iln dX13_wordOf_9 rfl ?_
    refine s_goto (t := 142) dX13_wordOf_10 rfl ?_
    exact s_ri dX13_wordOf_142 rfl in_nar F

theorem m_wordOf_run {C : rCx} (hC : cOK C) {Q : Int32 → rS → Prop} {a0 : Int64} {σ : rS} (F : w_wordOf_0 C Q a0 σ) : cI C 2 m_wordOf [.long a0] σ Q := m_I (m_ent _ 1) (t_wordOf_0 hC F)

theorem dX13_isSign_0 : decode cX13_isSign 0 = .ok (.iload_n 0, 1) := by decide +kernel
theorem dX13_isSign_1 : decode cX13_isSign 1 = .ok (.bipush 40, 2) := by decide +kernel
theorem dX13_isSign_3 : decode cX13_isSign 3 = .ok (.if_icmp .eq 123, 3) := by decide +kernel
theorem dX13_isSign_6 : decode cX13_isSign 6 = .ok (.iload_n 0, 1) := by decide +kernel
theorem dX13_isSign_7 : decode cX13_isSign 7 = .ok (.bipush 41, 2) := by decide +kernel
theorem dX13_isSign_9 : decode cX13_isSign 9 = .ok (.if_icmp .eq 117, 3) := by decide +kernel
theorem dX13_isSign_12 : decode cX13_isSign 12 = .ok (.iload_n 0, 1) := by decide +kernel
theorem dX13_isSign_13 : decode cX13_isSign 13 = .ok (.bipush 123, 2) := by decide +kernel
theorem dX13_isSign_15 : decode cX13_isSign 15 = .ok (.if_icmp .eq 111, 3) := by decide +kernel
theorem dX13_isSign_18 : decode cX13_isSign 18 = .ok (.iload_n 0, 1) := by decide +kernel
theorem dX13_isSign_19 : decode cX13_isSign 19 = .ok (.bipush 125, 2) := by decide +kernel
theorem dX13_isSign_21 : decode cX13_isSign 21 = .ok (.if_icmp .eq 105, 3) := by decide +kernel
theorem dX13_isSign_24 : decode cX13_isSign 24 = .ok (.iload_n 0, 1) := by decide +kernel
theorem dX13_isSign_25 : decode cX13_isSign 25 = .ok (.bipush 91, 2) := by decide +kernel
theorem dX13_isSign_27 : decode cX13_isSign 27 = .ok (.if_icmp .eq 99, 3) := by decide +kernel
theorem dX13_isSign_30 : decode cX13_isSign 30 = .ok (.iload_n 0, 1) := by decide +kernel
theorem dX13_isSign_31 : decode cX13_isSign 31 = .ok (.bipush 93, 2) := by decide +kernel
theorem dX13_isSign_33 : decode cX13_isSign 33 = .ok (.if_icmp .eq 93, 3) := by decide +kernel
theorem dX13_isSign_36 : decode cX13_isSign 36 = .ok (.iload_n 0, 1) := by decide +kernel
theorem dX13_isSign_37 : decode cX13_isSign 37 = .ok (.bipush 59, 2) := by decide +kernel
theorem dX13_isSign_39 : decode cX13_isSign 39 = .ok (.if_icmp .eq 87, 3) := by decide +kernel
theorem dX13_isSign_42 : decode cX13_isSign 42 = .ok (.iload_n 0, 1) := by decide +kernel
theorem dX13_isSign_43 : decode cX13_isSign 43 = .ok (.bipush 44, 2) := by decide +kernel
theorem dX13_isSign_45 : decode cX13_isSign 45 = .ok (.if_icmp .eq 81, 3) := by decide +kernel
theorem dX13_isSign_48 : decode cX13_isSign 48 = .ok (.iload_n 0, 1) := by decide +kernel
theorem dX13_isSign_49 : decode cX13_isSign 49 = .ok (.bipush 58, 2) := by decide +kernel
theorem dX13_isSign_51 : decode cX13_isSign 51 = .ok (.if_icmp .eq 75, 3) := by decide +kernel
theorem dX13_isSign_54 : decode cX13_isSign 54 = .ok (.iload_n 0, 1) := by decide +kernel
theorem dX13_isSign_55 : decode cX13_isSign 55 = .ok (.bipush 126, 2) := by decide +kernel
theorem dX13_isSign_57 : decode cX13_isSign 57 = .ok (.if_icmp .eq 69, 3) := by decide +kernel
theorem dX13_isSign_60 : decode cX13_isSign 60 = .ok (.iload_n 0, 1) := by decide +kernel
theorem dX13_isSign_61 : decode cX13_isSign 61 = .ok (.bipush 61, 2) := by decide +kernel
theorem dX13_isSign_63 : decode cX13_isSign 63 = .ok (.if_icmp .eq 63, 3) := by decide +kernel
theorem dX13_isSign_66 : decode cX13_isSign 66 = .ok (.iload_n 0, 1) := by decide +kernel
theorem dX13_isSign_67 : decode cX13_isSign 67 = .ok (.bipush 60, 2) := by decide +kernel
theorem dX13_isSign_69 : decode cX13_isSign 69 = .ok (.if_icmp .eq 57, 3) := by decide +kernel
theorem dX13_isSign_72 : decode cX13_isSign 72 = .ok (.iload_n 0, 1) := by decide +kernel
theorem dX13_isSign_73 : decode cX13_isSign 73 = .ok (.bipush 62, 2) := by decide +kernel
theorem dX13_isSign_75 : decode cX13_isSign 75 = .ok (.if_icmp .eq 51, 3) := by decide +kernel
theorem dX13_isSign_78 : decode cX13_isSign 78 = .ok (.iload_n 0, 1) := by decide +kernel
theorem dX13_isSign_79 : decode cX13_isSign 79 = .ok (.bipush 43, 2) := by decide +kernel
theorem dX13_isSign_81 : decode cX13_isSign 81 = .ok (.if_icmp .eq 45, 3) := by decide +kernel
theorem dX13_isSign_84 : decode cX13_isSign 84 = .ok (.iload_n 0, 1) := by decide +kernel
theorem dX13_isSign_85 : decode cX13_isSign 85 = .ok (.bipush 45, 2) := by decide +kernel
theorem dX13_isSign_87 : decode cX13_isSign 87 = .ok (.if_icmp .eq 39, 3) := by decide +kernel
theorem dX13_isSign_90 : decode cX13_isSign 90 = .ok (.iload_n 0, 1) := by decide +kernel
theorem dX13_isSign_91 : decode cX13_isSign 91 = .ok (.bipush 42, 2) := by decide +kernel
theorem dX13_isSign_93 : decode cX13_isSign 93 = .ok (.if_icmp .eq 33, 3) := by decide +kernel
theorem dX13_isSign_96 : decode cX13_isSign 96 = .ok (.iload_n 0, 1) := by decide +kernel
theorem dX13_isSign_97 : decode cX13_isSign 97 = .ok (.bipush 47, 2) := by decide +kernel
theorem dX13_isSign_99 : decode cX13_isSign 99 = .ok (.if_icmp .eq 27, 3) := by decide +kernel
theorem dX13_isSign_102 : decode cX13_isSign 102 = .ok (.iload_n 0, 1) := by decide +kernel
theorem dX13_isSign_103 : decode cX13_isSign 103 = .ok (.bipush 37, 2) := by decide +kernel
theorem dX13_isSign_105 : decode cX13_isSign 105 = .ok (.if_icmp .eq 21, 3) := by decide +kernel
theorem dX13_isSign_108 : decode cX13_isSign 108 = .ok (.iload_n 0, 1) := by decide +kernel
theorem dX13_isSign_109 : decode cX13_isSign 109 = .ok (.bipush 38, 2) := by decide +kernel
theorem dX13_isSign_111 : decode cX13_isSign 111 = .ok (.if_icmp .eq 15, 3) := by decide +kernel
theorem dX13_isSign_114 : decode cX13_isSign 114 = .ok (.iload_n 0, 1) := by decide +kernel
theorem dX13_isSign_115 : decode cX13_isSign 115 = .ok (.bipush 124, 2) := by decide +kernel
theorem dX13_isSign_117 : decode cX13_isSign 117 = .ok (.if_icmp .eq 9, 3) := by decide +kernel
theorem dX13_isSign_120 : decode cX13_isSign 120 = .ok (.iload_n 0, 1) := by decide +kernel
theorem dX13_isSign_121 : decode cX13_isSign 121 = .ok (.bipush 33, 2) := by decide +kernel
theorem dX13_isSign_123 : decode cX13_isSign 123 = .ok (.if_icmp .ne 7, 3) := by decide +kernel
theorem dX13_isSign_126 : decode cX13_isSign 126 = .ok (.iconst 1, 1) := by decide +kernel
theorem dX13_isSign_127 : decode cX13_isSign 127 = .ok (.goto 4, 3) := by decide +kernel
theorem dX13_isSign_130 : decode cX13_isSign 130 = .ok (.iconst 0, 1) := by decide +kernel
theorem dX13_isSign_131 : decode cX13_isSign 131 = .ok (.ireturn, 1) := by decide +kernel
def w_isSign_0 (C : rCx) (Q : Int32 → rS → Prop)  (a0 : Int32) (σ : rS) : Prop :=
  (a0 = (40 : Int32) →
    Q (1 : Int32) σ) ∧
  (¬ (a0 = (40 : Int32)) →
    (a0 = (41 : Int32) →
      Q (1 : Int32) σ) ∧
    (¬ (a0 = (41 : Int32)) →
      (a0 = (123 : Int32) →
        Q (1 : Int32) σ) ∧
      (¬ (a0 = (123 : Int32)) →
        (a0 = (125 : Int32) →
          Q (1 : Int32) σ) ∧
        (¬ (a0 = (125 : Int32)) →
          (a0 = (91 : Int32) →
            Q (1 : Int32) σ) ∧
          (¬ (a0 = (91 : Int32)) →
            (a0 = (93 : Int32) →
              Q (1 : Int32) σ) ∧
            (¬ (a0 = (93 : Int32)) →
              (a0 = (59 : Int32) →
                Q (1 : Int32) σ) ∧
              (¬ (a0 = (59 : Int32)) →
                (a0 = (44 : Int32) →
                  Q (1 : Int32) σ) ∧
                (¬ (a0 = (44 : Int32)) →
                  (a0 = (58 : Int32) →
                    Q (1 : Int32) σ) ∧
                  (¬ (a0 = (58 : Int32)) →
                    (a0 = (126 : Int32) →
                      Q (1 : Int32) σ) ∧
                    (¬ (a0 = (126 : Int32)) →
                      (a0 = (61 : Int32) →
                        Q (1 : Int32) σ) ∧
                      (¬ (a0 = (61 : Int32)) →
                        (a0 = (60 : Int32) →
                          Q (1 : Int32) σ) ∧
                        (¬ (a0 = (60 : Int32)) →
                          (a0 = (62 : Int32) →
                            Q (1 : Int32) σ) ∧
                          (¬ (a0 = (62 : Int32)) →
                            (a0 = (43 : Int32) →
                              Q (1 : Int32) σ) ∧
                            (¬ (a0 = (43 : Int32)) →
                              (a0 = (45 : Int32) →
                                Q (1 : Int32) σ) ∧
                              (¬ (a0 = (45 : Int32)) →
                                (a0 = (42 : Int32) →
                                  Q (1 : Int32) σ) ∧
                                (¬ (a0 = (42 : Int32)) →
                                  (a0 = (47 : Int32) →
                                    Q (1 : Int32) σ) ∧
                                  (¬ (a0 = (47 : Int32)) →
                                    (a0 = (37 : Int32) →
                                      Q (1 : Int32) σ) ∧
                                    (¬ (a0 = (37 : Int32)) →
                                      (a0 = (38 : Int32) →
                                        Q (1 : Int32) σ) ∧
                                      (¬ (a0 = (38 : Int32)) →
                                        (a0 = (124 : Int32) →
                                          Q (1 : Int32) σ) ∧
                                        (¬ (a0 = (124 : Int32)) →
                                          (¬ (a0 = (33 : Int32)) →
                                            Q (0 : Int32) σ) ∧
                                          (a0 = (33 : Int32) →
                                            Q (1 : Int32) σ)))))))))))))))))))))
theorem t_isSign_0 {C : rCx} (hC : cOK C) {Q : Int32 → rS → Prop}   {a0 : Int32} {σ : rS} (F : w_isSign_0 C Q  a0 σ) : wG C 0 m_isSign 0 [some (.int a0)] [] σ (qI Q) := by
  unfold w_isSign_0 at F
  refine s_iln dX13_isSign_0 rfl ?_
  refine s_bi dX13_isSign_1 kb_40 ?_
  refine s_ii (t := 126) (a0 = (40 : Int32)) dX13_isSign_3 rfl rfl (fun hc => ?_) (fun hc => ?_)
  · replace F := F.1 hc
    refine s_ic dX13_isSign_126 ki_1 ?_
    refine s_goto (t := 131) dX13_isSign_127 rfl ?_
    exact s_ri dX13_isSign_131 rfl (nb_nar nb_1) F
  · replace F := F.2 hc
    refine s_iln dX13_isSign_6 rfl ?_
    refine s_bi dX13_isSign_7 kb_41 ?_
    refine s_ii (t := 126) (a0 = (41 : Int32)) dX13_isSign_9 rfl rfl (fun hc => ?_) (fun hc => ?_)
    · replace F := F.1 hc
      refine s_ic dX13_isSign_126 ki_1 ?_
      refine s_goto (t := 131) dX13_isSign_127 rfl ?_
      exact s_ri dX13_isSign_131 rfl (nb_nar nb_1) F
    · replace F := F.2 hc
      refine s_iln dX13_isSign_12 rfl ?_
      refine s_bi dX13_isSign_13 kb_123 ?_
      refine s_ii (t := 126) (a0 = (123 : Int32)) dX13_isSign_15 rfl rfl (fun hc => ?_) (fun hc => ?_)
      · replace F := F.1 hc
        refine s_ic dX13_isSign_126 ki_1 ?_
        refine s_goto (t := 131) dX13_isSign_127 rfl ?_
        exact s_ri dX13_isSign_131 rfl (nb_nar nb_1) F
      · replace F := F.2 hc
        refine s_iln dX13_isSign_18 rfl ?_
        refine s_bi dX13_isSign_19 kb_125 ?_
        refine s_ii (t := 126) (a0 = (125 : Int32)) dX13_isSign_21 rfl rfl (fun hc => ?_) (fun hc => ?_)
        · replace F := F.1 hc
          refine s_ic dX13_isSign_126 ki_1 ?_
          refine s_goto (t := 131) dX13_isSign_127 rfl ?_
          exact s_ri dX13_isSign_131 rfl (nb_nar nb_1) F
        · replace F := F.2 hc
          refine s_iln dX13_isSign_24 rfl ?_
          refine s_bi dX13_isSign_25 kb_91 ?_
          refine s_ii (t := 126) (a0 = (91 : Int32)) dX13_isSign_27 rfl rfl (fun hc => ?_) (fun hc => ?_)
          · replace F := F.1 hc
            refine s_ic dX13_isSign_126 ki_1 ?_
            refine s_goto (t := 131) dX13_isSign_127 rfl ?_
            exact s_ri dX13_isSign_131 rfl (nb_nar nb_1) F
          · replace F := F.2 hc
            refine s_iln dX13_isSign_30 rfl ?_
            refine s_bi dX13_isSign_31 kb_93 ?_
            refine s_ii (t := 126) (a0 = (93 : Int32)) dX13_isSign_33 rfl rfl (fun hc => ?_) (fun hc => ?_)
            · replace F := F.1 hc
              refine s_ic dX13_isSign_126 ki_1 ?_
              refine s_goto (t := 131) dX13_isSign_127 rfl ?_
              exact s_ri dX13_isSign_131 rfl (nb_nar nb_1) F
            · replace F := F.2 hc
              refine s_iln dX13_isSign_36 rfl ?_
              refine s_bi dX13_isSign_37 kb_59 ?_
              refine s_ii (t := 126) (a0 = (59 : Int32)) dX13_isSign_39 rfl rfl (fun hc => ?_) (fun hc => ?_)
              · replace F := F.1 hc
                refine s_ic dX13_isSign_126 ki_1 ?_
                refine s_goto (t := 131) dX13_isSign_127 rfl ?_
                exact s_ri dX13_isSign_131 rfl (nb_nar nb_1) F
              · replace F := F.2 hc
                refine s_iln dX13_isSign_42 rfl ?_
                refine s_bi dX13_isSign_43 kb_44 ?_
                refine s_ii (t := 126) (a0 = (44 : Int32)) dX13_isSign_45 rfl rfl (fun hc => ?_) (fun hc => ?_)
                · replace F := F.1 hc
                  refine s_ic dX13_isSign_126 ki_1 ?_
                  refine s_goto (t := 131) dX13_isSign_127 rfl ?_
                  exact s_ri dX13_isSign_131 rfl (nb_nar nb_1) F
                · replace F := F.2 hc
                  refine s_iln dX13_isSign_48 rfl ?_
                  refine s_bi dX13_isSign_49 kb_58 ?_
                  refine s_ii (t := 126) (a0 = (58 : Int32)) dX13_isSign_51 rfl rfl (fun hc => ?_) (fun hc => ?_)
                  · replace F := F.1 hc
                    refine s_ic dX13_isSign_126 ki_1 ?_
                    refine s_goto (t := 131) dX13_isSign_127 rfl ?_
                    exact s_ri dX13_isSign_131 rfl (nb_nar nb_1) F
                  · replace F := F.2 hc
                    refine s_iln dX13_isSign_54 rfl ?_
                    refine s_bi dX13_isSign_55 kb_126 ?_
                    refine s_ii (t := 126) (a0 = (126 : Int32)) dX13_isSign_57 rfl rfl (fun hc => ?_) (fun hc => ?_)
                    · replace F := F.1 hc
                      refine s_ic dX13_isSign_126 ki_1 ?_
                      refine s_goto (t := 131) dX13_isSign_127 rfl ?_
                      exact s_ri dX13_isSign_131 rfl (nb_nar nb_1) F
                    · replace F := F.2 hc
                      refine s_iln dX13_isSign_60 rfl ?_
                      refine s_bi dX13_isSign_61 kb_61 ?_
                      refine s_ii (t := 126) (a0 = (61 : Int32)) dX13_isSign_63 rfl rfl (fun hc => ?_) (fun hc => ?_)
                      · replace F := F.1 hc
                        refine s_ic dX13_isSign_126 ki_1 ?_
                        refine s_goto (t := 131) dX13_isSign_127 rfl ?_
                        exact s_ri dX13_isSign_131 rfl (nb_nar nb_1) F
                      · replace F := F.2 hc
                        refine s_iln dX13_isSign_66 rfl ?_
                        refine s_bi dX13_isSign_67 kb_60 ?_
                        refine s_ii (t := 126) (a0 = (60 : Int32)) dX13_isSign_69 rfl rfl (fun hc => ?_) (fun hc => ?_)
                        · replace F := F.1 hc
                          refine s_ic dX13_isSign_126 ki_1 ?_
                          refine s_goto (t := 131) dX13_isSign_127 rfl ?_
                          exact s_ri dX13_isSign_131 rfl (nb_nar nb_1) F
                        · replace F := F.2 hc
                          refine s_iln dX13_isSign_72 rfl ?_
                          refine s_bi dX13_isSign_73 kb_62 ?_
                          refine s_ii (t := 126) (a0 = (62 : Int32)) dX13_isSign_75 rfl rfl (fun hc => ?_) (fun hc => ?_)
                          · replace F := F.1 hc
                            refine s_ic dX13_isSign_126 ki_1 ?_
                            refine s_goto (t := 131) dX13_isSign_127 rfl ?_
                            exact s_ri dX13_isSign_131 rfl (nb_nar nb_1) F
                          · replace F := F.2 hc
                            refine s_iln dX13_isSign_78 rfl ?_
                            refine s_bi dX13_isSign_79 kb_43 ?_
                            refine s_ii (t := 126) (a0 = (43 : Int32)) dX13_isSign_81 rfl rfl (fun hc => ?_) (fun hc => ?_)
                            · replace F := F.1 hc
                              refine s_ic dX13_isSign_126 ki_1 ?_
                              refine s_goto (t := 131) dX13_isSign_127 rfl ?_
                              exact s_ri dX13_isSign_131 rfl (nb_nar nb_1) F
                            · replace F := F.2 hc
                              refine s_iln dX13_isSign_84 rfl ?_
                              refine s_bi dX13_isSign_85 kb_45 ?_
                              refine s_ii (t := 126) (a0 = (45 : Int32)) dX13_isSign_87 rfl rfl (fun hc => ?_) (fun hc => ?_)
                              · replace F := F.1 hc
                                refine s_ic dX13_isSign_126 ki_1 ?_
                                refine s_goto (t := 131) dX13_isSign_127 rfl ?_
                                exact s_ri dX13_isSign_131 rfl (nb_nar nb_1) F
                              · replace F := F.2 hc
                                refine s_iln dX13_isSign_90 rfl ?_
                                refine s_bi dX13_isSign_91 kb_42 ?_
                                refine s_ii (t := 126) (a0 = (42 : Int32)) dX13_isSign_93 rfl rfl (fun hc => ?_) (fun hc => ?_)
                                · replace F := F.1 hc
                                  refine s_ic dX13_isSign_126 ki_1 ?_
                                  refine s_goto (t := 131) dX13_isSign_127 rfl ?_
                                  exact s_ri dX13_isSign_131 rfl (nb_nar nb_1) F
                                · replace F := F.2 hc
                                  refine s_iln dX13_isSign_96 rfl ?_
                                  refine s_bi dX13_isSign_97 kb_47 ?_
                                  refine s_ii (t := 126) (a0 = (47 : Int32)) dX13_isSign_99 rfl rfl (fun hc => ?_) (fun hc => ?_)
                                  · replace F := F.1 hc
                                    refine s_ic dX13_isSign_126 ki_1 ?_
                                    refine s_goto (t := 131) dX13_isSign_127 rfl ?_
                                    exact s_ri dX13_isSign_131 rfl (nb_nar nb_1) F
                                  · replace F := F.2 hc
                                    refine s_iln dX13_isSign_102 rfl ?_
                                    refine s_bi dX13_isSign_103 kb_37 ?_
                                    refine s_ii (t := 126) (a0 = (37 : Int32)) dX13_isSign_105 rfl rfl (fun hc => ?_) (fun hc => ?_)
                                    · replace F := F.1 hc
                                      refine s_ic dX13_isSign_126 ki_1 ?_
                                      refine s_goto (t := 131) dX13_isSign_127 rfl ?_
                                      exact s_ri dX13_isSign_131 rfl (nb_nar nb_1) F
                                    · replace F := F.2 hc
                                      refine s_iln dX13_isSign_108 rfl ?_
                                      refine s_bi dX13_isSign_109 kb_38 ?_
                                      refine s_ii (t := 126) (a0 = (38 : Int32)) dX13_isSign_111 rfl rfl (fun hc => ?_) (fun hc => ?_)
                                      · replace F := F.1 hc
                                        refine s_ic dX13_isSign_126 ki_1 ?_
                                        refine s_goto (t := 131) dX13_isSign_127 rfl ?_
                                        exact s_ri dX13_isSign_131 rfl (nb_nar nb_1) F
                                      · replace F := F.2 hc
                                        refine s_iln dX13_isSign_114 rfl ?_
                                        refine s_bi dX13_isSign_115 kb_124 ?_
                                        refine s_ii (t := 126) (a0 = (124 : Int32)) dX13_isSign_117 rfl rfl (fun hc => ?_) (fun hc => ?_)
                                        · replace F := F.1 hc
                                          refine s_ic dX13_isSign_126 ki_1 ?_
                                          refine s_goto (t := 131) dX13_isSign_127 rfl ?_
                                          exact s_ri dX13_isSign_131 rfl (nb_nar nb_1) F
                                        · replace F := F.2 hc
                                          refine s_iln dX13_isSign_120 rfl ?_
                                          refine s_bi dX13_isSign_121 kb_33 ?_
                                          refine s_iin (t := 130) (a0 = (33 : Int32)) dX13_isSign_123 rfl rfl (fun hc => ?_) (fun hc => ?_)
                                          · replace F := F.1 hc
                                            refine s_ic dX13_isSign_130 ki_0 ?_
                                            exact s_ri dX13_isSign_131 rfl (nb_nar nb_0) F
                                          · replace F := F.2 hc
                                            refine s_ic dX13_isSign_126 ki_1 ?_
                                            refine s_goto (t := 131) dX13_isSign_127 rfl ?_
                                            exact s_ri dX13_isSign_131 rfl (nb_nar nb_1) F

theorem m_isSign_run {C : rCx} (hC : cOK C) {Q : Int32 → rS → Prop} {a0 : Int32} {σ : rS} (F : w_isSign_0 C Q a0 σ) : cI C 0 m_isSign [.int a0] σ Q := m_I (m_ent _ 0) (t_isSign_0 hC F)

