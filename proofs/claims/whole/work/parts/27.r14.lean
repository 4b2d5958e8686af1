/-! methods of the reference: isLong, keepVisits, loadVisits, weightOf, totalOf, takeTimes, sumInflow, keepSmall, layRing, foldRing -/
theorem dX13_isLong_0 : decode cX13_isLong 0 = .ok (.aload_n 0, 1) := by decide +kernel
theorem dX13_isLong_1 : decode cX13_isLong 1 = .ok (.getfield 188, 3) := by decide +kernel
theorem dX13_isLong_4 : decode cX13_isLong 4 = .ok (.iload_n 1, 1) := by decide +kernel
theorem dX13_isLong_5 : decode cX13_isLong 5 = .ok (.iaload, 1) := by decide +kernel
theorem dX13_isLong_6 : decode cX13_isLong 6 = .ok (.bipush 16, 2) := by decide +kernel
theorem dX13_isLong_8 : decode cX13_isLong 8 = .ok (.if_icmp .le 7, 3) := by decide +kernel
theorem dX13_isLong_11 : decode cX13_isLong 11 = .ok (.iconst 1, 1) := by decide +kernel
theorem dX13_isLong_12 : decode cX13_isLong 12 = .ok (.goto 4, 3) := by decide +kernel
theorem dX13_isLong_15 : decode cX13_isLong 15 = .ok (.iconst 0, 1) := by decide +kernel
theorem dX13_isLong_16 : decode cX13_isLong 16 = .ok (.ireturn, 1) := by decide +kernel
def w_isLong_0 (C : rCx) (Q : Int32 → rS → Prop)  (a1 : Int32) (σ : rS) : Prop :=
  inb a1 30 ∧
  ((σ.2.2.1 91 (a1).toNatClampNeg) ≤ (16 : Int32) →
    Q (0 : Int32) σ) ∧
  (¬ ((σ.2.2.1 91 (a1).toNatClampNeg) ≤ (16 : Int32)) →
    Q (1 : Int32) σ)
theorem t_isLong_0 {C : rCx} (hC : cOK C) {Q : Int32 → rS → Prop}   {a1 : Int32} {σ : rS} (F : w_isLong_0 C Q  a1 σ) : wG C 0 m_isLong 0 [some (.ref (co C)), some (.int a1)] [] σ (qI Q) := by
  unfold w_isLong_0 at F
  refine s_aln dX13_isLong_0 rfl ?_
  refine gf_188 dX13_isLong_1 rfl ?_
  refine s_iln dX13_isLong_4 rfl ?_
  refine s_ald hC dX13_isLong_5 rt_91 F.1 ?_
  replace F := F.2
  refine s_bi dX13_isLong_6 kb_16 ?_
  refine s_ii (t := 15) ((σ.2.2.1 91 (a1).toNatClampNeg) ≤ (16 : Int32)) dX13_isLong_8 rfl rfl (fun hc => ?_) (fun hc => ?_)
  · replace F := F.1 hc
    refine s_ic dX13_isLong_15 ki_0 ?_
    exact s_ri dX13_isLong_16 rfl (nb_nar nb_0) F
  · replace F := F.2 hc
    refine s_ic dX13_isLong_11 ki_1 ?_
    refine s_goto (t := 16) dX13_isLong_12 rfl ?_
    exact s_ri dX13_isLong_16 rfl (nb_nar nb_1) F

theorem m_isLong_run {C : rCx} (hC : cOK C) {Q : Int32 → rS → Prop} {a1 : Int32} {σ : rS} (F : w_isLong_0 C Q a1 σ) : cI C 0 m_isLong [.ref (co C), .int a1] σ Q := m_I (m_ent _ 0) (t_isLong_0 hC F)

theorem dX13_keepVisits_0 : decode cX13_keepVisits 0 = .ok (.bipush 34, 2) := by decide +kernel
theorem dX13_keepVisits_2 : decode cX13_keepVisits 2 = .ok (.iload_n 1, 1) := by decide +kernel
theorem dX13_keepVisits_3 : decode cX13_keepVisits 3 = .ok (.imul, 1) := by decide +kernel
theorem dX13_keepVisits_4 : decode cX13_keepVisits 4 = .ok (.istore_n 2, 1) := by decide +kernel
theorem dX13_keepVisits_5 : decode cX13_keepVisits 5 = .ok (.aload_n 0, 1) := by decide +kernel
theorem dX13_keepVisits_6 : decode cX13_keepVisits 6 = .ok (.getfield 214, 3) := by decide +kernel
theorem dX13_keepVisits_9 : decode cX13_keepVisits 9 = .ok (.iload_n 2, 1) := by decide +kernel
theorem dX13_keepVisits_10 : decode cX13_keepVisits 10 = .ok (.aload_n 0, 1) := by decide +kernel
theorem dX13_keepVisits_11 : decode cX13_keepVisits 11 = .ok (.getfield 188, 3) := by decide +kernel
theorem dX13_keepVisits_14 : decode cX13_keepVisits 14 = .ok (.iconst 4, 1) := by decide +kernel
theorem dX13_keepVisits_15 : decode cX13_keepVisits 15 = .ok (.iaload, 1) := by decide +kernel
theorem dX13_keepVisits_16 : decode cX13_keepVisits 16 = .ok (.iastore, 1) := by decide +kernel
theorem dX13_keepVisits_17 : decode cX13_keepVisits 17 = .ok (.aload_n 0, 1) := by decide +kernel
theorem dX13_keepVisits_18 : decode cX13_keepVisits 18 = .ok (.getfield 214, 3) := by decide +kernel
theorem dX13_keepVisits_21 : decode cX13_keepVisits 21 = .ok (.iload_n 2, 1) := by decide +kernel
theorem dX13_keepVisits_22 : decode cX13_keepVisits 22 = .ok (.bipush 17, 2) := by decide +kernel
theorem dX13_keepVisits_24 : decode cX13_keepVisits 24 = .ok (.iadd, 1) := by decide +kernel
theorem dX13_keepVisits_25 : decode cX13_keepVisits 25 = .ok (.aload_n 0, 1) := by decide +kernel
theorem dX13_keepVisits_26 : decode cX13_keepVisits 26 = .ok (.getfield 188, 3) := by decide +kernel
theorem dX13_keepVisits_29 : decode cX13_keepVisits 29 = .ok (.iconst 5, 1) := by decide +kernel
theorem dX13_keepVisits_30 : decode cX13_keepVisits 30 = .ok (.iaload, 1) := by decide +kernel
theorem dX13_keepVisits_31 : decode cX13_keepVisits 31 = .ok (.iastore, 1) := by decide +kernel
theorem dX13_keepVisits_32 : decode cX13_keepVisits 32 = .ok (.iconst 0, 1) := by decide +kernel
theorem dX13_keepVisits_33 : decode cX13_keepVisits 33 = .ok (.istore_n 3, 1) := by decide +kernel
theorem dX13_keepVisits_34 : decode cX13_keepVisits 34 = .ok (.iload_n 3, 1) := by decide +kernel
theorem dX13_keepVisits_35 : decode cX13_keepVisits 35 = .ok (.bipush 16, 2) := by decide +kernel
theorem dX13_keepVisits_37 : decode cX13_keepVisits 37 = .ok (.if_icmp .ge 78, 3) := by decide +kernel
theorem dX13_keepVisits_40 : decode cX13_keepVisits 40 = .ok (.aload_n 0, 1) := by decide +kernel
theorem dX13_keepVisits_41 : decode cX13_keepVisits 41 = .ok (.getfield 214, 3) := by decide +kernel
theorem dX13_keepVisits_44 : decode cX13_keepVisits 44 = .ok (.iload_n 2, 1) := by decide +kernel
theorem dX13_keepVisits_45 : decode cX13_keepVisits 45 = .ok (.iconst 1, 1) := by decide +kernel
theorem dX13_keepVisits_46 : decode cX13_keepVisits 46 = .ok (.iadd, 1) := by decide +kernel
theorem dX13_keepVisits_47 : decode cX13_keepVisits 47 = .ok (.iload_n 3, 1) := by decide +kernel
theorem dX13_keepVisits_48 : decode cX13_keepVisits 48 = .ok (.iadd, 1) := by decide +kernel
theorem dX13_keepVisits_49 : decode cX13_keepVisits 49 = .ok (.iload_n 3, 1) := by decide +kernel
theorem dX13_keepVisits_50 : decode cX13_keepVisits 50 = .ok (.aload_n 0, 1) := by decide +kernel
theorem dX13_keepVisits_51 : decode cX13_keepVisits 51 = .ok (.getfield 188, 3) := by decide +kernel
theorem dX13_keepVisits_54 : decode cX13_keepVisits 54 = .ok (.iconst 4, 1) := by decide +kernel
theorem dX13_keepVisits_55 : decode cX13_keepVisits 55 = .ok (.iaload, 1) := by decide +kernel
theorem dX13_keepVisits_56 : decode cX13_keepVisits 56 = .ok (.if_icmp .ge 16, 3) := by decide +kernel
theorem dX13_keepVisits_59 : decode cX13_keepVisits 59 = .ok (.aload_n 0, 1) := by decide +kernel
theorem dX13_keepVisits_60 : decode cX13_keepVisits 60 = .ok (.getfield 185, 3) := by decide +kernel
theorem dX13_keepVisits_63 : decode cX13_keepVisits 63 = .ok (.ldc_w 733, 3) := by decide +kernel
theorem dX13_keepVisits_66 : decode cX13_keepVisits 66 = .ok (.iload_n 3, 1) := by decide +kernel
theorem dX13_keepVisits_67 : decode cX13_keepVisits 67 = .ok (.iadd, 1) := by decide +kernel
theorem dX13_keepVisits_68 : decode cX13_keepVisits 68 = .ok (.iaload, 1) := by decide +kernel
theorem dX13_keepVisits_69 : decode cX13_keepVisits 69 = .ok (.goto 4, 3) := by decide +kernel
theorem dX13_keepVisits_72 : decode cX13_keepVisits 72 = .ok (.iconst 0, 1) := by decide +kernel
theorem dX13_keepVisits_73 : decode cX13_keepVisits 73 = .ok (.iastore, 1) := by decide +kernel
theorem dX13_keepVisits_74 : decode cX13_keepVisits 74 = .ok (.aload_n 0, 1) := by decide +kernel
theorem dX13_keepVisits_75 : decode cX13_keepVisits 75 = .ok (.getfield 214, 3) := by decide +kernel
theorem dX13_keepVisits_78 : decode cX13_keepVisits 78 = .ok (.iload_n 2, 1) := by decide +kernel
theorem dX13_keepVisits_79 : decode cX13_keepVisits 79 = .ok (.bipush 18, 2) := by decide +kernel
theorem dX13_keepVisits_81 : decode cX13_keepVisits 81 = .ok (.iadd, 1) := by decide +kernel
theorem dX13_keepVisits_82 : decode cX13_keepVisits 82 = .ok (.iload_n 3, 1) := by decide +kernel
theorem dX13_keepVisits_83 : decode cX13_keepVisits 83 = .ok (.iadd, 1) := by decide +kernel
theorem dX13_keepVisits_84 : decode cX13_keepVisits 84 = .ok (.iload_n 3, 1) := by decide +kernel
theorem dX13_keepVisits_85 : decode cX13_keepVisits 85 = .ok (.aload_n 0, 1) := by decide +kernel
theorem dX13_keepVisits_86 : decode cX13_keepVisits 86 = .ok (.getfield 188, 3) := by decide +kernel
theorem dX13_keepVisits_89 : decode cX13_keepVisits 89 = .ok (.iconst 5, 1) := by decide +kernel
theorem dX13_keepVisits_90 : decode cX13_keepVisits 90 = .ok (.iaload, 1) := by decide +kernel
theorem dX13_keepVisits_91 : decode cX13_keepVisits 91 = .ok (.if_icmp .ge 16, 3) := by decide +kernel
theorem dX13_keepVisits_94 : decode cX13_keepVisits 94 = .ok (.aload_n 0, 1) := by decide +kernel
theorem dX13_keepVisits_95 : decode cX13_keepVisits 95 = .ok (.getfield 185, 3) := by decide +kernel
theorem dX13_keepVisits_98 : decode cX13_keepVisits 98 = .ok (.ldc_w 734, 3) := by decide +kernel
theorem dX13_keepVisits_101 : decode cX13_keepVisits 101 = .ok (.iload_n 3, 1) := by decide +kernel
theorem dX13_keepVisits_102 : decode cX13_keepVisits 102 = .ok (.iadd, 1) := by decide +kernel
theorem dX13_keepVisits_103 : decode cX13_keepVisits 103 = .ok (.iaload, 1) := by decide +kernel
theorem dX13_keepVisits_104 : decode cX13_keepVisits 104 = .ok (.goto 4, 3) := by decide +kernel
theorem dX13_keepVisits_107 : decode cX13_keepVisits 107 = .ok (.iconst 0, 1) := by decide +kernel
theorem dX13_keepVisits_108 : decode cX13_keepVisits 108 = .ok (.iastore, 1) := by decide +kernel
theorem dX13_keepVisits_109 : decode cX13_keepVisits 109 = .ok (.iinc 3 1, 3) := by decide +kernel
theorem dX13_keepVisits_112 : decode cX13_keepVisits 112 = .ok (.goto (-78), 3) := by decide +kernel
theorem dX13_keepVisits_115 : decode cX13_keepVisits 115 = .ok (.return_, 1) := by decide +kernel
def w_keepVisits_108 (C : rCx) (Q : rS → Prop) (B34 : Int32 → Int32 → rS → Prop) (a2 : Int32) (a3 : Int32) (s1 : Int32) (s2 : Int32) (σ : rS) : Prop :=
  inb s1 34000 ∧
  ∀ σ1, σ1 = riU σ 102 (s1).toNatClampNeg s2 →
  ∀ v3_2 : Int32, v3_2 = a3 + (1 : Int32) →
  B34 a2 v3_2 σ1
theorem t_keepVisits_108 {C : rCx} (hC : cOK C) {Q : rS → Prop} {B34 : Int32 → Int32 → rS → Prop} (hB34 : ∀ a2' a3' τ, B34 a2' a3' τ → wG C 0 m_keepVisits 34 [some (.ref (co C)), none, some (.int a2'), some (.int a3')] [] τ (qV Q)) {a2 : Int32} {a3 : Int32} {s1 : Int32} {s2 : Int32} {σ : rS} (F : w_keepVisits_108 C Q B34 a2 a3 s1 s2 σ) : wG C 0 m_keepVisits 108 [some (.ref (co C)), none, some (.int a2), some (.int a3)] [.int s2, .int s1, .ref (cad C 102)] σ (qV Q) := by
  unfold w_keepVisits_108 at F
  refine s_astb hC dX13_keepVisits_108 rt_102 F.1 (fun σ1 eσ1 => ?_)
  replace F := F.2 σ1 eσ1
  refine s_incb dX13_keepVisits_109 ki_1 rfl (Nat.le_of_ble_eq_true rfl) (fun v3_2 ev3_2 => ?_)
  replace F := F v3_2 ev3_2
  show wG _ _ _ _ [some (.ref (co C)), none, some (.int a2), some (.int v3_2)] _ _ _
  refine s_goto (t := 34) dX13_keepVisits_112 rfl ?_
  exact s_k (hB34 _ _ _ F) ⟨rfl, rfl, rfl, trivial⟩

def w_keepVisits_73 (C : rCx) (Q : rS → Prop) (B34 : Int32 → Int32 → rS → Prop) (a2 : Int32) (a3 : Int32) (s1 : Int32) (s2 : Int32) (σ : rS) : Prop :=
  inb s1 34000 ∧
  ∀ σ1, σ1 = riU σ 102 (s1).toNatClampNeg s2 →
  inb (5 : Int32) 30 ∧
  ((σ1.2.2.1 91 ((5 : Int32)).toNatClampNeg) ≤ a3 →
    w_keepVisits_108 C Q B34 a2 a3 ((a2 + (18 : Int32)) + a3) (0 : Int32) σ1) ∧
  (¬ ((σ1.2.2.1 91 ((5 : Int32)).toNatClampNeg) ≤ a3) →
    inb ((200000 : Int32) + a3) 1200000 ∧
    w_keepVisits_108 C Q B34 a2 a3 ((a2 + (18 : Int32)) + a3) (σ1.2.2.1 90 (((200000 : Int32) + a3)).toNatClampNeg) σ1)
theorem t_keepVisits_73 {C : rCx} (hC : cOK C) {Q : rS → Prop} {B34 : Int32 → Int32 → rS → Prop} (hB34 : ∀ a2' a3' τ, B34 a2' a3' τ → wG C 0 m_keepVisits 34 [some (.ref (co C)), none, some (.int a2'), some (.int a3')] [] τ (qV Q)) {a2 : Int32} {a3 : Int32} {s1 : Int32} {s2 : Int32} {σ : rS} (F : w_keepVisits_73 C Q B34 a2 a3 s1 s2 σ) : wG C 0 m_keepVisits 73 [some (.ref (co C)), none, some (.int a2), some (.int a3)] [.int s2, .int s1, .ref (cad C 102)] σ (qV Q) := by
  unfold w_keepVisits_73 at F
  refine s_astb hC dX13_keepVisits_73 rt_102 F.1 (fun σ1 eσ1 => ?_)
  replace F := F.2 σ1 eσ1
  refine s_aln dX13_keepVisits_74 rfl ?_
  refine gf_214 dX13_keepVisits_75 rfl ?_
  refine s_iln dX13_keepVisits_78 rfl ?_
  refine s_bi dX13_keepVisits_79 kb_18 ?_
  refine s_iadd dX13_keepVisits_81 ?_
  refine s_iln dX13_keepVisits_82 rfl ?_
  refine s_iadd dX13_keepVisits_83 ?_
  refine s_iln dX13_keepVisits_84 rfl ?_
  refine s_aln dX13_keepVisits_85 rfl ?_
  refine gf_188 dX13_keepVisits_86 rfl ?_
  refine s_ic dX13_keepVisits_89 ki_5 ?_
  refine s_ald hC dX13_keepVisits_90 rt_91 F.1 ?_
  replace F := F.2
  refine s_ii (t := 107) ((σ1.2.2.1 91 ((5 : Int32)).toNatClampNeg) ≤ a3) dX13_keepVisits_91 rfl rfl (fun hc => ?_) (fun hc => ?_)
  · replace F := F.1 hc
    refine s_ic dX13_keepVisits_107 ki_0 ?_
    exact s_k (t_keepVisits_108 hC hB34 F) ⟨rfl, rfl, rfl, trivial⟩
  · replace F := F.2 hc
    refine s_aln dX13_keepVisits_94 rfl ?_
    refine gf_185 dX13_keepVisits_95 rfl ?_
    refine s_ldcw dX13_keepVisits_98 rfl cn_734 ?_
    refine s_iln dX13_keepVisits_101 rfl ?_
    refine s_iadd dX13_keepVisits_102 ?_
    refine s_ald hC dX13_keepVisits_103 rt_90 F.1 ?_
    replace F := F.2
    refine s_goto (t := 108) dX13_keepVisits_104 rfl ?_
    exact s_k (t_keepVisits_108 hC hB34 F) ⟨rfl, rfl, rfl, trivial⟩

def w_keepVisits_34 (C : rCx) (Q : rS → Prop)  (a2 : Int32) (a3 : Int32) (σ : rS) : Prop :=
  ∃ I : Nat → Int32 → Int32 → rS → Prop, (∃ n, I n a2 a3 σ) ∧ ∀ n a2 a3 σ, I n a2 a3 σ →
    ((16 : Int32) ≤ a3 →
      Q σ) ∧
    (¬ ((16 : Int32) ≤ a3) →
      inb (4 : Int32) 30 ∧
      ((σ.2.2.1 91 ((4 : Int32)).toNatClampNeg) ≤ a3 →
        w_keepVisits_73 C Q (fun a2' a3' τ => ∃ k < n, I k a2' a3' τ) a2 a3 ((a2 + (1 : Int32)) + a3) (0 : Int32) σ) ∧
      (¬ ((σ.2.2.1 91 ((4 : Int32)).toNatClampNeg) ≤ a3) →
        inb ((160000 : Int32) + a3) 1200000 ∧
        w_keepVisits_73 C Q (fun a2' a3' τ => ∃ k < n, I k a2' a3' τ) a2 a3 ((a2 + (1 : Int32)) + a3) (σ.2.2.1 90 (((160000 : Int32) + a3)).toNatClampNeg) σ))
theorem t_keepVisits_34 {C : rCx} (hC : cOK C) {Q : rS → Prop}   {a2 : Int32} {a3 : Int32} {σ : rS} (F : w_keepVisits_34 C Q  a2 a3 σ) : wG C 0 m_keepVisits 34 [some (.ref (co C)), none, some (.int a2), some (.int a3)] [] σ (qV Q) := by
  obtain ⟨I, ⟨n0, hI0⟩, F0⟩ := F
  have key : ∀ n a2 a3 σ, I n a2 a3 σ → wG C 0 m_keepVisits 34 [some (.ref (co C)), none, some (.int a2), some (.int a3)] [] σ (qV Q) := by
    intro n
    induction n using Nat.strongRecOn with
    | _ n ih =>
      intro a2 a3 σ hI
      have F := F0 n a2 a3 σ hI
      clear hI hI0
      refine s_iln dX13_keepVisits_34 rfl ?_
      refine s_bi dX13_keepVisits_35 kb_16 ?_
      refine s_ii (t := 115) ((16 : Int32) ≤ a3) dX13_keepVisits_37 rfl rfl (fun hc => ?_) (fun hc => ?_)
      · replace F := F.1 hc
        exact s_rv dX13_keepVisits_115 rfl F
      · replace F := F.2 hc
        refine s_aln dX13_keepVisits_40 rfl ?_
        refine gf_214 dX13_keepVisits_41 rfl ?_
        refine s_iln dX13_keepVisits_44 rfl ?_
        refine s_ic dX13_keepVisits_45 ki_1 ?_
        refine s_iadd dX13_keepVisits_46 ?_
        refine s_iln dX13_keepVisits_47 rfl ?_
        refine s_iadd dX13_keepVisits_48 ?_
        refine s_iln dX13_keepVisits_49 rfl ?_
        refine s_aln dX13_keepVisits_50 rfl ?_
        refine gf_188 dX13_keepVisits_51 rfl ?_
        refine s_ic dX13_keepVisits_54 ki_4 ?_
        refine s_ald hC dX13_keepVisits_55 rt_91 F.1 ?_
        replace F := F.2
        refine s_ii (t := 72) ((σ.2.2.1 91 ((4 : Int32)).toNatClampNeg) ≤ a3) dX13_keepVisits_56 rfl rfl (fun hc => ?_) (fun hc => ?_)
        · replace F := F.1 hc
          refine s_ic dX13_keepVisits_72 ki_0 ?_
          exact s_k (t_keepVisits_73 hC (fun a2' a3' τ hb => by obtain ⟨k, hk, hI⟩ := hb; exact ih k hk a2' a3' τ hI) F) ⟨rfl, rfl, rfl, trivial⟩
        · replace F := F.2 hc
          refine s_aln dX13_keepVisits_59 rfl ?_
          refine gf_185 dX13_keepVisits_60 rfl ?_
          refine s_ldcw dX13_keepVisits_63 rfl cn_733 ?_
          refine s_iln dX13_keepVisits_66 rfl ?_
          refine s_iadd dX13_keepVisits_67 ?_
          refine s_ald hC dX13_keepVisits_68 rt_90 F.1 ?_
          replace F := F.2
          refine s_goto (t := 73) dX13_keepVisits_69 rfl ?_
          exact s_k (t_keepVisits_73 hC (fun a2' a3' τ hb => by obtain ⟨k, hk, hI⟩ := hb; exact ih k hk a2' a3' τ hI) F) ⟨rfl, rfl, rfl, trivial⟩
  exact key n0 a2 a3 σ hI0

def w_keepVisits_0 (C : rCx) (Q : rS → Prop)  (a1 : Int32) (σ : rS) : Prop :=
  ∀ v2_1 : Int32, v2_1 = ((34 : Int32) * a1) →
  inb (4 : Int32) 30 ∧
  inb v2_1 34000 ∧
  ∀ σ2, σ2 = riU σ 102 (v2_1).toNatClampNeg (σ.2.2.1 91 ((4 : Int32)).toNatClampNeg) →
  inb (5 : Int32) 30 ∧
  inb (v2_1 + (17 : Int32)) 34000 ∧
  ∀ σ3, σ3 = riU σ2 102 ((v2_1 + (17 : Int32))).toNatClampNeg (σ2.2.2.1 91 ((5 : Int32)).toNatClampNeg) →
  w_keepVisits_34 C Q  v2_1 (0 : Int32) σ3
theorem t_keepVisits_0 {C : rCx} (hC : cOK C) {Q : rS → Prop}   {a1 : Int32} {σ : rS} (F : w_keepVisits_0 C Q  a1 σ) : wG C 0 m_keepVisits 0 [some (.ref (co C)), some (.int a1), none, none] [] σ (qV Q) := by
  unfold w_keepVisits_0 at F
  refine s_bi dX13_keepVisits_0 kb_34 ?_
  refine s_iln dX13_keepVisits_2 rfl ?_
  refine s_imul dX13_keepVisits_3 ?_
  refine s_isnb dX13_keepVisits_4 (Nat.le_of_ble_eq_true rfl) (fun v2_1 ev2_1 => ?_)
  replace F := F v2_1 ev2_1
  show wG _ _ _ _ [some (.ref (co C)), some (.int a1), some (.int v2_1), none] _ _ _
  refine s_aln dX13_keepVisits_5 rfl ?_
  refine gf_214 dX13_keepVisits_6 rfl ?_
  refine s_iln dX13_keepVisits_9 rfl ?_
  refine s_aln dX13_keepVisits_10 rfl ?_
  refine gf_188 dX13_keepVisits_11 rfl ?_
  refine s_ic dX13_keepVisits_14 ki_4 ?_
  refine s_ald hC dX13_keepVisits_15 rt_91 F.1 ?_
  replace F := F.2
  refine s_astb hC dX13_keepVisits_16 rt_102 F.1 (fun σ2 eσ2 => ?_)
  replace F := F.2 σ2 eσ2
  refine s_aln dX13_keepVisits_17 rfl ?_
  refine gf_214 dX13_keepVisits_18 rfl ?_
  refine s_iln dX13_keepVisits_21 rfl ?_
  refine s_bi dX13_keepVisits_22 kb_17 ?_
  refine s_iadd dX13_keepVisits_24 ?_
  refine s_aln dX13_keepVisits_25 rfl ?_
  refine gf_188 dX13_keepVisits_26 rfl ?_
  refine s_ic dX13_keepVisits_29 ki_5 ?_
  refine s_ald hC dX13_keepVisits_30 rt_91 F.1 ?_
  replace F := F.2
  refine s_astb hC dX13_keepVisits_31 rt_102 F.1 (fun σ3 eσ3 => ?_)
  replace F := F.2 σ3 eσ3
  refine s_ic dX13_keepVisits_32 ki_0 ?_
  refine s_isn dX13_keepVisits_33 (Nat.le_of_ble_eq_true rfl) rfl ?_
  show wG _ _ _ _ [some (.ref (co C)), some (.int a1), some (.int v2_1), some (.int (0 : Int32))] _ _ _
  exact s_k (t_keepVisits_34 hC  F) ⟨rfl, rfl, rfl, trivial⟩

theorem m_keepVisits_run {C : rCx} (hC : cOK C) {Q : rS → Prop} {a1 : Int32} {σ : rS} (F : w_keepVisits_0 C Q a1 σ) : cV C 0 m_keepVisits [.ref (co C), .int a1] σ Q := m_V (m_ent _ 2) (t_keepVisits_0 hC F)

theorem dX13_loadVisits_0 : decode cX13_loadVisits 0 = .ok (.bipush 34, 2) := by decide +kernel
theorem dX13_loadVisits_2 : decode cX13_loadVisits 2 = .ok (.iload_n 1, 1) := by decide +kernel
theorem dX13_loadVisits_3 : decode cX13_loadVisits 3 = .ok (.imul, 1) := by decide +kernel
theorem dX13_loadVisits_4 : decode cX13_loadVisits 4 = .ok (.istore_n 2, 1) := by decide +kernel
theorem dX13_loadVisits_5 : decode cX13_loadVisits 5 = .ok (.aload_n 0, 1) := by decide +kernel
theorem dX13_loadVisits_6 : decode cX13_loadVisits 6 = .ok (.getfield 188, 3) := by decide +kernel
theorem dX13_loadVisits_9 : decode cX13_loadVisits 9 = .ok (.bipush 6, 2) := by decide +kernel
theorem dX13_loadVisits_11 : decode cX13_loadVisits 11 = .ok (.aload_n 0, 1) := by decide +kernel
theorem dX13_loadVisits_12 : decode cX13_loadVisits 12 = .ok (.getfield 214, 3) := by decide +kernel
theorem dX13_loadVisits_15 : decode cX13_loadVisits 15 = .ok (.iload_n 2, 1) := by decide +kernel
theorem dX13_loadVisits_16 : decode cX13_loadVisits 16 = .ok (.iaload, 1) := by decide +kernel
theorem dX13_loadVisits_17 : decode cX13_loadVisits 17 = .ok (.iastore, 1) := by decide +kernel
theorem dX13_loadVisits_18 : decode cX13_loadVisits 18 = .ok (.aload_n 0, 1) := by decide +kernel
theorem dX13_loadVisits_19 : decode cX13_loadVisits 19 = .ok (.getfield 188, 3) := by decide +kernel
theorem dX13_loadVisits_22 : decode cX13_loadVisits 22 = .ok (.bipush 7, 2) := by decide +kernel
theorem dX13_loadVisits_24 : decode cX13_loadVisits 24 = .ok (.aload_n 0, 1) := by decide +kernel
theorem dX13_loadVisits_25 : decode cX13_loadVisits 25 = .ok (.getfield 214, 3) := by decide +kernel
theorem dX13_loadVisits_28 : decode cX13_loadVisits 28 = .ok (.iload_n 2, 1) := by decide +kernel
theorem dX13_loadVisits_29 : decode cX13_loadVisits 29 = .ok (.bipush 17, 2) := by decide +kernel
theorem dX13_loadVisits_31 : decode cX13_loadVisits 31 = .ok (.iadd, 1) := by decide +kernel
theorem dX13_loadVisits_32 : decode cX13_loadVisits 32 = .ok (.iaload, 1) := by decide +kernel
theorem dX13_loadVisits_33 : decode cX13_loadVisits 33 = .ok (.iastore, 1) := by decide +kernel
theorem dX13_loadVisits_34 : decode cX13_loadVisits 34 = .ok (.iconst 0, 1) := by decide +kernel
theorem dX13_loadVisits_35 : decode cX13_loadVisits 35 = .ok (.istore_n 3, 1) := by decide +kernel
theorem dX13_loadVisits_36 : decode cX13_loadVisits 36 = .ok (.iload_n 3, 1) := by decide +kernel
theorem dX13_loadVisits_37 : decode cX13_loadVisits 37 = .ok (.bipush 16, 2) := by decide +kernel
theorem dX13_loadVisits_39 : decode cX13_loadVisits 39 = .ok (.if_icmp .ge 50, 3) := by decide +kernel
theorem dX13_loadVisits_42 : decode cX13_loadVisits 42 = .ok (.aload_n 0, 1) := by decide +kernel
theorem dX13_loadVisits_43 : decode cX13_loadVisits 43 = .ok (.getfield 185, 3) := by decide +kernel
theorem dX13_loadVisits_46 : decode cX13_loadVisits 46 = .ok (.ldc_w 735, 3) := by decide +kernel
theorem dX13_loadVisits_49 : decode cX13_loadVisits 49 = .ok (.iload_n 3, 1) := by decide +kernel
theorem dX13_loadVisits_50 : decode cX13_loadVisits 50 = .ok (.iadd, 1) := by decide +kernel
theorem dX13_loadVisits_51 : decode cX13_loadVisits 51 = .ok (.aload_n 0, 1) := by decide +kernel
theorem dX13_loadVisits_52 : decode cX13_loadVisits 52 = .ok (.getfield 214, 3) := by decide +kernel
theorem dX13_loadVisits_55 : decode cX13_loadVisits 55 = .ok (.iload_n 2, 1) := by decide +kernel
theorem dX13_loadVisits_56 : decode cX13_loadVisits 56 = .ok (.iconst 1, 1) := by decide +kernel
theorem dX13_loadVisits_57 : decode cX13_loadVisits 57 = .ok (.iadd, 1) := by decide +kernel
theorem dX13_loadVisits_58 : decode cX13_loadVisits 58 = .ok (.iload_n 3, 1) := by decide +kernel
theorem dX13_loadVisits_59 : decode cX13_loadVisits 59 = .ok (.iadd, 1) := by decide +kernel
theorem dX13_loadVisits_60 : decode cX13_loadVisits 60 = .ok (.iaload, 1) := by decide +kernel
theorem dX13_loadVisits_61 : decode cX13_loadVisits 61 = .ok (.iastore, 1) := by decide +kernel
theorem dX13_loadVisits_62 : decode cX13_loadVisits 62 = .ok (.aload_n 0, 1) := by decide +kernel
theorem dX13_loadVisits_63 : decode cX13_loadVisits 63 = .ok (.getfield 185, 3) := by decide +kernel
theorem dX13_loadVisits_66 : decode cX13_loadVisits 66 = .ok (.ldc_w 736, 3) := by decide +kernel
theorem dX13_loadVisits_69 : decode cX13_loadVisits 69 = .ok (.iload_n 3, 1) := by decide +kernel
theorem dX13_loadVisits_70 : decode cX13_loadVisits 70 = .ok (.iadd, 1) := by decide +kernel
theorem dX13_loadVisits_71 : decode cX13_loadVisits 71 = .ok (.aload_n 0, 1) := by decide +kernel
theorem dX13_loadVisits_72 : decode cX13_loadVisits 72 = .ok (.getfield 214, 3) := by decide +kernel
theorem dX13_loadVisits_75 : decode cX13_loadVisits 75 = .ok (.iload_n 2, 1) := by decide +kernel
theorem dX13_loadVisits_76 : decode cX13_loadVisits 76 = .ok (.bipush 18, 2) := by decide +kernel
theorem dX13_loadVisits_78 : decode cX13_loadVisits 78 = .ok (.iadd, 1) := by decide +kernel
theorem dX13_loadVisits_79 : decode cX13_loadVisits 79 = .ok (.iload_n 3, 1) := by decide +kernel
theorem dX13_loadVisits_80 : decode cX13_loadVisits 80 = .ok (.iadd, 1) := by decide +kernel
theorem dX13_loadVisits_81 : decode cX13_loadVisits 81 = .ok (.iaload, 1) := by decide +kernel
theorem dX13_loadVisits_82 : decode cX13_loadVisits 82 = .ok (.iastore, 1) := by decide +kernel
theorem dX13_loadVisits_83 : decode cX13_loadVisits 83 = .ok (.iinc 3 1, 3) := by decide +kernel
theorem dX13_loadVisits_86 : decode cX13_loadVisits 86 = .ok (.goto (-50), 3) := by decide +kernel
theorem dX13_loadVisits_89 : decode cX13_loadVisits 89 = .ok (.return_, 1) := by decide +kernel
def w_loadVisits_36 (C : rCx) (Q : rS → Prop)  (a2 : Int32) (a3 : Int32) (σ : rS) : Prop :=
  ∃ I : Nat → Int32 → Int32 → rS → Prop, (∃ n, I n a2 a3 σ) ∧ ∀ n a2 a3 σ, I n a2 a3 σ →
    ((16 : Int32) ≤ a3 →
      Q σ) ∧
    (¬ ((16 : Int32) ≤ a3) →
      inb ((a2 + (1 : Int32)) + a3) 34000 ∧
      inb ((240000 : Int32) + a3) 1200000 ∧
      ∀ σ1, σ1 = riU σ 90 (((240000 : Int32) + a3)).toNatClampNeg (σ.2.2.1 102 (((a2 + (1 : Int32)) + a3)).toNatClampNeg) →
      inb ((a2 + (18 : Int32)) + a3) 34000 ∧
      inb ((280000 : Int32) + a3) 1200000 ∧
      ∀ σ2, σ2 = riU σ1 90 (((280000 : Int32) + a3)).toNatClampNeg (σ1.2.2.1 102 (((a2 + (18 : Int32)) + a3)).toNatClampNeg) →
      ∀ v3_3 : Int32, v3_3 = a3 + (1 : Int32) →
      ∃ k < n, I k a2 v3_3 σ2)
theorem t_loadVisits_36 {C : rCx} (hC : cOK C) {Q : rS → Prop}   {a2 : Int32} {a3 : Int32} {σ : rS} (F : w_loadVisits_36 C Q  a2 a3 σ) : wG C 0 m_loadVisits 36 [some (.ref (co C)), none, some (.int a2), some (.int a3)] [] σ (qV Q) := by
  obtain ⟨I, ⟨n0, hI0⟩, F0⟩ := F
  have key : ∀ n a2 a3 σ, I n a2 a3 σ → wG C 0 m_loadVisits 36 [some (.ref (co C)), none, some (.int a2), some (.int a3)] [] σ (qV Q) := by
    intro n
    induction n using Nat.strongRecOn with
    | _ n ih =>
      intro a2 a3 σ hI
      have F := F0 n a2 a3 σ hI
      clear hI hI0
      refine s_iln dX13_loadVisits_36 rfl ?_
      refine s_bi dX13_loadVisits_37 kb_16 ?_
      refine s_ii (t := 89) ((16 : Int32) ≤ a3) dX13_loadVisits_39 rfl rfl (fun hc => ?_) (fun hc => ?_)
      · replace F := F.1 hc
        exact s_rv dX13_loadVisits_89 rfl F
      · replace F := F.2 hc
        refine s_aln dX13_loadVisits_42 rfl ?_
        refine gf_185 dX13_loadVisits_43 rfl ?_
        refine s_ldcw dX13_loadVisits_46 rfl cn_735 ?_
        refine s_iln dX13_loadVisits_49 rfl ?_
        refine s_iadd dX13_loadVisits_50 ?_
        refine s_aln dX13_loadVisits_51 rfl ?_
        refine gf_214 dX13_loadVisits_52 rfl ?_
        refine s_iln dX13_loadVisits_55 rfl ?_
        refine s_ic dX13_loadVisits_56 ki_1 ?_
        refine s_iadd dX13_loadVisits_57 ?_
        refine s_iln dX13_loadVisits_58 rfl ?_
        refine s_iadd dX13_loadVisits_59 ?_
        refine s_ald hC dX13_loadVisits_60 rt_102 F.1 ?_
        replace F := F.2
        refine s_astb hC dX13_loadVisits_61 rt_90 F.1 (fun σ1 eσ1 => ?_)
        replace F := F.2 σ1 eσ1
        refine s_aln dX13_loadVisits_62 rfl ?_
        refine gf_185 dX13_loadVisits_63 rfl ?_
        refine s_ldcw dX13_loadVisits_66 rfl cn_736 ?_
        refine s_iln dX13_loadVisits_69 rfl ?_
        refine s_iadd dX13_loadVisits_70 ?_
        refine s_aln dX13_loadVisits_71 rfl ?_
        refine gf_214 dX13_loadVisits_72 rfl ?_
        refine s_iln dX13_loadVisits_75 rfl ?_
        refine s_bi dX13_loadVisits_76 kb_18 ?_
        refine s_iadd dX13_loadVisits_78 ?_
        refine s_iln dX13_loadVisits_79 rfl ?_
        refine s_iadd dX13_loadVisits_80 ?_
        refine s_ald hC dX13_loadVisits_81 rt_102 F.1 ?_
        replace F := F.2
        refine s_astb hC dX13_loadVisits_82 rt_90 F.1 (fun σ2 eσ2 => ?_)
        replace F := F.2 σ2 eσ2
        refine s_incb dX13_loadVisits_83 ki_1 rfl (Nat.le_of_ble_eq_true rfl) (fun v3_3 ev3_3 => ?_)
        replace F := F v3_3 ev3_3
        show wG _ _ _ _ [some (.ref (co C)), none, some (.int a2), some (.int v3_3)] _ _ _
        refine s_goto (t := 36) dX13_loadVisits_86 rfl ?_
        obtain ⟨k, hk, hI⟩ := F
        exact s_k (ih k hk _ _ _ hI) ⟨rfl, rfl, rfl, trivial⟩
  exact key n0 a2 a3 σ hI0

def w_loadVisits_0 (C : rCx) (Q : rS → Prop)  (a1 : Int32) (σ : rS) : Prop :=
  ∀ v2_1 : Int32, v2_1 = ((34 : Int32) * a1) →
  inb v2_1 34000 ∧
  inb (6 : Int32) 30 ∧
  ∀ σ2, σ2 = riU σ 91 ((6 : Int32)).toNatClampNeg (σ.2.2.1 102 (v2_1).toNatClampNeg) →
  inb (v2_1 + (17 : Int32)) 34000 ∧
  inb (7 : Int32) 30 ∧
  ∀ σ3, σ3 = riU σ2 91 ((7 : Int32)).toNatClampNeg (σ2.2.2.1 102 ((v2_1 + (17 : Int32))).toNatClampNeg) →
  w_loadVisits_36 C Q  v2_1 (0 : Int32) σ3
theorem t_loadVisits_0 {C : rCx} (hC : cOK C) {Q : rS → Prop}   {a1 : Int32} {σ : rS} (F : w_loadVisits_0 C Q  a1 σ) : wG C 0 m_loadVisits 0 [some (.ref (co C)), some (.int a1), none, none] [] σ (qV Q) := by
  unfold w_loadVisits_0 at F
  refine s_bi dX13_loadVisits_0 kb_34 ?_
  refine s_iln dX13_loadVisits_2 rfl ?_
  refine s_imul dX13_loadVisits_3 ?_
  refine s_isnb dX13_loadVisits_4 (Nat.le_of_ble_eq_true rfl) (fun v2_1 ev2_1 => ?_)
  replace F := F v2_1 ev2_1
  show wG _ _ _ _ [some (.ref (co C)), some (.int a1), some (.int v2_1), none] _ _ _
  refine s_aln dX13_loadVisits_5 rfl ?_
  refine gf_188 dX13_loadVisits_6 rfl ?_
  refine s_bi dX13_loadVisits_9 kb_6 ?_
  refine s_aln dX13_loadVisits_11 rfl ?_
  refine gf_214 dX13_loadVisits_12 rfl ?_
  refine s_iln dX13_loadVisits_15 rfl ?_
  refine s_ald hC dX13_loadVisits_16 rt_102 F.1 ?_
  replace F := F.2
  refine s_astb hC dX13_loadVisits_17 rt_91 F.1 (fun σ2 eσ2 => ?_)
  replace F := F.2 σ2 eσ2
  refine s_aln dX13_loadVisits_18 rfl ?_
  refine gf_188 dX13_loadVisits_19 rfl ?_
  refine s_bi dX13_loadVisits_22 kb_7 ?_
  refine s_aln dX13_loadVisits_24 rfl ?_
  refine gf_214 dX13_loadVisits_25 rfl ?_
  refine s_iln dX13_loadVisits_28 rfl ?_
  refine s_bi dX13_loadVisits_29 kb_17 ?_
  refine s_iadd dX13_loadVisits_31 ?_
  refine s_ald hC dX13_loadVisits_32 rt_102 F.1 ?_
  replace F := F.2
  refine s_astb hC dX13_loadVisits_33 rt_91 F.1 (fun σ3 eσ3 => ?_)
  replace F := F.2 σ3 eσ3
  refine s_ic dX13_loadVisits_34 ki_0 ?_
  refine s_isn dX13_loadVisits_35 (Nat.le_of_ble_eq_true rfl) rfl ?_
  show wG _ _ _ _ [some (.ref (co C)), some (.int a1), some (.int v2_1), some (.int (0 : Int32))] _ _ _
  exact s_k (t_loadVisits_36 hC  F) ⟨rfl, rfl, rfl, trivial⟩

theorem m_loadVisits_run {C : rCx} (hC : cOK C) {Q : rS → Prop} {a1 : Int32} {σ : rS} (F : w_loadVisits_0 C Q a1 σ) : cV C 0 m_loadVisits [.ref (co C), .int a1] σ Q := m_V (m_ent _ 2) (t_loadVisits_0 hC F)

theorem dX13_weightOf_0 : decode cX13_weightOf 0 = .ok (.aload_n 0, 1) := by decide +kernel
theorem dX13_weightOf_1 : decode cX13_weightOf 1 = .ok (.getfield 166, 3) := by decide +kernel
theorem dX13_weightOf_4 : decode cX13_weightOf 4 = .ok (.iload_n 1, 1) := by decide +kernel
theorem dX13_weightOf_5 : decode cX13_weightOf 5 = .ok (.baload, 1) := by decide +kernel
theorem dX13_weightOf_6 : decode cX13_weightOf 6 = .ok (.ifCond .eq 7, 3) := by decide +kernel
theorem dX13_weightOf_9 : decode cX13_weightOf 9 = .ok (.lconst 1, 1) := by decide +kernel
theorem dX13_weightOf_10 : decode cX13_weightOf 10 = .ok (.goto 10, 3) := by decide +kernel
theorem dX13_weightOf_13 : decode cX13_weightOf 13 = .ok (.aload_n 0, 1) := by decide +kernel
theorem dX13_weightOf_14 : decode cX13_weightOf 14 = .ok (.getfield 160, 3) := by decide +kernel
theorem dX13_weightOf_17 : decode cX13_weightOf 17 = .ok (.iload_n 2, 1) := by decide +kernel
theorem dX13_weightOf_18 : decode cX13_weightOf 18 = .ok (.iaload, 1) := by decide +kernel
theorem dX13_weightOf_19 : decode cX13_weightOf 19 = .ok (.i2l, 1) := by decide +kernel
theorem dX13_weightOf_20 : decode cX13_weightOf 20 = .ok (.lreturn, 1) := by decide +kernel
def w_weightOf_0 (C : rCx) (Q : Int64 → rS → Prop)  (a1 : Int32) (a2 : Int32) (σ : rS) : Prop :=
  inb a1 1000 ∧
  ((σ.2.2.1 81 (a1).toNatClampNeg) = 0 →
    inb a2 20000 ∧
    Q ((σ.2.2.1 79 (a2).toNatClampNeg)).toInt64 σ) ∧
  (¬ ((σ.2.2.1 81 (a1).toNatClampNeg) = 0) →
    Q (1 : Int64) σ)
theorem t_weightOf_0 {C : rCx} (hC : cOK C) {Q : Int64 → rS → Prop}   {a1 : Int32} {a2 : Int32} {σ : rS} (F : w_weightOf_0 C Q  a1 a2 σ) : wG C 0 m_weightOf 0 [some (.ref (co C)), some (.int a1), some (.int a2)] [] σ (qL Q) := by
  unfold w_weightOf_0 at F
  refine s_aln dX13_weightOf_0 rfl ?_
  refine gf_166 dX13_weightOf_1 rfl ?_
  refine s_iln dX13_weightOf_4 rfl ?_
  refine s_zld hC dX13_weightOf_5 rt_81 F.1 ?_
  replace F := F.2
  refine s_i (t := 13) ((σ.2.2.1 81 (a1).toNatClampNeg) = 0) dX13_weightOf_6 rfl rfl (fun hc => ?_) (fun hc => ?_)
  · replace F := F.1 hc
    refine s_aln dX13_weightOf_13 rfl ?_
    refine gf_160 dX13_weightOf_14 rfl ?_
    refine s_iln dX13_weightOf_17 rfl ?_
    refine s_ald hC dX13_weightOf_18 rt_79 F.1 ?_
    replace F := F.2
    refine s_i2l dX13_weightOf_19 ?_
    exact s_rl dX13_weightOf_20 rfl F
  · replace F := F.2 hc
    refine s_lc dX13_weightOf_9 kl_1 ?_
    refine s_goto (t := 20) dX13_weightOf_10 rfl ?_
    exact s_rl dX13_weightOf_20 rfl F

theorem m_weightOf_run {C : rCx} (hC : cOK C) {Q : Int64 → rS → Prop} {a1 : Int32} {a2 : Int32} {σ : rS} (F : w_weightOf_0 C Q a1 a2 σ) : cJ C 0 m_weightOf [.ref (co C), .int a1, .int a2] σ Q := m_J (m_ent _ 0) (t_weightOf_0 hC F)

theorem dX13_totalOf_0 : decode cX13_totalOf 0 = .ok (.aload_n 0, 1) := by decide +kernel
theorem dX13_totalOf_1 : decode cX13_totalOf 1 = .ok (.getfield 166, 3) := by decide +kernel
theorem dX13_totalOf_4 : decode cX13_totalOf 4 = .ok (.iload_n 1, 1) := by decide +kernel
theorem dX13_totalOf_5 : decode cX13_totalOf 5 = .ok (.baload, 1) := by decide +kernel
theorem dX13_totalOf_6 : decode cX13_totalOf 6 = .ok (.ifCond .eq 7, 3) := by decide +kernel
theorem dX13_totalOf_9 : decode cX13_totalOf 9 = .ok (.lconst 1, 1) := by decide +kernel
theorem dX13_totalOf_10 : decode cX13_totalOf 10 = .ok (.goto 10, 3) := by decide +kernel
theorem dX13_totalOf_13 : decode cX13_totalOf 13 = .ok (.aload_n 0, 1) := by decide +kernel
theorem dX13_totalOf_14 : decode cX13_totalOf 14 = .ok (.getfield 163, 3) := by decide +kernel
theorem dX13_totalOf_17 : decode cX13_totalOf 17 = .ok (.iload_n 1, 1) := by decide +kernel
theorem dX13_totalOf_18 : decode cX13_totalOf 18 = .ok (.iaload, 1) := by decide +kernel
theorem dX13_totalOf_19 : decode cX13_totalOf 19 = .ok (.i2l, 1) := by decide +kernel
theorem dX13_totalOf_20 : decode cX13_totalOf 20 = .ok (.lreturn, 1) := by decide +kernel
def w_totalOf_0 (C : rCx) (Q : Int64 → rS → Prop)  (a1 : Int32) (σ : rS) : Prop :=
  inb a1 1000 ∧
  ((σ.2.2.1 81 (a1).toNatClampNeg) = 0 →
    inb a1 1000 ∧
    Q ((σ.2.2.1 80 (a1).toNatClampNeg)).toInt64 σ) ∧
  (¬ ((σ.2.2.1 81 (a1).toNatClampNeg) = 0) →
    Q (1 : Int64) σ)
theorem t_totalOf_0 {C : rCx} (hC : cOK C) {Q : Int64 → rS → Prop}   {a1 : Int32} {σ : rS} (F : w_totalOf_0 C Q  a1 σ) : wG C 0 m_totalOf 0 [some (.ref (co C)), some (.int a1)] [] σ (qL Q) := by
  unfold w_totalOf_0 at F
  refine s_aln dX13_totalOf_0 rfl ?_
  refine gf_166 dX13_totalOf_1 rfl ?_
  refine s_iln dX13_totalOf_4 rfl ?_
  refine s_zld hC dX13_totalOf_5 rt_81 F.1 ?_
  replace F := F.2
  refine s_i (t := 13) ((σ.2.2.1 81 (a1).toNatClampNeg) = 0) dX13_totalOf_6 rfl rfl (fun hc => ?_) (fun hc => ?_)
  · replace F := F.1 hc
    refine s_aln dX13_totalOf_13 rfl ?_
    refine gf_163 dX13_totalOf_14 rfl ?_
    refine s_iln dX13_totalOf_17 rfl ?_
    refine s_ald hC dX13_totalOf_18 rt_80 F.1 ?_
    replace F := F.2
    refine s_i2l dX13_totalOf_19 ?_
    exact s_rl dX13_totalOf_20 rfl F
  · replace F := F.2 hc
    refine s_lc dX13_totalOf_9 kl_1 ?_
    refine s_goto (t := 20) dX13_totalOf_10 rfl ?_
    exact s_rl dX13_totalOf_20 rfl F

theorem m_totalOf_run {C : rCx} (hC : cOK C) {Q : Int64 → rS → Prop} {a1 : Int32} {σ : rS} (F : w_totalOf_0 C Q a1 σ) : cJ C 0 m_totalOf [.ref (co C), .int a1] σ Q := m_J (m_ent _ 0) (t_totalOf_0 hC F)

theorem dX13_takeTimes_0 : decode cX13_takeTimes 0 = .ok (.iload_n 1, 1) := by decide +kernel
theorem dX13_takeTimes_1 : decode cX13_takeTimes 1 = .ok (.iconst (-1), 1) := by decide +kernel
theorem dX13_takeTimes_2 : decode cX13_takeTimes 2 = .ok (.if_icmp .ne 4, 3) := by decide +kernel
theorem dX13_takeTimes_5 : decode cX13_takeTimes 5 = .ok (.return_, 1) := by decide +kernel
theorem dX13_takeTimes_6 : decode cX13_takeTimes 6 = .ok (.aload_n 0, 1) := by decide +kernel
theorem dX13_takeTimes_7 : decode cX13_takeTimes 7 = .ok (.iload_n 1, 1) := by decide +kernel
theorem dX13_takeTimes_8 : decode cX13_takeTimes 8 = .ok (.bipush 11, 2) := by decide +kernel
theorem dX13_takeTimes_10 : decode cX13_takeTimes 10 = .ok (.bipush 12, 2) := by decide +kernel
theorem dX13_takeTimes_12 : decode cX13_takeTimes 12 = .ok (.invokevirtual 724, 3) := by decide +kernel
theorem dX13_takeTimes_15 : decode cX13_takeTimes 15 = .ok (.aload_n 0, 1) := by decide +kernel
theorem dX13_takeTimes_16 : decode cX13_takeTimes 16 = .ok (.bipush 13, 2) := by decide +kernel
theorem dX13_takeTimes_18 : decode cX13_takeTimes 18 = .ok (.bipush 6, 2) := by decide +kernel
theorem dX13_takeTimes_20 : decode cX13_takeTimes 20 = .ok (.bipush 11, 2) := by decide +kernel
theorem dX13_takeTimes_22 : decode cX13_takeTimes 22 = .ok (.invokevirtual 712, 3) := by decide +kernel
theorem dX13_takeTimes_25 : decode cX13_takeTimes 25 = .ok (.aload_n 0, 1) := by decide +kernel
theorem dX13_takeTimes_26 : decode cX13_takeTimes 26 = .ok (.bipush 14, 2) := by decide +kernel
theorem dX13_takeTimes_28 : decode cX13_takeTimes 28 = .ok (.bipush 7, 2) := by decide +kernel
theorem dX13_takeTimes_30 : decode cX13_takeTimes 30 = .ok (.bipush 12, 2) := by decide +kernel
theorem dX13_takeTimes_32 : decode cX13_takeTimes 32 = .ok (.invokevirtual 712, 3) := by decide +kernel
theorem dX13_takeTimes_35 : decode cX13_takeTimes 35 = .ok (.aload_n 0, 1) := by decide +kernel
theorem dX13_takeTimes_36 : decode cX13_takeTimes 36 = .ok (.bipush 6, 2) := by decide +kernel
theorem dX13_takeTimes_38 : decode cX13_takeTimes 38 = .ok (.bipush 13, 2) := by decide +kernel
theorem dX13_takeTimes_40 : decode cX13_takeTimes 40 = .ok (.invokevirtual 703, 3) := by decide +kernel
theorem dX13_takeTimes_43 : decode cX13_takeTimes 43 = .ok (.aload_n 0, 1) := by decide +kernel
theorem dX13_takeTimes_44 : decode cX13_takeTimes 44 = .ok (.bipush 7, 2) := by decide +kernel
theorem dX13_takeTimes_46 : decode cX13_takeTimes 46 = .ok (.bipush 14, 2) := by decide +kernel
theorem dX13_takeTimes_48 : decode cX13_takeTimes 48 = .ok (.invokevirtual 703, 3) := by decide +kernel
theorem dX13_takeTimes_51 : decode cX13_takeTimes 51 = .ok (.aload_n 0, 1) := by decide +kernel
theorem dX13_takeTimes_52 : decode cX13_takeTimes 52 = .ok (.bipush 6, 2) := by decide +kernel
theorem dX13_takeTimes_54 : decode cX13_takeTimes 54 = .ok (.bipush 7, 2) := by decide +kernel
theorem dX13_takeTimes_56 : decode cX13_takeTimes 56 = .ok (.invokevirtual 721, 3) := by decide +kernel
theorem dX13_takeTimes_59 : decode cX13_takeTimes 59 = .ok (.return_, 1) := by decide +kernel
def w_takeTimes_0 (C : rCx) (Q : rS → Prop)  (a1 : Int32) (σ : rS) : Prop :=
  (¬ (a1 = (-1 : Int32)) →
    cV C 0 m_load [.ref (co C), .int a1, .int (11 : Int32), .int (12 : Int32)] σ (fun σ1 =>
      cV C 1 m_times [.ref (co C), .int (13 : Int32), .int (6 : Int32), .int (11 : Int32)] σ1 (fun σ3 =>
        cV C 1 m_times [.ref (co C), .int (14 : Int32), .int (7 : Int32), .int (12 : Int32)] σ3 (fun σ5 =>
          cV C 0 m_copy [.ref (co C), .int (6 : Int32), .int (13 : Int32)] σ5 (fun σ7 =>
            cV C 0 m_copy [.ref (co C), .int (7 : Int32), .int (14 : Int32)] σ7 (fun σ9 =>
              cV C 3 m_reduce [.ref (co C), .int (6 : Int32), .int (7 : Int32)] σ9 (fun σ11 =>
                Q σ11))))))) ∧
  (a1 = (-1 : Int32) →
    Q σ)
theorem t_takeTimes_0 {C : rCx} (hC : cOK C) {Q : rS → Prop}   {a1 : Int32} {σ : rS} (F : w_takeTimes_0 C Q  a1 σ) : wG C 4 m_takeTimes 0 [some (.ref (co C)), some (.int a1)] [] σ (qV Q) := by
  unfold w_takeTimes_0 at F
  refine s_iln dX13_takeTimes_0 rfl ?_
  refine s_ic dX13_takeTimes_1 ki_m1 ?_
  refine s_iin (t := 6) (a1 = (-1 : Int32)) dX13_takeTimes_2 rfl rfl (fun hc => ?_) (fun hc => ?_)
  · replace F := F.1 hc
    refine s_aln dX13_takeTimes_6 rfl ?_
    refine s_iln dX13_takeTimes_7 rfl ?_
    refine s_bi dX13_takeTimes_8 kb_11 ?_
    refine s_bi dX13_takeTimes_10 kb_12 ?_
    refine k_724 dX13_takeTimes_12 rfl (Nat.le_of_ble_eq_true rfl) (Nat.le_of_ble_eq_true rfl) F (fun σ1 F => ?_)
    refine s_aln dX13_takeTimes_15 rfl ?_
    refine s_bi dX13_takeTimes_16 kb_13 ?_
    refine s_bi dX13_takeTimes_18 kb_6 ?_
    refine s_bi dX13_takeTimes_20 kb_11 ?_
    refine k_712 dX13_takeTimes_22 rfl (Nat.le_of_ble_eq_true rfl) (Nat.le_of_ble_eq_true rfl) F (fun σ3 F => ?_)
    refine s_aln dX13_takeTimes_25 rfl ?_
    refine s_bi dX13_takeTimes_26 kb_14 ?_
    refine s_bi dX13_takeTimes_28 kb_7 ?_
    refine s_bi dX13_takeTimes_30 kb_12 ?_
    refine k_712 dX13_takeTimes_32 rfl (Nat.le_of_ble_eq_true rfl) (Nat.le_of_ble_eq_true rfl) F (fun σ5 F => ?_)
    refine s_aln dX13_takeTimes_35 rfl ?_
    refine s_bi dX13_takeTimes_36 kb_6 ?_
    refine s_bi dX13_takeTimes_38 kb_13 ?_
    refine k_703 dX13_takeTimes_40 rfl (Nat.le_of_ble_eq_true rfl) (Nat.le_of_ble_eq_true rfl) F (fun σ7 F => ?_)
    refine s_aln dX13_takeTimes_43 rfl ?_
    refine s_bi dX13_takeTimes_44 kb_7 ?_
    refine s_bi dX13_takeTimes_46 kb_14 ?_
    refine k_703 dX13_takeTimes_48 rfl (Nat.le_of_ble_eq_true rfl) (Nat.le_of_ble_eq_true rfl) F (fun σ9 F => ?_)
    refine s_aln dX13_takeTimes_51 rfl ?_
    refine s_bi dX13_takeTimes_52 kb_6 ?_
    refine s_bi dX13_takeTimes_54 kb_7 ?_
    refine k_721 dX13_takeTimes_56 rfl (Nat.le_of_ble_eq_true rfl) (Nat.le_of_ble_eq_true rfl) F (fun σ11 F => ?_)
    exact s_rv dX13_takeTimes_59 rfl F
  · replace F := F.2 hc
    exact s_rv dX13_takeTimes_5 rfl F

theorem m_takeTimes_run {C : rCx} (hC : cOK C) {Q : rS → Prop} {a1 : Int32} {σ : rS} (F : w_takeTimes_0 C Q a1 σ) : cV C 4 m_takeTimes [.ref (co C), .int a1] σ Q := m_V (m_ent _ 0) (t_takeTimes_0 hC F)

theorem dX13_sumInflow_0 : decode cX13_sumInflow 0 = .ok (.iconst 0, 1) := by decide +kernel
theorem dX13_sumInflow_1 : decode cX13_sumInflow 1 = .ok (.istore_n 3, 1) := by decide +kernel
theorem dX13_sumInflow_2 : decode cX13_sumInflow 2 = .ok (.iload_n 3, 1) := by decide +kernel
theorem dX13_sumInflow_3 : decode cX13_sumInflow 3 = .ok (.aload_n 0, 1) := by decide +kernel
theorem dX13_sumInflow_4 : decode cX13_sumInflow 4 = .ok (.getfield 542, 3) := by decide +kernel
theorem dX13_sumInflow_7 : decode cX13_sumInflow 7 = .ok (.if_icmp .ge 108, 3) := by decide +kernel
theorem dX13_sumInflow_10 : decode cX13_sumInflow 10 = .ok (.aload_n 0, 1) := by decide +kernel
theorem dX13_sumInflow_11 : decode cX13_sumInflow 11 = .ok (.getfield 151, 3) := by decide +kernel
theorem dX13_sumInflow_14 : decode cX13_sumInflow 14 = .ok (.iload_n 3, 1) := by decide +kernel
theorem dX13_sumInflow_15 : decode cX13_sumInflow 15 = .ok (.iaload, 1) := by decide +kernel
theorem dX13_sumInflow_16 : decode cX13_sumInflow 16 = .ok (.istore 4, 2) := by decide +kernel
theorem dX13_sumInflow_18 : decode cX13_sumInflow 18 = .ok (.aload_n 0, 1) := by decide +kernel
theorem dX13_sumInflow_19 : decode cX13_sumInflow 19 = .ok (.getfield 198, 3) := by decide +kernel
theorem dX13_sumInflow_22 : decode cX13_sumInflow 22 = .ok (.iload_n 3, 1) := by decide +kernel
theorem dX13_sumInflow_23 : decode cX13_sumInflow 23 = .ok (.baload, 1) := by decide +kernel
theorem dX13_sumInflow_24 : decode cX13_sumInflow 24 = .ok (.ifCond .eq 85, 3) := by decide +kernel
theorem dX13_sumInflow_27 : decode cX13_sumInflow 27 = .ok (.iload 4, 2) := by decide +kernel
theorem dX13_sumInflow_29 : decode cX13_sumInflow 29 = .ok (.aload_n 0, 1) := by decide +kernel
theorem dX13_sumInflow_30 : decode cX13_sumInflow 30 = .ok (.getfield 151, 3) := by decide +kernel
theorem dX13_sumInflow_33 : decode cX13_sumInflow 33 = .ok (.iload_n 3, 1) := by decide +kernel
theorem dX13_sumInflow_34 : decode cX13_sumInflow 34 = .ok (.iconst 1, 1) := by decide +kernel
theorem dX13_sumInflow_35 : decode cX13_sumInflow 35 = .ok (.iadd, 1) := by decide +kernel
theorem dX13_sumInflow_36 : decode cX13_sumInflow 36 = .ok (.iaload, 1) := by decide +kernel
theorem dX13_sumInflow_37 : decode cX13_sumInflow 37 = .ok (.if_icmp .ge 72, 3) := by decide +kernel
theorem dX13_sumInflow_40 : decode cX13_sumInflow 40 = .ok (.aload_n 0, 1) := by decide +kernel
theorem dX13_sumInflow_41 : decode cX13_sumInflow 41 = .ok (.getfield 154, 3) := by decide +kernel
theorem dX13_sumInflow_44 : decode cX13_sumInflow 44 = .ok (.iload 4, 2) := by decide +kernel
theorem dX13_sumInflow_46 : decode cX13_sumInflow 46 = .ok (.iaload, 1) := by decide +kernel
theorem dX13_sumInflow_47 : decode cX13_sumInflow 47 = .ok (.ifCond .ne 56, 3) := by decide +kernel
theorem dX13_sumInflow_50 : decode cX13_sumInflow 50 = .ok (.aload_n 0, 1) := by decide +kernel
theorem dX13_sumInflow_51 : decode cX13_sumInflow 51 = .ok (.getfield 157, 3) := by decide +kernel
theorem dX13_sumInflow_54 : decode cX13_sumInflow 54 = .ok (.iload 4, 2) := by decide +kernel
theorem dX13_sumInflow_56 : decode cX13_sumInflow 56 = .ok (.iaload, 1) := by decide +kernel
theorem dX13_sumInflow_57 : decode cX13_sumInflow 57 = .ok (.iload_n 1, 1) := by decide +kernel
theorem dX13_sumInflow_58 : decode cX13_sumInflow 58 = .ok (.if_icmp .ne 45, 3) := by decide +kernel
theorem dX13_sumInflow_61 : decode cX13_sumInflow 61 = .ok (.aload_n 0, 1) := by decide +kernel
theorem dX13_sumInflow_62 : decode cX13_sumInflow 62 = .ok (.iload_n 3, 1) := by decide +kernel
theorem dX13_sumInflow_63 : decode cX13_sumInflow 63 = .ok (.iload 4, 2) := by decide +kernel
theorem dX13_sumInflow_65 : decode cX13_sumInflow 65 = .ok (.iconst 1, 1) := by decide +kernel
theorem dX13_sumInflow_66 : decode cX13_sumInflow 66 = .ok (.invokevirtual 640, 3) := by decide +kernel
theorem dX13_sumInflow_69 : decode cX13_sumInflow 69 = .ok (.ifCond .eq 34, 3) := by decide +kernel
theorem dX13_sumInflow_72 : decode cX13_sumInflow 72 = .ok (.aload_n 0, 1) := by decide +kernel
theorem dX13_sumInflow_73 : decode cX13_sumInflow 73 = .ok (.iload_n 3, 1) := by decide +kernel
theorem dX13_sumInflow_74 : decode cX13_sumInflow 74 = .ok (.invokevirtual 737, 3) := by decide +kernel
theorem dX13_sumInflow_77 : decode cX13_sumInflow 77 = .ok (.aload_n 0, 1) := by decide +kernel
theorem dX13_sumInflow_78 : decode cX13_sumInflow 78 = .ok (.aload_n 0, 1) := by decide +kernel
theorem dX13_sumInflow_79 : decode cX13_sumInflow 79 = .ok (.iload_n 3, 1) := by decide +kernel
theorem dX13_sumInflow_80 : decode cX13_sumInflow 80 = .ok (.iload 4, 2) := by decide +kernel
theorem dX13_sumInflow_82 : decode cX13_sumInflow 82 = .ok (.invokevirtual 740, 3) := by decide +kernel
theorem dX13_sumInflow_85 : decode cX13_sumInflow 85 = .ok (.aload_n 0, 1) := by decide +kernel
theorem dX13_sumInflow_86 : decode cX13_sumInflow 86 = .ok (.iload_n 3, 1) := by decide +kernel
theorem dX13_sumInflow_87 : decode cX13_sumInflow 87 = .ok (.invokevirtual 744, 3) := by decide +kernel
theorem dX13_sumInflow_90 : decode cX13_sumInflow 90 = .ok (.invokevirtual 748, 3) := by decide +kernel
theorem dX13_sumInflow_93 : decode cX13_sumInflow 93 = .ok (.aload_n 0, 1) := by decide +kernel
theorem dX13_sumInflow_94 : decode cX13_sumInflow 94 = .ok (.iload_n 2, 1) := by decide +kernel
theorem dX13_sumInflow_95 : decode cX13_sumInflow 95 = .ok (.invokevirtual 752, 3) := by decide +kernel
theorem dX13_sumInflow_98 : decode cX13_sumInflow 98 = .ok (.aload_n 0, 1) := by decide +kernel
theorem dX13_sumInflow_99 : decode cX13_sumInflow 99 = .ok (.iconst 1, 1) := by decide +kernel
theorem dX13_sumInflow_100 : decode cX13_sumInflow 100 = .ok (.invokevirtual 727, 3) := by decide +kernel
theorem dX13_sumInflow_103 : decode cX13_sumInflow 103 = .ok (.iinc 4 1, 3) := by decide +kernel
theorem dX13_sumInflow_106 : decode cX13_sumInflow 106 = .ok (.goto (-88), 3) := by decide +kernel
theorem dX13_sumInflow_109 : decode cX13_sumInflow 109 = .ok (.iinc 3 1, 3) := by decide +kernel
theorem dX13_sumInflow_112 : decode cX13_sumInflow 112 = .ok (.goto (-110), 3) := by decide +kernel
theorem dX13_sumInflow_115 : decode cX13_sumInflow 115 = .ok (.iload_n 1, 1) := by decide +kernel
theorem dX13_sumInflow_116 : decode cX13_sumInflow 116 = .ok (.ifCond .ne 27, 3) := by decide +kernel
theorem dX13_sumInflow_119 : decode cX13_sumInflow 119 = .ok (.aload_n 0, 1) := by decide +kernel
theorem dX13_sumInflow_120 : decode cX13_sumInflow 120 = .ok (.bipush 6, 2) := by decide +kernel
theorem dX13_sumInflow_122 : decode cX13_sumInflow 122 = .ok (.lconst 1, 1) := by decide +kernel
theorem dX13_sumInflow_123 : decode cX13_sumInflow 123 = .ok (.invokevirtual 699, 3) := by decide +kernel
theorem dX13_sumInflow_126 : decode cX13_sumInflow 126 = .ok (.aload_n 0, 1) := by decide +kernel
theorem dX13_sumInflow_127 : decode cX13_sumInflow 127 = .ok (.bipush 7, 2) := by decide +kernel
theorem dX13_sumInflow_129 : decode cX13_sumInflow 129 = .ok (.lconst 1, 1) := by decide +kernel
theorem dX13_sumInflow_130 : decode cX13_sumInflow 130 = .ok (.invokevirtual 699, 3) := by decide +kernel
theorem dX13_sumInflow_133 : decode cX13_sumInflow 133 = .ok (.aload_n 0, 1) := by decide +kernel
theorem dX13_sumInflow_134 : decode cX13_sumInflow 134 = .ok (.iload_n 2, 1) := by decide +kernel
theorem dX13_sumInflow_135 : decode cX13_sumInflow 135 = .ok (.invokevirtual 752, 3) := by decide +kernel
theorem dX13_sumInflow_138 : decode cX13_sumInflow 138 = .ok (.aload_n 0, 1) := by decide +kernel
theorem dX13_sumInflow_139 : decode cX13_sumInflow 139 = .ok (.iconst 1, 1) := by decide +kernel
theorem dX13_sumInflow_140 : decode cX13_sumInflow 140 = .ok (.invokevirtual 727, 3) := by decide +kernel
theorem dX13_sumInflow_143 : decode cX13_sumInflow 143 = .ok (.return_, 1) := by decide +kernel
def w_sumInflow_18 (C : rCx) (Q : rS → Prop) (B2 : Int32 → Int32 → Int32 → rS → Prop) (a1 : Int32) (a2 : Int32) (a3 : Int32) (a4 : Int32) (σ : rS) : Prop :=
  ∃ I : Nat → Int32 → Int32 → Int32 → Int32 → rS → Prop, (∃ n, I n a1 a2 a3 a4 σ) ∧ ∀ n a1 a2 a3 a4 σ, I n a1 a2 a3 a4 σ →
    inb a3 1000 ∧
    ((σ.2.2.1 96 (a3).toNatClampNeg) = 0 →
      ∀ v3_1 : Int32, v3_1 = a3 + (1 : Int32) →
      B2 a1 a2 v3_1 σ) ∧
    (¬ ((σ.2.2.1 96 (a3).toNatClampNeg) = 0) →
      inb (a3 + (1 : Int32)) 1001 ∧
      ((σ.2.2.1 76 ((a3 + (1 : Int32))).toNatClampNeg) ≤ a4 →
        ∀ v3_2 : Int32, v3_2 = a3 + (1 : Int32) →
        B2 a1 a2 v3_2 σ) ∧
      (¬ ((σ.2.2.1 76 ((a3 + (1 : Int32))).toNatClampNeg) ≤ a4) →
        inb a4 20000 ∧
        (¬ ((σ.2.2.1 77 (a4).toNatClampNeg) = 0) →
          ∀ v4_3 : Int32, v4_3 = a4 + (1 : Int32) →
          ∃ k < n, I k a1 a2 a3 v4_3 σ) ∧
        ((σ.2.2.1 77 (a4).toNatClampNeg) = 0 →
          inb a4 20000 ∧
          (¬ ((σ.2.2.1 78 (a4).toNatClampNeg) = a1) →
            ∀ v4_4 : Int32, v4_4 = a4 + (1 : Int32) →
            ∃ k < n, I k a1 a2 a3 v4_4 σ) ∧
          ((σ.2.2.1 78 (a4).toNatClampNeg) = a1 →
            cI C 0 m_isTaken [.ref (co C), .int a3, .int a4, .int (1 : Int32)] σ (fun r6 σ5 =>
              (r6 = 0 →
                ∀ v4_7 : Int32, v4_7 = a4 + (1 : Int32) →
                ∃ k < n, I k a1 a2 a3 v4_7 σ5) ∧
              (¬ (r6 = 0) →
                cV C 0 m_loadVisits [.ref (co C), .int a3] σ5 (fun σ8 =>
                  cJ C 0 m_weightOf [.ref (co C), .int a3, .int a4] σ8 (fun r11 σ10 =>
                    cJ C 0 m_totalOf [.ref (co C), .int a3] σ10 (fun r13 σ12 =>
                      cV C 4 m_scale [.ref (co C), .long r11, .long r13] σ12 (fun σ14 =>
                        cV C 4 m_takeTimes [.ref (co C), .int a2] σ14 (fun σ16 =>
                          cV C 4 m_add [.ref (co C), .int (1 : Int32)] σ16 (fun σ18 =>
                            ∀ v4_20 : Int32, v4_20 = a4 + (1 : Int32) →
                            ∃ k < n, I k a1 a2 a3 v4_20 σ18))))))))))))
theorem t_sumInflow_18 {C : rCx} (hC : cOK C) {Q : rS → Prop} {B2 : Int32 → Int32 → Int32 → rS → Prop} (hB2 : ∀ a1' a2' a3' τ, B2 a1' a2' a3' τ → wG C 5 m_sumInflow 2 [some (.ref (co C)), some (.int a1'), some (.int a2'), some (.int a3'), none] [] τ (qV Q)) {a1 : Int32} {a2 : Int32} {a3 : Int32} {a4 : Int32} {σ : rS} (F : w_sumInflow_18 C Q B2 a1 a2 a3 a4 σ) : wG C 5 m_sumInflow 18 [some (.ref (co C)), some (.int a1), some (.int a2), some (.int a3), some (.int a4)] [] σ (qV Q) := by
  obtain ⟨I, ⟨n0, hI0⟩, F0⟩ := F
  have key : ∀ n a1 a2 a3 a4 σ, I n a1 a2 a3 a4 σ → wG C 5 m_sumInflow 18 [some (.ref (co C)), some (.int a1), some (.int a2), some (.int a3), some (.int a4)] [] σ (qV Q) := by
    intro n
    induction n using Nat.strongRecOn with
    | _ n ih =>
      intro a1 a2 a3 a4 σ hI
      have F := F0 n a1 a2 a3 a4 σ hI
      clear hI hI0
      refine s_aln dX13_sumInflow_18 rfl ?_
      refine gf_198 dX13_sumInflow_19 rfl ?_
      refine s_iln dX13_sumInflow_22 rfl ?_
      refine s_zld hC dX13_sumInflow_23 rt_96 F.1 ?_
      replace F := F.2
      refine s_i (t := 109) ((σ.2.2.1 96 (a3).toNatClampNeg) = 0) dX13_sumInflow_24 rfl rfl (fun hc => ?_) (fun hc => ?_)
      · replace F := F.1 hc
        refine s_incb dX13_sumInflow_109 ki_1 rfl (Nat.le_of_ble_eq_true rfl) (fun v3_1 ev3_1 => ?_)
        replace F := F v3_1 ev3_1
        show wG _ _ _ _ [some (.ref (co C)), some (.int a1), some (.int a2), some (.int v3_1), some (.int a4)] _ _ _
        refine s_goto (t := 2) dX13_sumInflow_112 rfl ?_
        exact s_k (hB2 _ _ _ _ F) ⟨rfl, rfl, rfl, rfl, trivial⟩
      · replace F := F.2 hc
        refine s_il dX13_sumInflow_27 rfl ?_
        refine s_aln dX13_sumInflow_29 rfl ?_
        refine gf_151 dX13_sumInflow_30 rfl ?_
        refine s_iln dX13_sumInflow_33 rfl ?_
        refine s_ic dX13_sumInflow_34 ki_1 ?_
        refine s_iadd dX13_sumInflow_35 ?_
        refine s_ald hC dX13_sumInflow_36 rt_76 F.1 ?_
        replace F := F.2
        refine s_ii (t := 109) ((σ.2.2.1 76 ((a3 + (1 : Int32))).toNatClampNeg) ≤ a4) dX13_sumInflow_37 rfl rfl (fun hc => ?_) (fun hc => ?_)
        · replace F := F.1 hc
          refine s_incb dX13_sumInflow_109 ki_1 rfl (Nat.le_of_ble_eq_true rfl) (fun v3_2 ev3_2 => ?_)
          replace F := F v3_2 ev3_2
          show wG _ _ _ _ [some (.ref (co C)), some (.int a1), some (.int a2), some (.int v3_2), some (.int a4)] _ _ _
          refine s_goto (t := 2) dX13_sumInflow_112 rfl ?_
          exact s_k (hB2 _ _ _ _ F) ⟨rfl, rfl, rfl, rfl, trivial⟩
        · replace F := F.2 hc
          refine s_aln dX13_sumInflow_40 rfl ?_
          refine gf_154 dX13_sumInflow_41 rfl ?_
          refine s_il dX13_sumInflow_44 rfl ?_
          refine s_ald hC dX13_sumInflow_46 rt_77 F.1 ?_
          replace F := F.2
          refine s_in (t := 103) ((σ.2.2.1 77 (a4).toNatClampNeg) = 0) dX13_sumInflow_47 rfl rfl (fun hc => ?_) (fun hc => ?_)
          · replace F := F.1 hc
            refine s_incb dX13_sumInflow_103 ki_1 rfl (Nat.le_of_ble_eq_true rfl) (fun v4_3 ev4_3 => ?_)
            replace F := F v4_3 ev4_3
            show wG _ _ _ _ [some (.ref (co C)), some (.int a1), some (.int a2), some (.int a3), some (.int v4_3)] _ _ _
            refine s_goto (t := 18) dX13_sumInflow_106 rfl ?_
            obtain ⟨k, hk, hI⟩ := F
            exact s_k (ih k hk _ _ _ _ _ hI) ⟨rfl, rfl, rfl, rfl, rfl, trivial⟩
          · replace F := F.2 hc
            refine s_aln dX13_sumInflow_50 rfl ?_
            refine gf_157 dX13_sumInflow_51 rfl ?_
            refine s_il dX13_sumInflow_54 rfl ?_
            refine s_ald hC dX13_sumInflow_56 rt_78 F.1 ?_
            replace F := F.2
            refine s_iln dX13_sumInflow_57 rfl ?_
            refine s_iin (t := 103) ((σ.2.2.1 78 (a4).toNatClampNeg) = a1) dX13_sumInflow_58 rfl rfl (fun hc => ?_) (fun hc => ?_)
            · replace F := F.1 hc
              refine s_incb dX13_sumInflow_103 ki_1 rfl (Nat.le_of_ble_eq_true rfl) (fun v4_4 ev4_4 => ?_)
              replace F := F v4_4 ev4_4
              show wG _ _ _ _ [some (.ref (co C)), some (.int a1), some (.int a2), some (.int a3), some (.int v4_4)] _ _ _
              refine s_goto (t := 18) dX13_sumInflow_106 rfl ?_
              obtain ⟨k, hk, hI⟩ := F
              exact s_k (ih k hk _ _ _ _ _ hI) ⟨rfl, rfl, rfl, rfl, rfl, trivial⟩
            · replace F := F.2 hc
              refine s_aln dX13_sumInflow_61 rfl ?_
              refine s_iln dX13_sumInflow_62 rfl ?_
              refine s_il dX13_sumInflow_63 rfl ?_
              refine s_ic dX13_sumInflow_65 ki_1 ?_
              refine k_640 dX13_sumInflow_66 rfl (Nat.le_of_ble_eq_true rfl) (Nat.le_of_ble_eq_true rfl) F (fun r6 σ5 F => ?_)
              refine s_i (t := 103) (r6 = 0) dX13_sumInflow_69 rfl rfl (fun hc => ?_) (fun hc => ?_)
              · replace F := F.1 hc
                refine s_incb dX13_sumInflow_103 ki_1 rfl (Nat.le_of_ble_eq_true rfl) (fun v4_7 ev4_7 => ?_)
                replace F := F v4_7 ev4_7
                show wG _ _ _ _ [some (.ref (co C)), some (.int a1), some (.int a2), some (.int a3), some (.int v4_7)] _ _ _
                refine s_goto (t := 18) dX13_sumInflow_106 rfl ?_
                obtain ⟨k, hk, hI⟩ := F
                exact s_k (ih k hk _ _ _ _ _ hI) ⟨rfl, rfl, rfl, rfl, rfl, trivial⟩
              · replace F := F.2 hc
                refine s_aln dX13_sumInflow_72 rfl ?_
                refine s_iln dX13_sumInflow_73 rfl ?_
                refine k_737 dX13_sumInflow_74 rfl (Nat.le_of_ble_eq_true rfl) (Nat.le_of_ble_eq_true rfl) F (fun σ8 F => ?_)
                refine s_aln dX13_sumInflow_77 rfl ?_
                refine s_aln dX13_sumInflow_78 rfl ?_
                refine s_iln dX13_sumInflow_79 rfl ?_
                refine s_il dX13_sumInflow_80 rfl ?_
                refine k_740 dX13_sumInflow_82 rfl (Nat.le_of_ble_eq_true rfl) (Nat.le_of_ble_eq_true rfl) F (fun r11 σ10 F => ?_)
                refine s_aln dX13_sumInflow_85 rfl ?_
                refine s_iln dX13_sumInflow_86 rfl ?_
                refine k_744 dX13_sumInflow_87 rfl (Nat.le_of_ble_eq_true rfl) (Nat.le_of_ble_eq_true rfl) F (fun r13 σ12 F => ?_)
                refine k_748 dX13_sumInflow_90 rfl (Nat.le_of_ble_eq_true rfl) (Nat.le_of_ble_eq_true rfl) F (fun σ14 F => ?_)
                refine s_aln dX13_sumInflow_93 rfl ?_
                refine s_iln dX13_sumInflow_94 rfl ?_
                refine k_752 dX13_sumInflow_95 rfl (Nat.le_of_ble_eq_true rfl) (Nat.le_of_ble_eq_true rfl) F (fun σ16 F => ?_)
                refine s_aln dX13_sumInflow_98 rfl ?_
                refine s_ic dX13_sumInflow_99 ki_1 ?_
                refine k_727 dX13_sumInflow_100 rfl (Nat.le_of_ble_eq_true rfl) (Nat.le_of_ble_eq_true rfl) F (fun σ18 F => ?_)
                refine s_incb dX13_sumInflow_103 ki_1 rfl (Nat.le_of_ble_eq_true rfl) (fun v4_20 ev4_20 => ?_)
                replace F := F v4_20 ev4_20
                show wG _ _ _ _ [some (.ref (co C)), some (.int a1), some (.int a2), some (.int a3), some (.int v4_20)] _ _ _
                refine s_goto (t := 18) dX13_sumInflow_106 rfl ?_
                obtain ⟨k, hk, hI⟩ := F
                exact s_k (ih k hk _ _ _ _ _ hI) ⟨rfl, rfl, rfl, rfl, rfl, trivial⟩
  exact key n0 a1 a2 a3 a4 σ hI0

def w_sumInflow_2 (C : rCx) (Q : rS → Prop)  (a1 : Int32) (a2 : Int32) (a3 : Int32) (σ : rS) : Prop :=
  ∃ I : Nat → Int32 → Int32 → Int32 → rS → Prop, (∃ n, I n a1 a2 a3 σ) ∧ ∀ n a1 a2 a3 σ, I n a1 a2 a3 σ →
    ((σ.1 70) ≤ a3 →
      (¬ (a1 = 0) →
        Q σ) ∧
      (a1 = 0 →
        cV C 0 m_set [.ref (co C), .int (6 : Int32), .long (1 : Int64)] σ (fun σ1 =>
          cV C 0 m_set [.ref (co C), .int (7 : Int32), .long (1 : Int64)] σ1 (fun σ3 =>
            cV C 4 m_takeTimes [.ref (co C), .int a2] σ3 (fun σ5 =>
              cV C 4 m_add [.ref (co C), .int (1 : Int32)] σ5 (fun σ7 =>
                Q σ7)))))) ∧
    (¬ ((σ.1 70) ≤ a3) →
      inb a3 1001 ∧
      ∀ v4_9 : Int32, v4_9 = (σ.2.2.1 76 (a3).toNatClampNeg) →
      w_sumInflow_18 C Q (fun a1' a2' a3' τ => ∃ k < n, I k a1' a2' a3' τ) a1 a2 a3 v4_9 σ)
theorem t_sumInflow_2 {C : rCx} (hC : cOK C) {Q : rS → Prop}   {a1 : Int32} {a2 : Int32} {a3 : Int32} {σ : rS} (F : w_sumInflow_2 C Q  a1 a2 a3 σ) : wG C 5 m_sumInflow 2 [some (.ref (co C)), some (.int a1), some (.int a2), some (.int a3), none] [] σ (qV Q) := by
  obtain ⟨I, ⟨n0, hI0⟩, F0⟩ := F
  have key : ∀ n a1 a2 a3 σ, I n a1 a2 a3 σ → wG C 5 m_sumInflow 2 [some (.ref (co C)), some (.int a1), some (.int a2), some (.int a3), none] [] σ (qV Q) := by
    intro n
    induction n using Nat.strongRecOn with
    | _ n ih =>
      intro a1 a2 a3 σ hI
      have F := F0 n a1 a2 a3 σ hI
      clear hI hI0
      refine s_iln dX13_sumInflow_2 rfl ?_
      refine s_aln dX13_sumInflow_3 rfl ?_
      refine gf_542 dX13_sumInflow_4 rfl ?_
      refine s_ii (t := 115) ((σ.1 70) ≤ a3) dX13_sumInflow_7 rfl rfl (fun hc => ?_) (fun hc => ?_)
      · replace F := F.1 hc
        refine s_iln dX13_sumInflow_115 rfl ?_
        refine s_in (t := 143) (a1 = 0) dX13_sumInflow_116 rfl rfl (fun hc => ?_) (fun hc => ?_)
        · replace F := F.1 hc
          exact s_rv dX13_sumInflow_143 rfl F
        · replace F := F.2 hc
          refine s_aln dX13_sumInflow_119 rfl ?_
          refine s_bi dX13_sumInflow_120 kb_6 ?_
          refine s_lc dX13_sumInflow_122 kl_1 ?_
          refine k_699 dX13_sumInflow_123 rfl (Nat.le_of_ble_eq_true rfl) (Nat.le_of_ble_eq_true rfl) F (fun σ1 F => ?_)
          refine s_aln dX13_sumInflow_126 rfl ?_
          refine s_bi dX13_sumInflow_127 kb_7 ?_
          refine s_lc dX13_sumInflow_129 kl_1 ?_
          refine k_699 dX13_sumInflow_130 rfl (Nat.le_of_ble_eq_true rfl) (Nat.le_of_ble_eq_true rfl) F (fun σ3 F => ?_)
          refine s_aln dX13_sumInflow_133 rfl ?_
          refine s_iln dX13_sumInflow_134 rfl ?_
          refine k_752 dX13_sumInflow_135 rfl (Nat.le_of_ble_eq_true rfl) (Nat.le_of_ble_eq_true rfl) F (fun σ5 F => ?_)
          refine s_aln dX13_sumInflow_138 rfl ?_
          refine s_ic dX13_sumInflow_139 ki_1 ?_
          refine k_727 dX13_sumInflow_140 rfl (Nat.le_of_ble_eq_true rfl) (Nat.le_of_ble_eq_true rfl) F (fun σ7 F => ?_)
          exact s_rv dX13_sumInflow_143 rfl F
      · replace F := F.2 hc
        refine s_aln dX13_sumInflow_10 rfl ?_
        refine gf_151 dX13_sumInflow_11 rfl ?_
        refine s_iln dX13_sumInflow_14 rfl ?_
        refine s_ald hC dX13_sumInflow_15 rt_76 F.1 ?_
        replace F := F.2
        refine s_isb dX13_sumInflow_16 (Nat.le_of_ble_eq_true rfl) (fun v4_9 ev4_9 => ?_)
        replace F := F v4_9 ev4_9
        show wG _ _ _ _ [some (.ref (co C)), some (.int a1), some (.int a2), some (.int a3), some (.int v4_9)] _ _ _
        exact s_k (t_sumInflow_18 hC (fun a1' a2' a3' τ hb => by obtain ⟨k, hk, hI⟩ := hb; exact ih k hk a1' a2' a3' τ hI) F) ⟨rfl, rfl, rfl, rfl, rfl, trivial⟩
  exact key n0 a1 a2 a3 σ hI0

def w_sumInflow_0 (C : rCx) (Q : rS → Prop)  (a1 : Int32) (a2 : Int32) (σ : rS) : Prop :=
  w_sumInflow_2 C Q  a1 a2 (0 : Int32) σ
theorem t_sumInflow_0 {C : rCx} (hC : cOK C) {Q : rS → Prop}   {a1 : Int32} {a2 : Int32} {σ : rS} (F : w_sumInflow_0 C Q  a1 a2 σ) : wG C 5 m_sumInflow 0 [some (.ref (co C)), some (.int a1), some (.int a2), none, none] [] σ (qV Q) := by
  unfold w_sumInflow_0 at F
  refine s_ic dX13_sumInflow_0 ki_0 ?_
  refine s_isn dX13_sumInflow_1 (Nat.le_of_ble_eq_true rfl) rfl ?_
  show wG _ _ _ _ [some (.ref (co C)), some (.int a1), some (.int a2), some (.int (0 : Int32)), none] _ _ _
  exact s_k (t_sumInflow_2 hC  F) ⟨rfl, rfl, rfl, rfl, trivial⟩

theorem m_sumInflow_run {C : rCx} (hC : cOK C) {Q : rS → Prop} {a1 : Int32} {a2 : Int32} {σ : rS} (F : w_sumInflow_0 C Q a1 a2 σ) : cV C 5 m_sumInflow [.ref (co C), .int a1, .int a2] σ Q := m_V (m_ent _ 2) (t_sumInflow_0 hC F)

theorem dX13_keepSmall_0 : decode cX13_keepSmall 0 = .ok (.aload_n 0, 1) := by decide +kernel
theorem dX13_keepSmall_1 : decode cX13_keepSmall 1 = .ok (.bipush 6, 2) := by decide +kernel
theorem dX13_keepSmall_3 : decode cX13_keepSmall 3 = .ok (.lload_n 2, 1) := by decide +kernel
theorem dX13_keepSmall_4 : decode cX13_keepSmall 4 = .ok (.invokevirtual 699, 3) := by decide +kernel
theorem dX13_keepSmall_7 : decode cX13_keepSmall 7 = .ok (.aload_n 0, 1) := by decide +kernel
theorem dX13_keepSmall_8 : decode cX13_keepSmall 8 = .ok (.bipush 7, 2) := by decide +kernel
theorem dX13_keepSmall_10 : decode cX13_keepSmall 10 = .ok (.lload 4, 2) := by decide +kernel
theorem dX13_keepSmall_12 : decode cX13_keepSmall 12 = .ok (.invokevirtual 699, 3) := by decide +kernel
theorem dX13_keepSmall_15 : decode cX13_keepSmall 15 = .ok (.aload_n 0, 1) := by decide +kernel
theorem dX13_keepSmall_16 : decode cX13_keepSmall 16 = .ok (.bipush 6, 2) := by decide +kernel
theorem dX13_keepSmall_18 : decode cX13_keepSmall 18 = .ok (.bipush 7, 2) := by decide +kernel
theorem dX13_keepSmall_20 : decode cX13_keepSmall 20 = .ok (.invokevirtual 721, 3) := by decide +kernel
theorem dX13_keepSmall_23 : decode cX13_keepSmall 23 = .ok (.aload_n 0, 1) := by decide +kernel
theorem dX13_keepSmall_24 : decode cX13_keepSmall 24 = .ok (.iload_n 1, 1) := by decide +kernel
theorem dX13_keepSmall_25 : decode cX13_keepSmall 25 = .ok (.bipush 6, 2) := by decide +kernel
theorem dX13_keepSmall_27 : decode cX13_keepSmall 27 = .ok (.bipush 7, 2) := by decide +kernel
theorem dX13_keepSmall_29 : decode cX13_keepSmall 29 = .ok (.invokevirtual 730, 3) := by decide +kernel
theorem dX13_keepSmall_32 : decode cX13_keepSmall 32 = .ok (.return_, 1) := by decide +kernel
def w_keepSmall_0 (C : rCx) (Q : rS → Prop)  (a1 : Int32) (a2 : Int64) (a4 : Int64) (σ : rS) : Prop :=
  cV C 0 m_set [.ref (co C), .int (6 : Int32), .long a2] σ (fun σ1 =>
    cV C 0 m_set [.ref (co C), .int (7 : Int32), .long a4] σ1 (fun σ3 =>
      cV C 3 m_reduce [.ref (co C), .int (6 : Int32), .int (7 : Int32)] σ3 (fun σ5 =>
        cV C 0 m_keepIn [.ref (co C), .int a1, .int (6 : Int32), .int (7 : Int32)] σ5 (fun σ7 =>
          Q σ7))))
theorem t_keepSmall_0 {C : rCx} (hC : cOK C) {Q : rS → Prop}   {a1 : Int32} {a2 : Int64} {a4 : Int64} {σ : rS} (F : w_keepSmall_0 C Q  a1 a2 a4 σ) : wG C 4 m_keepSmall 0 [some (.ref (co C)), some (.int a1), some (.long a2), none, some (.long a4), none] [] σ (qV Q) := by
  unfold w_keepSmall_0 at F
  refine s_aln dX13_keepSmall_0 rfl ?_
  refine s_bi dX13_keepSmall_1 kb_6 ?_
  refine s_lln dX13_keepSmall_3 rfl ?_
  refine k_699 dX13_keepSmall_4 rfl (Nat.le_of_ble_eq_true rfl) (Nat.le_of_ble_eq_true rfl) F (fun σ1 F => ?_)
  refine s_aln dX13_keepSmall_7 rfl ?_
  refine s_bi dX13_keepSmall_8 kb_7 ?_
  refine s_ll dX13_keepSmall_10 rfl ?_
  refine k_699 dX13_keepSmall_12 rfl (Nat.le_of_ble_eq_true rfl) (Nat.le_of_ble_eq_true rfl) F (fun σ3 F => ?_)
  refine s_aln dX13_keepSmall_15 rfl ?_
  refine s_bi dX13_keepSmall_16 kb_6 ?_
  refine s_bi dX13_keepSmall_18 kb_7 ?_
  refine k_721 dX13_keepSmall_20 rfl (Nat.le_of_ble_eq_true rfl) (Nat.le_of_ble_eq_true rfl) F (fun σ5 F => ?_)
  refine s_aln dX13_keepSmall_23 rfl ?_
  refine s_iln dX13_keepSmall_24 rfl ?_
  refine s_bi dX13_keepSmall_25 kb_6 ?_
  refine s_bi dX13_keepSmall_27 kb_7 ?_
  refine k_730 dX13_keepSmall_29 rfl (Nat.le_of_ble_eq_true rfl) (Nat.le_of_ble_eq_true rfl) F (fun σ7 F => ?_)
  exact s_rv dX13_keepSmall_32 rfl F

theorem m_keepSmall_run {C : rCx} (hC : cOK C) {Q : rS → Prop} {a1 : Int32} {a2 : Int64} {a4 : Int64} {σ : rS} (F : w_keepSmall_0 C Q a1 a2 a4 σ) : cV C 4 m_keepSmall [.ref (co C), .int a1, .long a2, .long a4] σ Q := m_V (m_ent _ 0) (t_keepSmall_0 hC F)

theorem dX13_layRing_0 : decode cX13_layRing 0 = .ok (.iconst 0, 1) := by decide +kernel
theorem dX13_layRing_1 : decode cX13_layRing 1 = .ok (.istore_n 1, 1) := by decide +kernel
theorem dX13_layRing_2 : decode cX13_layRing 2 = .ok (.iload_n 1, 1) := by decide +kernel
theorem dX13_layRing_3 : decode cX13_layRing 3 = .ok (.aload_n 0, 1) := by decide +kernel
theorem dX13_layRing_4 : decode cX13_layRing 4 = .ok (.getfield 755, 3) := by decide +kernel
theorem dX13_layRing_7 : decode cX13_layRing 7 = .ok (.if_icmp .ge 162, 3) := by decide +kernel
theorem dX13_layRing_10 : decode cX13_layRing 10 = .ok (.aload_n 0, 1) := by decide +kernel
theorem dX13_layRing_11 : decode cX13_layRing 11 = .ok (.getfield 207, 3) := by decide +kernel
theorem dX13_layRing_14 : decode cX13_layRing 14 = .ok (.iload_n 1, 1) := by decide +kernel
theorem dX13_layRing_15 : decode cX13_layRing 15 = .ok (.iaload, 1) := by decide +kernel
theorem dX13_layRing_16 : decode cX13_layRing 16 = .ok (.istore_n 2, 1) := by decide +kernel
theorem dX13_layRing_17 : decode cX13_layRing 17 = .ok (.aload_n 0, 1) := by decide +kernel
theorem dX13_layRing_18 : decode cX13_layRing 18 = .ok (.iload_n 2, 1) := by decide +kernel
theorem dX13_layRing_19 : decode cX13_layRing 19 = .ok (.invokevirtual 744, 3) := by decide +kernel
theorem dX13_layRing_22 : decode cX13_layRing 22 = .ok (.lstore_n 3, 1) := by decide +kernel
theorem dX13_layRing_23 : decode cX13_layRing 23 = .ok (.iconst 0, 1) := by decide +kernel
theorem dX13_layRing_24 : decode cX13_layRing 24 = .ok (.istore 5, 2) := by decide +kernel
theorem dX13_layRing_26 : decode cX13_layRing 26 = .ok (.iload 5, 2) := by decide +kernel
theorem dX13_layRing_28 : decode cX13_layRing 28 = .ok (.aload_n 0, 1) := by decide +kernel
theorem dX13_layRing_29 : decode cX13_layRing 29 = .ok (.getfield 755, 3) := by decide +kernel
theorem dX13_layRing_32 : decode cX13_layRing 32 = .ok (.if_icmp .ge 116, 3) := by decide +kernel
theorem dX13_layRing_35 : decode cX13_layRing 35 = .ok (.lconst 0, 1) := by decide +kernel
theorem dX13_layRing_36 : decode cX13_layRing 36 = .ok (.lstore 6, 2) := by decide +kernel
theorem dX13_layRing_38 : decode cX13_layRing 38 = .ok (.aload_n 0, 1) := by decide +kernel
theorem dX13_layRing_39 : decode cX13_layRing 39 = .ok (.getfield 151, 3) := by decide +kernel
theorem dX13_layRing_42 : decode cX13_layRing 42 = .ok (.iload_n 2, 1) := by decide +kernel
theorem dX13_layRing_43 : decode cX13_layRing 43 = .ok (.iaload, 1) := by decide +kernel
theorem dX13_layRing_44 : decode cX13_layRing 44 = .ok (.istore 8, 2) := by decide +kernel
theorem dX13_layRing_46 : decode cX13_layRing 46 = .ok (.iload 8, 2) := by decide +kernel
theorem dX13_layRing_48 : decode cX13_layRing 48 = .ok (.aload_n 0, 1) := by decide +kernel
theorem dX13_layRing_49 : decode cX13_layRing 49 = .ok (.getfield 151, 3) := by decide +kernel
theorem dX13_layRing_52 : decode cX13_layRing 52 = .ok (.iload_n 2, 1) := by decide +kernel
theorem dX13_layRing_53 : decode cX13_layRing 53 = .ok (.iconst 1, 1) := by decide +kernel
theorem dX13_layRing_54 : decode cX13_layRing 54 = .ok (.iadd, 1) := by decide +kernel
theorem dX13_layRing_55 : decode cX13_layRing 55 = .ok (.iaload, 1) := by decide +kernel
theorem dX13_layRing_56 : decode cX13_layRing 56 = .ok (.if_icmp .ge 63, 3) := by decide +kernel
theorem dX13_layRing_59 : decode cX13_layRing 59 = .ok (.lload 6, 2) := by decide +kernel
theorem dX13_layRing_61 : decode cX13_layRing 61 = .ok (.aload_n 0, 1) := by decide +kernel
theorem dX13_layRing_62 : decode cX13_layRing 62 = .ok (.getfield 154, 3) := by decide +kernel
theorem dX13_layRing_65 : decode cX13_layRing 65 = .ok (.iload 8, 2) := by decide +kernel
theorem dX13_layRing_67 : decode cX13_layRing 67 = .ok (.iaload, 1) := by decide +kernel
theorem dX13_layRing_68 : decode cX13_layRing 68 = .ok (.ifCond .ne 41, 3) := by decide +kernel
theorem dX13_layRing_71 : decode cX13_layRing 71 = .ok (.aload_n 0, 1) := by decide +kernel
theorem dX13_layRing_72 : decode cX13_layRing 72 = .ok (.getfield 157, 3) := by decide +kernel
theorem dX13_layRing_75 : decode cX13_layRing 75 = .ok (.iload 8, 2) := by decide +kernel
theorem dX13_layRing_77 : decode cX13_layRing 77 = .ok (.iaload, 1) := by decide +kernel
theorem dX13_layRing_78 : decode cX13_layRing 78 = .ok (.aload_n 0, 1) := by decide +kernel
theorem dX13_layRing_79 : decode cX13_layRing 79 = .ok (.getfield 207, 3) := by decide +kernel
theorem dX13_layRing_82 : decode cX13_layRing 82 = .ok (.iload 5, 2) := by decide +kernel
theorem dX13_layRing_84 : decode cX13_layRing 84 = .ok (.iaload, 1) := by decide +kernel
theorem dX13_layRing_85 : decode cX13_layRing 85 = .ok (.if_icmp .ne 24, 3) := by decide +kernel
theorem dX13_layRing_88 : decode cX13_layRing 88 = .ok (.aload_n 0, 1) := by decide +kernel
theorem dX13_layRing_89 : decode cX13_layRing 89 = .ok (.iload_n 2, 1) := by decide +kernel
theorem dX13_layRing_90 : decode cX13_layRing 90 = .ok (.iload 8, 2) := by decide +kernel
theorem dX13_layRing_92 : decode cX13_layRing 92 = .ok (.iconst 1, 1) := by decide +kernel
theorem dX13_layRing_93 : decode cX13_layRing 93 = .ok (.invokevirtual 640, 3) := by decide +kernel
theorem dX13_layRing_96 : decode cX13_layRing 96 = .ok (.ifCond .eq 13, 3) := by decide +kernel
theorem dX13_layRing_99 : decode cX13_layRing 99 = .ok (.aload_n 0, 1) := by decide +kernel
theorem dX13_layRing_100 : decode cX13_layRing 100 = .ok (.iload_n 2, 1) := by decide +kernel
theorem dX13_layRing_101 : decode cX13_layRing 101 = .ok (.iload 8, 2) := by decide +kernel
theorem dX13_layRing_103 : decode cX13_layRing 103 = .ok (.invokevirtual 740, 3) := by decide +kernel
theorem dX13_layRing_106 : decode cX13_layRing 106 = .ok (.goto 4, 3) := by decide +kernel
theorem dX13_layRing_109 : decode cX13_layRing 109 = .ok (.lconst 0, 1) := by decide +kernel
theorem dX13_layRing_110 : decode cX13_layRing 110 = .ok (.ladd, 1) := by decide +kernel
theorem dX13_layRing_111 : decode cX13_layRing 111 = .ok (.lstore 6, 2) := by decide +kernel
theorem dX13_layRing_113 : decode cX13_layRing 113 = .ok (.iinc 8 1, 3) := by decide +kernel
theorem dX13_layRing_116 : decode cX13_layRing 116 = .ok (.goto (-70), 3) := by decide +kernel
theorem dX13_layRing_119 : decode cX13_layRing 119 = .ok (.aload_n 0, 1) := by decide +kernel
theorem dX13_layRing_120 : decode cX13_layRing 120 = .ok (.bipush 32, 2) := by decide +kernel
theorem dX13_layRing_122 : decode cX13_layRing 122 = .ok (.iload_n 1, 1) := by decide +kernel
theorem dX13_layRing_123 : decode cX13_layRing 123 = .ok (.imul, 1) := by decide +kernel
theorem dX13_layRing_124 : decode cX13_layRing 124 = .ok (.iload 5, 2) := by decide +kernel
theorem dX13_layRing_126 : decode cX13_layRing 126 = .ok (.iadd, 1) := by decide +kernel
theorem dX13_layRing_127 : decode cX13_layRing 127 = .ok (.lload 6, 2) := by decide +kernel
theorem dX13_layRing_129 : decode cX13_layRing 129 = .ok (.aload_n 0, 1) := by decide +kernel
theorem dX13_layRing_130 : decode cX13_layRing 130 = .ok (.iload_n 2, 1) := by decide +kernel
theorem dX13_layRing_131 : decode cX13_layRing 131 = .ok (.invokevirtual 744, 3) := by decide +kernel
theorem dX13_layRing_134 : decode cX13_layRing 134 = .ok (.invokevirtual 758, 3) := by decide +kernel
theorem dX13_layRing_137 : decode cX13_layRing 137 = .ok (.lload_n 3, 1) := by decide +kernel
theorem dX13_layRing_138 : decode cX13_layRing 138 = .ok (.lload 6, 2) := by decide +kernel
theorem dX13_layRing_140 : decode cX13_layRing 140 = .ok (.lsub, 1) := by decide +kernel
theorem dX13_layRing_141 : decode cX13_layRing 141 = .ok (.lstore_n 3, 1) := by decide +kernel
theorem dX13_layRing_142 : decode cX13_layRing 142 = .ok (.iinc 5 1, 3) := by decide +kernel
theorem dX13_layRing_145 : decode cX13_layRing 145 = .ok (.goto (-119), 3) := by decide +kernel
theorem dX13_layRing_148 : decode cX13_layRing 148 = .ok (.aload_n 0, 1) := by decide +kernel
theorem dX13_layRing_149 : decode cX13_layRing 149 = .ok (.sipush 1024, 3) := by decide +kernel
theorem dX13_layRing_152 : decode cX13_layRing 152 = .ok (.iload_n 1, 1) := by decide +kernel
theorem dX13_layRing_153 : decode cX13_layRing 153 = .ok (.iadd, 1) := by decide +kernel
theorem dX13_layRing_154 : decode cX13_layRing 154 = .ok (.lload_n 3, 1) := by decide +kernel
theorem dX13_layRing_155 : decode cX13_layRing 155 = .ok (.aload_n 0, 1) := by decide +kernel
theorem dX13_layRing_156 : decode cX13_layRing 156 = .ok (.iload_n 2, 1) := by decide +kernel
theorem dX13_layRing_157 : decode cX13_layRing 157 = .ok (.invokevirtual 744, 3) := by decide +kernel
theorem dX13_layRing_160 : decode cX13_layRing 160 = .ok (.invokevirtual 758, 3) := by decide +kernel
theorem dX13_layRing_163 : decode cX13_layRing 163 = .ok (.iinc 1 1, 3) := by decide +kernel
theorem dX13_layRing_166 : decode cX13_layRing 166 = .ok (.goto (-164), 3) := by decide +kernel
theorem dX13_layRing_169 : decode cX13_layRing 169 = .ok (.return_, 1) := by decide +kernel
def w_layRing_110 (C : rCx) (Q : rS → Prop) (B2 : Int32 → rS → Prop) (B26 : Int32 → Int32 → Int64 → Int32 → rS → Prop) (B46 : Int32 → Int32 → Int64 → Int32 → Int64 → Int32 → rS → Prop) (a1 : Int32) (a2 : Int32) (a3 : Int64) (a5 : Int32) (a8 : Int32) (s0 : Int64) (s1 : Int64) (σ : rS) : Prop :=
  ∀ v6_1 : Int64, v6_1 = (s0 + s1) →
  ∀ v8_2 : Int32, v8_2 = a8 + (1 : Int32) →
  B46 a1 a2 a3 a5 v6_1 v8_2 σ
theorem t_layRing_110 {C : rCx} (hC : cOK C) {Q : rS → Prop} {B2 : Int32 → rS → Prop} {B26 : Int32 → Int32 → Int64 → Int32 → rS → Prop} {B46 : Int32 → Int32 → Int64 → Int32 → Int64 → Int32 → rS → Prop} (hB2 : ∀ a1' τ, B2 a1' τ → wG C 5 m_layRing 2 [some (.ref (co C)), some (.int a1'), none, none, none, none, none, none, none] [] τ (qV Q)) (hB26 : ∀ a1' a2' a3' a5' τ, B26 a1' a2' a3' a5' τ → wG C 5 m_layRing 26 [some (.ref (co C)), some (.int a1'), some (.int a2'), some (.long a3'), none, some (.int a5'), none, none, none] [] τ (qV Q)) (hB46 : ∀ a1' a2' a3' a5' a6' a8' τ, B46 a1' a2' a3' a5' a6' a8' τ → wG C 5 m_layRing 46 [some (.ref (co C)), some (.int a1'), some (.int a2'), some (.long a3'), none, some (.int a5'), some (.long a6'), none, some (.int a8')] [] τ (qV Q)) {a1 : Int32} {a2 : Int32} {a3 : Int64} {a5 : Int32} {a8 : Int32} {s0 : Int64} {s1 : Int64} {σ : rS} (F : w_layRing_110 C Q B2 B26 B46 a1 a2 a3 a5 a8 s0 s1 σ) : wG C 5 m_layRing 110 [some (.ref (co C)), some (.int a1), some (.int a2), some (.long a3), none, some (.int a5), none, none, some (.int a8)] [.long s1, .long s0] σ (qV Q) := by
  unfold w_layRing_110 at F
  refine s_ladd dX13_layRing_110 ?_
  refine s_lsb dX13_layRing_111 (Nat.le_of_ble_eq_true rfl) (fun v6_1 ev6_1 => ?_)
  replace F := F v6_1 ev6_1
  show wG _ _ _ _ [some (.ref (co C)), some (.int a1), some (.int a2), some (.long a3), none, some (.int a5), some (.long v6_1), none, some (.int a8)] _ _ _
  refine s_incb dX13_layRing_113 ki_1 rfl (Nat.le_of_ble_eq_true rfl) (fun v8_2 ev8_2 => ?_)
  replace F := F v8_2 ev8_2
  show wG _ _ _ _ [some (.ref (co C)), some (.int a1), some (.int a2), some (.long a3), none, some (.int a5), some (.long v6_1), none, some (.int v8_2)] _ _ _
  refine s_goto (t := 46) dX13_layRing_116 rfl ?_
  exact s_k (hB46 _ _ _ _ _ _ _ F) ⟨rfl, rfl, rfl, rfl, rfl, rfl, rfl, trivial⟩

def w_layRing_46 (C : rCx) (Q : rS → Prop) (B2 : Int32 → rS → Prop) (B26 : Int32 → Int32 → Int64 → Int32 → rS → Prop) (a1 : Int32) (a2 : Int32) (a3 : Int64) (a5 : Int32) (a6 : Int64) (a8 : Int32) (σ : rS) : Prop :=
  ∃ I : Nat → Int32 → Int32 → Int64 → Int32 → Int64 → Int32 → rS → Prop, (∃ n, I n a1 a2 a3 a5 a6 a8 σ) ∧ ∀ n a1 a2 a3 a5 a6 a8 σ, I n a1 a2 a3 a5 a6 a8 σ →
    inb (a2 + (1 : Int32)) 1001 ∧
    ((σ.2.2.1 76 ((a2 + (1 : Int32))).toNatClampNeg) ≤ a8 →
      cJ C 0 m_totalOf [.ref (co C), .int a2] σ (fun r2 σ1 =>
        cV C 4 m_keepSmall [.ref (co C), .int (((32 : Int32) * a1) + a5), .long a6, .long r2] σ1 (fun σ3 =>
          ∀ v3_5 : Int64, v3_5 = (a3 - a6) →
          ∀ v5_6 : Int32, v5_6 = a5 + (1 : Int32) →
          B26 a1 a2 v3_5 v5_6 σ3))) ∧
    (¬ ((σ.2.2.1 76 ((a2 + (1 : Int32))).toNatClampNeg) ≤ a8) →
      inb a8 20000 ∧
      (¬ ((σ.2.2.1 77 (a8).toNatClampNeg) = 0) →
        w_layRing_110 C Q B2 B26 (fun a1' a2' a3' a5' a6' a8' τ => ∃ k < n, I k a1' a2' a3' a5' a6' a8' τ) a1 a2 a3 a5 a8 a6 (0 : Int64) σ) ∧
      ((σ.2.2.1 77 (a8).toNatClampNeg) = 0 →
        inb a8 20000 ∧
        inb a5 1000 ∧
        (¬ ((σ.2.2.1 78 (a8).toNatClampNeg) = (σ.2.2.1 99 (a5).toNatClampNeg)) →
          w_layRing_110 C Q B2 B26 (fun a1' a2' a3' a5' a6' a8' τ => ∃ k < n, I k a1' a2' a3' a5' a6' a8' τ) a1 a2 a3 a5 a8 a6 (0 : Int64) σ) ∧
        ((σ.2.2.1 78 (a8).toNatClampNeg) = (σ.2.2.1 99 (a5).toNatClampNeg) →
          cI C 0 m_isTaken [.ref (co C), .int a2, .int a8, .int (1 : Int32)] σ (fun r8 σ7 =>
            (r8 = 0 →
              w_layRing_110 C Q B2 B26 (fun a1' a2' a3' a5' a6' a8' τ => ∃ k < n, I k a1' a2' a3' a5' a6' a8' τ) a1 a2 a3 a5 a8 a6 (0 : Int64) σ7) ∧
            (¬ (r8 = 0) →
              cJ C 0 m_weightOf [.ref (co C), .int a2, .int a8] σ7 (fun r10 σ9 =>
                w_layRing_110 C Q B2 B26 (fun a1' a2' a3' a5' a6' a8' τ => ∃ k < n, I k a1' a2' a3' a5' a6' a8' τ) a1 a2 a3 a5 a8 a6 r10 σ9))))))
theorem t_layRing_46 {C : rCx} (hC : cOK C) {Q : rS → Prop} {B2 : Int32 → rS → Prop} {B26 : Int32 → Int32 → Int64 → Int32 → rS → Prop} (hB2 : ∀ a1' τ, B2 a1' τ → wG C 5 m_layRing 2 [some (.ref (co C)), some (.int a1'), none, none, none, none, none, none, none] [] τ (qV Q)) (hB26 : ∀ a1' a2' a3' a5' τ, B26 a1' a2' a3' a5' τ → wG C 5 m_layRing 26 [some (.ref (co C)), some (.int a1'), some (.int a2'), some (.long a3'), none, some (.int a5'), none, none, none] [] τ (qV Q)) {a1 : Int32} {a2 : Int32} {a3 : Int64} {a5 : Int32} {a6 : Int64} {a8 : Int32} {σ : rS} (F : w_layRing_46 C Q B2 B26 a1 a2 a3 a5 a6 a8 σ) : wG C 5 m_layRing 46 [some (.ref (co C)), some (.int a1), some (.int a2), some (.long a3), none, some (.int a5), some (.long a6), none, some (.int a8)] [] σ (qV Q) := by
  obtain ⟨I, ⟨n0, hI0⟩, F0⟩ := F
  have key : ∀ n a1 a2 a3 a5 a6 a8 σ, I n a1 a2 a3 a5 a6 a8 σ → wG C 5 m_layRing 46 [some (.ref (co C)), some (.int a1), some (.int a2), some (.long a3), none, some (.int a5), some (.long a6), none, some (.int a8)] [] σ (qV Q) := by
    intro n
    induction n using Nat.strongRecOn with
    | _ n ih =>
      intro a1 a2 a3 a5 a6 a8 σ hI
      have F := F0 n a1 a2 a3 a5 a6 a8 σ hI
      clear hI hI0
      refine s_il dX13_layRing_46 rfl ?_
      refine s_aln dX13_layRing_48 rfl ?_
      refine gf_151 dX13_layRing_49 rfl ?_
      refine s_iln dX13_layRing_52 rfl ?_
      refine s_ic dX13_layRing_53 ki_1 ?_
      refine s_iadd dX13_layRing_54 ?_
      refine s_ald hC dX13_layRing_55 rt_76 F.1 ?_
      replace F := F.2
      refine s_ii (t := 119) ((σ.2.2.1 76 ((a2 + (1 : Int32))).toNatClampNeg) ≤ a8) dX13_layRing_56 rfl rfl (fun hc => ?_) (fun hc => ?_)
      · replace F := F.1 hc
        refine s_aln dX13_layRing_119 rfl ?_
        refine s_bi dX13_layRing_120 kb_32 ?_
        refine s_iln dX13_layRing_122 rfl ?_
        refine s_imul dX13_layRing_123 ?_
        refine s_il dX13_layRing_124 rfl ?_
        refine s_iadd dX13_layRing_126 ?_
        refine s_ll dX13_layRing_127 rfl ?_
        refine s_aln dX13_layRing_129 rfl ?_
        refine s_iln dX13_layRing_130 rfl ?_
        refine k_744 dX13_layRing_131 rfl (Nat.le_of_ble_eq_true rfl) (Nat.le_of_ble_eq_true rfl) F (fun r2 σ1 F => ?_)
        refine k_758 dX13_layRing_134 rfl (Nat.le_of_ble_eq_true rfl) (Nat.le_of_ble_eq_true rfl) F (fun σ3 F => ?_)
        refine s_lln dX13_layRing_137 rfl ?_
        refine s_ll dX13_layRing_138 rfl ?_
        refine s_lsub dX13_layRing_140 ?_
        refine s_lsnb dX13_layRing_141 (Nat.le_of_ble_eq_true rfl) (fun v3_5 ev3_5 => ?_)
        replace F := F v3_5 ev3_5
        show wG _ _ _ _ [some (.ref (co C)), some (.int a1), some (.int a2), some (.long v3_5), none, some (.int a5), some (.long a6), none, some (.int a8)] _ _ _
        refine s_incb dX13_layRing_142 ki_1 rfl (Nat.le_of_ble_eq_true rfl) (fun v5_6 ev5_6 => ?_)
        replace F := F v5_6 ev5_6
        show wG _ _ _ _ [some (.ref (co C)), some (.int a1), some (.int a2), some (.long v3_5), none, some (.int v5_6), some (.long a6), none, some (.int a8)] _ _ _
        refine s_goto (t := 26) dX13_layRing_145 rfl ?_
        exact s_k (hB26 _ _ _ _ _ F) ⟨rfl, rfl, rfl, rfl, rfl, trivial⟩
      · replace F := F.2 hc
        refine s_ll dX13_layRing_59 rfl ?_
        refine s_aln dX13_layRing_61 rfl ?_
        refine gf_154 dX13_layRing_62 rfl ?_
        refine s_il dX13_layRing_65 rfl ?_
        refine s_ald hC dX13_layRing_67 rt_77 F.1 ?_
        replace F := F.2
        refine s_in (t := 109) ((σ.2.2.1 77 (a8).toNatClampNeg) = 0) dX13_layRing_68 rfl rfl (fun hc => ?_) (fun hc => ?_)
        · replace F := F.1 hc
          refine s_lc dX13_layRing_109 kl_0 ?_
          exact s_k (t_layRing_110 hC hB2 hB26 (fun a1' a2' a3' a5' a6' a8' τ hb => by obtain ⟨k, hk, hI⟩ := hb; exact ih k hk a1' a2' a3' a5' a6' a8' τ hI) F) ⟨rfl, rfl, rfl, rfl, rfl, rfl, trivial⟩
        · replace F := F.2 hc
          refine s_aln dX13_layRing_71 rfl ?_
          refine gf_157 dX13_layRing_72 rfl ?_
          refine s_il dX13_layRing_75 rfl ?_
          refine s_ald hC dX13_layRing_77 rt_78 F.1 ?_
          replace F := F.2
          refine s_aln dX13_layRing_78 rfl ?_
          refine gf_207 dX13_layRing_79 rfl ?_
          refine s_il dX13_layRing_82 rfl ?_
          refine s_ald hC dX13_layRing_84 rt_99 F.1 ?_
          replace F := F.2
          refine s_iin (t := 109) ((σ.2.2.1 78 (a8).toNatClampNeg) = (σ.2.2.1 99 (a5).toNatClampNeg)) dX13_layRing_85 rfl rfl (fun hc => ?_) (fun hc => ?_)
          · replace F := F.1 hc
            refine s_lc dX13_layRing_109 kl_0 ?_
            exact s_k (t_layRing_110 hC hB2 hB26 (fun a1' a2' a3' a5' a6' a8' τ hb => by obtain ⟨k, hk, hI⟩ := hb; exact ih k hk a1' a2' a3' a5' a6' a8' τ hI) F) ⟨rfl, rfl, rfl, rfl, rfl, rfl, trivial⟩
          · replace F := F.2 hc
            refine s_aln dX13_layRing_88 rfl ?_
            refine s_iln dX13_layRing_89 rfl ?_
            refine s_il dX13_layRing_90 rfl ?_
            refine s_ic dX13_layRing_92 ki_1 ?_
            refine k_640 dX13_layRing_93 rfl (Nat.le_of_ble_eq_true rfl) (Nat.le_of_ble_eq_true rfl) F (fun r8 σ7 F => ?_)
            refine s_i (t := 109) (r8 = 0) dX13_layRing_96 rfl rfl (fun hc => ?_) (fun hc => ?_)
            · replace F := F.1 hc
              refine s_lc dX13_layRing_109 kl_0 ?_
              exact s_k (t_layRing_110 hC hB2 hB26 (fun a1' a2' a3' a5' a6' a8' τ hb => by obtain ⟨k, hk, hI⟩ := hb; exact ih k hk a1' a2' a3' a5' a6' a8' τ hI) F) ⟨rfl, rfl, rfl, rfl, rfl, rfl, trivial⟩
            · replace F := F.2 hc
              refine s_aln dX13_layRing_99 rfl ?_
              refine s_iln dX13_layRing_100 rfl ?_
              refine s_il dX13_layRing_101 rfl ?_
              refine k_740 dX13_layRing_103 rfl (Nat.le_of_ble_eq_true rfl) (Nat.le_of_ble_eq_true rfl) F (fun r10 σ9 F => ?_)
              refine s_goto (t := 110) dX13_layRing_106 rfl ?_
              exact s_k (t_layRing_110 hC hB2 hB26 (fun a1' a2' a3' a5' a6' a8' τ hb => by obtain ⟨k, hk, hI⟩ := hb; exact ih k hk a1' a2' a3' a5' a6' a8' τ hI) F) ⟨rfl, rfl, rfl, rfl, rfl, rfl, trivial⟩
  exact key n0 a1 a2 a3 a5 a6 a8 σ hI0

def w_layRing_26 (C : rCx) (Q : rS → Prop) (B2 : Int32 → rS → Prop) (a1 : Int32) (a2 : Int32) (a3 : Int64) (a5 : Int32) (σ : rS) : Prop :=
  ∃ I : Nat → Int32 → Int32 → Int64 → Int32 → rS → Prop, (∃ n, I n a1 a2 a3 a5 σ) ∧ ∀ n a1 a2 a3 a5 σ, I n a1 a2 a3 a5 σ →
    ((σ.1 100) ≤ a5 →
      cJ C 0 m_totalOf [.ref (co C), .int a2] σ (fun r2 σ1 =>
        cV C 4 m_keepSmall [.ref (co C), .int ((1024 : Int32) + a1), .long a3, .long r2] σ1 (fun σ3 =>
          ∀ v1_5 : Int32, v1_5 = a1 + (1 : Int32) →
          B2 v1_5 σ3))) ∧
    (¬ ((σ.1 100) ≤ a5) →
      inb a2 1001 ∧
      ∀ v8_6 : Int32, v8_6 = (σ.2.2.1 76 (a2).toNatClampNeg) →
      w_layRing_46 C Q B2 (fun a1' a2' a3' a5' τ => ∃ k < n, I k a1' a2' a3' a5' τ) a1 a2 a3 a5 (0 : Int64) v8_6 σ)
theorem t_layRing_26 {C : rCx} (hC : cOK C) {Q : rS → Prop} {B2 : Int32 → rS → Prop} (hB2 : ∀ a1' τ, B2 a1' τ → wG C 5 m_layRing 2 [some (.ref (co C)), some (.int a1'), none, none, none, none, none, none, none] [] τ (qV Q)) {a1 : Int32} {a2 : Int32} {a3 : Int64} {a5 : Int32} {σ : rS} (F : w_layRing_26 C Q B2 a1 a2 a3 a5 σ) : wG C 5 m_layRing 26 [some (.ref (co C)), some (.int a1), some (.int a2), some (.long a3), none, some (.int a5), none, none, none] [] σ (qV Q) := by
  obtain ⟨I, ⟨n0, hI0⟩, F0⟩ := F
  have key : ∀ n a1 a2 a3 a5 σ, I n a1 a2 a3 a5 σ → wG C 5 m_layRing 26 [some (.ref (co C)), some (.int a1), some (.int a2), some (.long a3), none, some (.int a5), none, none, none] [] σ (qV Q) := by
    intro n
    induction n using Nat.strongRecOn with
    | _ n ih =>
      intro a1 a2 a3 a5 σ hI
      have F := F0 n a1 a2 a3 a5 σ hI
      clear hI hI0
      refine s_il dX13_layRing_26 rfl ?_
      refine s_aln dX13_layRing_28 rfl ?_
      refine gf_755 dX13_layRing_29 rfl ?_
      refine s_ii (t := 148) ((σ.1 100) ≤ a5) dX13_layRing_32 rfl rfl (fun hc => ?_) (fun hc => ?_)
      · replace F := F.1 hc
        refine s_aln dX13_layRing_148 rfl ?_
        refine s_si dX13_layRing_149 ks_1024 ?_
        refine s_iln dX13_layRing_152 rfl ?_
        refine s_iadd dX13_layRing_153 ?_
        refine s_lln dX13_layRing_154 rfl ?_
        refine s_aln dX13_layRing_155 rfl ?_
        refine s_iln dX13_layRing_156 rfl ?_
        refine k_744 dX13_layRing_157 rfl (Nat.le_of_ble_eq_true rfl) (Nat.le_of_ble_eq_true rfl) F (fun r2 σ1 F => ?_)
        refine k_758 dX13_layRing_160 rfl (Nat.le_of_ble_eq_true rfl) (Nat.le_of_ble_eq_true rfl) F (fun σ3 F => ?_)
        refine s_incb dX13_layRing_163 ki_1 rfl (Nat.le_of_ble_eq_true rfl) (fun v1_5 ev1_5 => ?_)
        replace F := F v1_5 ev1_5
        show wG _ _ _ _ [some (.ref (co C)), some (.int v1_5), some (.int a2), some (.long a3), none, some (.int a5), none, none, none] _ _ _
        refine s_goto (t := 2) dX13_layRing_166 rfl ?_
        exact s_k (hB2 _ _ F) ⟨rfl, rfl, trivial⟩
      · replace F := F.2 hc
        refine s_lc dX13_layRing_35 kl_0 ?_
        refine s_ls dX13_layRing_36 (Nat.le_of_ble_eq_true rfl) rfl ?_
        show wG _ _ _ _ [some (.ref (co C)), some (.int a1), some (.int a2), some (.long a3), none, some (.int a5), some (.long (0 : Int64)), none, none] _ _ _
        refine s_aln dX13_layRing_38 rfl ?_
        refine gf_151 dX13_layRing_39 rfl ?_
        refine s_iln dX13_layRing_42 rfl ?_
        refine s_ald hC dX13_layRing_43 rt_76 F.1 ?_
        replace F := F.2
        refine s_isb dX13_layRing_44 (Nat.le_of_ble_eq_true rfl) (fun v8_6 ev8_6 => ?_)
        replace F := F v8_6 ev8_6
        show wG _ _ _ _ [some (.ref (co C)), some (.int a1), some (.int a2), some (.long a3), none, some (.int a5), some (.long (0 : Int64)), none, some (.int v8_6)] _ _ _
        exact s_k (t_layRing_46 hC hB2 (fun a1' a2' a3' a5' τ hb => by obtain ⟨k, hk, hI⟩ := hb; exact ih k hk a1' a2' a3' a5' τ hI) F) ⟨rfl, rfl, rfl, rfl, rfl, rfl, rfl, trivial⟩
  exact key n0 a1 a2 a3 a5 σ hI0

def w_layRing_2 (C : rCx) (Q : rS → Prop)  (a1 : Int32) (σ : rS) : Prop :=
  ∃ I : Nat → Int32 → rS → Prop, (∃ n, I n a1 σ) ∧ ∀ n a1 σ, I n a1 σ →
    ((σ.1 100) ≤ a1 →
      Q σ) ∧
    (¬ ((σ.1 100) ≤ a1) →
      inb a1 1000 ∧
      ∀ v2_1 : Int32, v2_1 = (σ.2.2.1 99 (a1).toNatClampNeg) →
      cJ C 0 m_totalOf [.ref (co C), .int v2_1] σ (fun r3 σ2 =>
        w_layRing_26 C Q (fun a1' τ => ∃ k < n, I k a1' τ) a1 v2_1 r3 (0 : Int32) σ2))
theorem t_layRing_2 {C : rCx} (hC : cOK C) {Q : rS → Prop}   {a1 : Int32} {σ : rS} (F : w_layRing_2 C Q  a1 σ) : wG C 5 m_layRing 2 [some (.ref (co C)), some (.int a1), none, none, none, none, none, none, none] [] σ (qV Q) := by
  obtain ⟨I, ⟨n0, hI0⟩, F0⟩ := F
  have key : ∀ n a1 σ, I n a1 σ → wG C 5 m_layRing 2 [some (.ref (co C)), some (.int a1), none, none, none, none, none, none, none] [] σ (qV Q) := by
    intro n
    induction n using Nat.strongRecOn with
    | _ n ih =>
      intro a1 σ hI
      have F := F0 n a1 σ hI
      clear hI hI0
      refine s_iln dX13_layRing_2 rfl ?_
      refine s_aln dX13_layRing_3 rfl ?_
      refine gf_755 dX13_layRing_4 rfl ?_
      refine s_ii (t := 169) ((σ.1 100) ≤ a1) dX13_layRing_7 rfl rfl (fun hc => ?_) (fun hc => ?_)
      · replace F := F.1 hc
        exact s_rv dX13_layRing_169 rfl F
      · replace F := F.2 hc
        refine s_aln dX13_layRing_10 rfl ?_
        refine gf_207 dX13_layRing_11 rfl ?_
        refine s_iln dX13_layRing_14 rfl ?_
        refine s_ald hC dX13_layRing_15 rt_99 F.1 ?_
        replace F := F.2
        refine s_isnb dX13_layRing_16 (Nat.le_of_ble_eq_true rfl) (fun v2_1 ev2_1 => ?_)
        replace F := F v2_1 ev2_1
        show wG _ _ _ _ [some (.ref (co C)), some (.int a1), some (.int v2_1), none, none, none, none, none, none] _ _ _
        refine s_aln dX13_layRing_17 rfl ?_
        refine s_iln dX13_layRing_18 rfl ?_
        refine k_744 dX13_layRing_19 rfl (Nat.le_of_ble_eq_true rfl) (Nat.le_of_ble_eq_true rfl) F (fun r3 σ2 F => ?_)
        refine s_lsn dX13_layRing_22 (Nat.le_of_ble_eq_true rfl) rfl ?_
        show wG _ _ _ _ [some (.ref (co C)), some (.int a1), some (.int v2_1), some (.long r3), none, none, none, none, none] _ _ _
        refine s_ic dX13_layRing_23 ki_0 ?_
        refine s_is dX13_layRing_24 (Nat.le_of_ble_eq_true rfl) rfl ?_
        show wG _ _ _ _ [some (.ref (co C)), some (.int a1), some (.int v2_1), some (.long r3), none, some (.int (0 : Int32)), none, none, none] _ _ _
        exact s_k (t_layRing_26 hC (fun a1' τ hb => by obtain ⟨k, hk, hI⟩ := hb; exact ih k hk a1' τ hI) F) ⟨rfl, rfl, rfl, rfl, rfl, trivial⟩
  exact key n0 a1 σ hI0

def w_layRing_0 (C : rCx) (Q : rS → Prop)   (σ : rS) : Prop :=
  w_layRing_2 C Q  (0 : Int32) σ
theorem t_layRing_0 {C : rCx} (hC : cOK C) {Q : rS → Prop}    {σ : rS} (F : w_layRing_0 C Q   σ) : wG C 5 m_layRing 0 [some (.ref (co C)), none, none, none, none, none, none, none, none] [] σ (qV Q) := by
  unfold w_layRing_0 at F
  refine s_ic dX13_layRing_0 ki_0 ?_
  refine s_isn dX13_layRing_1 (Nat.le_of_ble_eq_true rfl) rfl ?_
  show wG _ _ _ _ [some (.ref (co C)), some (.int (0 : Int32)), none, none, none, none, none, none, none] _ _ _
  exact s_k (t_layRing_2 hC  F) ⟨rfl, rfl, trivial⟩

theorem m_layRing_run {C : rCx} (hC : cOK C) {Q : rS → Prop}  {σ : rS} (F : w_layRing_0 C Q  σ) : cV C 5 m_layRing [.ref (co C)] σ Q := m_V (m_ent _ 8) (t_layRing_0 hC F)

theorem dX13_foldRing_0 : decode cX13_foldRing 0 = .ok (.aload_n 0, 1) := by decide +kernel
theorem dX13_foldRing_1 : decode cX13_foldRing 1 = .ok (.getfield 755, 3) := by decide +kernel
theorem dX13_foldRing_4 : decode cX13_foldRing 4 = .ok (.iconst 1, 1) := by decide +kernel
theorem dX13_foldRing_5 : decode cX13_foldRing 5 = .ok (.isub, 1) := by decide +kernel
theorem dX13_foldRing_6 : decode cX13_foldRing 6 = .ok (.istore_n 1, 1) := by decide +kernel
theorem dX13_foldRing_7 : decode cX13_foldRing 7 = .ok (.iload_n 1, 1) := by decide +kernel
theorem dX13_foldRing_8 : decode cX13_foldRing 8 = .ok (.ifCond .lt 152, 3) := by decide +kernel
theorem dX13_foldRing_11 : decode cX13_foldRing 11 = .ok (.aload_n 0, 1) := by decide +kernel
theorem dX13_foldRing_12 : decode cX13_foldRing 12 = .ok (.invokevirtual 762, 3) := by decide +kernel
theorem dX13_foldRing_15 : decode cX13_foldRing 15 = .ok (.aload_n 0, 1) := by decide +kernel
theorem dX13_foldRing_16 : decode cX13_foldRing 16 = .ok (.sipush 1024, 3) := by decide +kernel
theorem dX13_foldRing_19 : decode cX13_foldRing 19 = .ok (.iload_n 1, 1) := by decide +kernel
theorem dX13_foldRing_20 : decode cX13_foldRing 20 = .ok (.iadd, 1) := by decide +kernel
theorem dX13_foldRing_21 : decode cX13_foldRing 21 = .ok (.bipush 6, 2) := by decide +kernel
theorem dX13_foldRing_23 : decode cX13_foldRing 23 = .ok (.bipush 7, 2) := by decide +kernel
theorem dX13_foldRing_25 : decode cX13_foldRing 25 = .ok (.invokevirtual 724, 3) := by decide +kernel
theorem dX13_foldRing_28 : decode cX13_foldRing 28 = .ok (.aload_n 0, 1) := by decide +kernel
theorem dX13_foldRing_29 : decode cX13_foldRing 29 = .ok (.iconst 1, 1) := by decide +kernel
theorem dX13_foldRing_30 : decode cX13_foldRing 30 = .ok (.invokevirtual 727, 3) := by decide +kernel
theorem dX13_foldRing_33 : decode cX13_foldRing 33 = .ok (.iconst 0, 1) := by decide +kernel
theorem dX13_foldRing_34 : decode cX13_foldRing 34 = .ok (.istore_n 2, 1) := by decide +kernel
theorem dX13_foldRing_35 : decode cX13_foldRing 35 = .ok (.iload_n 2, 1) := by decide +kernel
theorem dX13_foldRing_36 : decode cX13_foldRing 36 = .ok (.iload_n 1, 1) := by decide +kernel
theorem dX13_foldRing_37 : decode cX13_foldRing 37 = .ok (.if_icmp .ge 28, 3) := by decide +kernel
theorem dX13_foldRing_40 : decode cX13_foldRing 40 = .ok (.aload_n 0, 1) := by decide +kernel
theorem dX13_foldRing_41 : decode cX13_foldRing 41 = .ok (.bipush 32, 2) := by decide +kernel
theorem dX13_foldRing_43 : decode cX13_foldRing 43 = .ok (.iload_n 1, 1) := by decide +kernel
theorem dX13_foldRing_44 : decode cX13_foldRing 44 = .ok (.imul, 1) := by decide +kernel
theorem dX13_foldRing_45 : decode cX13_foldRing 45 = .ok (.iload_n 2, 1) := by decide +kernel
theorem dX13_foldRing_46 : decode cX13_foldRing 46 = .ok (.iadd, 1) := by decide +kernel
theorem dX13_foldRing_47 : decode cX13_foldRing 47 = .ok (.bipush 6, 2) := by decide +kernel
theorem dX13_foldRing_49 : decode cX13_foldRing 49 = .ok (.bipush 7, 2) := by decide +kernel
theorem dX13_foldRing_51 : decode cX13_foldRing 51 = .ok (.invokevirtual 724, 3) := by decide +kernel
theorem dX13_foldRing_54 : decode cX13_foldRing 54 = .ok (.aload_n 0, 1) := by decide +kernel
theorem dX13_foldRing_55 : decode cX13_foldRing 55 = .ok (.iconst 1, 1) := by decide +kernel
theorem dX13_foldRing_56 : decode cX13_foldRing 56 = .ok (.invokevirtual 727, 3) := by decide +kernel
theorem dX13_foldRing_59 : decode cX13_foldRing 59 = .ok (.iinc 2 1, 3) := by decide +kernel
theorem dX13_foldRing_62 : decode cX13_foldRing 62 = .ok (.goto (-27), 3) := by decide +kernel
theorem dX13_foldRing_65 : decode cX13_foldRing 65 = .ok (.aload_n 0, 1) := by decide +kernel
theorem dX13_foldRing_66 : decode cX13_foldRing 66 = .ok (.sipush 1056, 3) := by decide +kernel
theorem dX13_foldRing_69 : decode cX13_foldRing 69 = .ok (.iload_n 1, 1) := by decide +kernel
theorem dX13_foldRing_70 : decode cX13_foldRing 70 = .ok (.iadd, 1) := by decide +kernel
theorem dX13_foldRing_71 : decode cX13_foldRing 71 = .ok (.iconst 4, 1) := by decide +kernel
theorem dX13_foldRing_72 : decode cX13_foldRing 72 = .ok (.iconst 5, 1) := by decide +kernel
theorem dX13_foldRing_73 : decode cX13_foldRing 73 = .ok (.invokevirtual 730, 3) := by decide +kernel
theorem dX13_foldRing_76 : decode cX13_foldRing 76 = .ok (.iconst 0, 1) := by decide +kernel
theorem dX13_foldRing_77 : decode cX13_foldRing 77 = .ok (.istore_n 2, 1) := by decide +kernel
theorem dX13_foldRing_78 : decode cX13_foldRing 78 = .ok (.iload_n 2, 1) := by decide +kernel
theorem dX13_foldRing_79 : decode cX13_foldRing 79 = .ok (.iload_n 1, 1) := by decide +kernel
theorem dX13_foldRing_80 : decode cX13_foldRing 80 = .ok (.if_icmp .ge 74, 3) := by decide +kernel
theorem dX13_foldRing_83 : decode cX13_foldRing 83 = .ok (.iconst 0, 1) := by decide +kernel
theorem dX13_foldRing_84 : decode cX13_foldRing 84 = .ok (.istore_n 3, 1) := by decide +kernel
theorem dX13_foldRing_85 : decode cX13_foldRing 85 = .ok (.iload_n 3, 1) := by decide +kernel
theorem dX13_foldRing_86 : decode cX13_foldRing 86 = .ok (.iload_n 1, 1) := by decide +kernel
theorem dX13_foldRing_87 : decode cX13_foldRing 87 = .ok (.if_icmp .ge 36, 3) := by decide +kernel
theorem dX13_foldRing_90 : decode cX13_foldRing 90 = .ok (.aload_n 0, 1) := by decide +kernel
theorem dX13_foldRing_91 : decode cX13_foldRing 91 = .ok (.bipush 32, 2) := by decide +kernel
theorem dX13_foldRing_93 : decode cX13_foldRing 93 = .ok (.iload_n 2, 1) := by decide +kernel
theorem dX13_foldRing_94 : decode cX13_foldRing 94 = .ok (.imul, 1) := by decide +kernel
theorem dX13_foldRing_95 : decode cX13_foldRing 95 = .ok (.iload_n 3, 1) := by decide +kernel
theorem dX13_foldRing_96 : decode cX13_foldRing 96 = .ok (.iadd, 1) := by decide +kernel
theorem dX13_foldRing_97 : decode cX13_foldRing 97 = .ok (.bipush 32, 2) := by decide +kernel
theorem dX13_foldRing_99 : decode cX13_foldRing 99 = .ok (.iload_n 2, 1) := by decide +kernel
theorem dX13_foldRing_100 : decode cX13_foldRing 100 = .ok (.imul, 1) := by decide +kernel
theorem dX13_foldRing_101 : decode cX13_foldRing 101 = .ok (.iload_n 1, 1) := by decide +kernel
theorem dX13_foldRing_102 : decode cX13_foldRing 102 = .ok (.iadd, 1) := by decide +kernel
theorem dX13_foldRing_103 : decode cX13_foldRing 103 = .ok (.bipush 32, 2) := by decide +kernel
theorem dX13_foldRing_105 : decode cX13_foldRing 105 = .ok (.iload_n 1, 1) := by decide +kernel
theorem dX13_foldRing_106 : decode cX13_foldRing 106 = .ok (.imul, 1) := by decide +kernel
theorem dX13_foldRing_107 : decode cX13_foldRing 107 = .ok (.iload_n 3, 1) := by decide +kernel
theorem dX13_foldRing_108 : decode cX13_foldRing 108 = .ok (.iadd, 1) := by decide +kernel
theorem dX13_foldRing_109 : decode cX13_foldRing 109 = .ok (.sipush 1056, 3) := by decide +kernel
theorem dX13_foldRing_112 : decode cX13_foldRing 112 = .ok (.iload_n 1, 1) := by decide +kernel
theorem dX13_foldRing_113 : decode cX13_foldRing 113 = .ok (.iadd, 1) := by decide +kernel
theorem dX13_foldRing_114 : decode cX13_foldRing 114 = .ok (.invokevirtual 765, 3) := by decide +kernel
theorem dX13_foldRing_117 : decode cX13_foldRing 117 = .ok (.iinc 3 1, 3) := by decide +kernel
theorem dX13_foldRing_120 : decode cX13_foldRing 120 = .ok (.goto (-35), 3) := by decide +kernel
theorem dX13_foldRing_123 : decode cX13_foldRing 123 = .ok (.aload_n 0, 1) := by decide +kernel
theorem dX13_foldRing_124 : decode cX13_foldRing 124 = .ok (.sipush 1024, 3) := by decide +kernel
theorem dX13_foldRing_127 : decode cX13_foldRing 127 = .ok (.iload_n 2, 1) := by decide +kernel
theorem dX13_foldRing_128 : decode cX13_foldRing 128 = .ok (.iadd, 1) := by decide +kernel
theorem dX13_foldRing_129 : decode cX13_foldRing 129 = .ok (.bipush 32, 2) := by decide +kernel
theorem dX13_foldRing_131 : decode cX13_foldRing 131 = .ok (.iload_n 2, 1) := by decide +kernel
theorem dX13_foldRing_132 : decode cX13_foldRing 132 = .ok (.imul, 1) := by decide +kernel
theorem dX13_foldRing_133 : decode cX13_foldRing 133 = .ok (.iload_n 1, 1) := by decide +kernel
theorem dX13_foldRing_134 : decode cX13_foldRing 134 = .ok (.iadd, 1) := by decide +kernel
theorem dX13_foldRing_135 : decode cX13_foldRing 135 = .ok (.sipush 1024, 3) := by decide +kernel
theorem dX13_foldRing_138 : decode cX13_foldRing 138 = .ok (.iload_n 1, 1) := by decide +kernel
theorem dX13_foldRing_139 : decode cX13_foldRing 139 = .ok (.iadd, 1) := by decide +kernel
theorem dX13_foldRing_140 : decode cX13_foldRing 140 = .ok (.sipush 1056, 3) := by decide +kernel
theorem dX13_foldRing_143 : decode cX13_foldRing 143 = .ok (.iload_n 1, 1) := by decide +kernel
theorem dX13_foldRing_144 : decode cX13_foldRing 144 = .ok (.iadd, 1) := by decide +kernel
theorem dX13_foldRing_145 : decode cX13_foldRing 145 = .ok (.invokevirtual 765, 3) := by decide +kernel
theorem dX13_foldRing_148 : decode cX13_foldRing 148 = .ok (.iinc 2 1, 3) := by decide +kernel
theorem dX13_foldRing_151 : decode cX13_foldRing 151 = .ok (.goto (-73), 3) := by decide +kernel
theorem dX13_foldRing_154 : decode cX13_foldRing 154 = .ok (.iinc 1 (-1), 3) := by decide +kernel
theorem dX13_foldRing_157 : decode cX13_foldRing 157 = .ok (.goto (-150), 3) := by decide +kernel
theorem dX13_foldRing_160 : decode cX13_foldRing 160 = .ok (.return_, 1) := by decide +kernel
def w_foldRing_85 (C : rCx) (Q : rS → Prop) (B7 : Int32 → rS → Prop) (B78 : Int32 → Int32 → rS → Prop) (a1 : Int32) (a2 : Int32) (a3 : Int32) (σ : rS) : Prop :=
  ∃ I : Nat → Int32 → Int32 → Int32 → rS → Prop, (∃ n, I n a1 a2 a3 σ) ∧ ∀ n a1 a2 a3 σ, I n a1 a2 a3 σ →
    (a1 ≤ a3 →
      cV C 5 m_addProduct [.ref (co C), .int ((1024 : Int32) + a2), .int (((32 : Int32) * a2) + a1), .int ((1024 : Int32) + a1), .int ((1056 : Int32) + a1)] σ (fun σ1 =>
        ∀ v2_3 : Int32, v2_3 = a2 + (1 : Int32) →
        B78 a1 v2_3 σ1)) ∧
    (¬ (a1 ≤ a3) →
      cV C 5 m_addProduct [.ref (co C), .int (((32 : Int32) * a2) + a3), .int (((32 : Int32) * a2) + a1), .int (((32 : Int32) * a1) + a3), .int ((1056 : Int32) + a1)] σ (fun σ4 =>
        ∀ v3_6 : Int32, v3_6 = a3 + (1 : Int32) →
        ∃ k < n, I k a1 a2 v3_6 σ4))
theorem t_foldRing_85 {C : rCx} (hC : cOK C) {Q : rS → Prop} {B7 : Int32 → rS → Prop} {B78 : Int32 → Int32 → rS → Prop} (hB7 : ∀ a1' τ, B7 a1' τ → wG C 6 m_foldRing 7 [some (.ref (co C)), some (.int a1'), none, none] [] τ (qV Q)) (hB78 : ∀ a1' a2' τ, B78 a1' a2' τ → wG C 6 m_foldRing 78 [some (.ref (co C)), some (.int a1'), some (.int a2'), none] [] τ (qV Q)) {a1 : Int32} {a2 : Int32} {a3 : Int32} {σ : rS} (F : w_foldRing_85 C Q B7 B78 a1 a2 a3 σ) : wG C 6 m_foldRing 85 [some (.ref (co C)), some (.int a1), some (.int a2), some (.int a3)] [] σ (qV Q) := by
  obtain ⟨I, ⟨n0, hI0⟩, F0⟩ := F
  have key : ∀ n a1 a2 a3 σ, I n a1 a2 a3 σ → wG C 6 m_foldRing 85 [some (.ref (co C)), some (.int a1), some (.int a2), some (.int a3)] [] σ (qV Q) := by
    intro n
    induction n using Nat.strongRecOn with
    | _ n ih =>
      intro a1 a2 a3 σ hI
      have F := F0 n a1 a2 a3 σ hI
      clear hI hI0
      refine s_iln dX13_foldRing_85 rfl ?_
      refine s_iln dX13_foldRing_86 rfl ?_
      refine s_ii (t := 123) (a1 ≤ a3) dX13_foldRing_87 rfl rfl (fun hc => ?_) (fun hc => ?_)
      · replace F := F.1 hc
        refine s_aln dX13_foldRing_123 rfl ?_
        refine s_si dX13_foldRing_124 ks_1024 ?_
        refine s_iln dX13_foldRing_127 rfl ?_
        refine s_iadd dX13_foldRing_128 ?_
        refine s_bi dX13_foldRing_129 kb_32 ?_
        refine s_iln dX13_foldRing_131 rfl ?_
        refine s_imul dX13_foldRing_132 ?_
        refine s_iln dX13_foldRing_133 rfl ?_
        refine s_iadd dX13_foldRing_134 ?_
        refine s_si dX13_foldRing_135 ks_1024 ?_
        refine s_iln dX13_foldRing_138 rfl ?_
        refine s_iadd dX13_foldRing_139 ?_
        refine s_si dX13_foldRing_140 ks_1056 ?_
        refine s_iln dX13_foldRing_143 rfl ?_
        refine s_iadd dX13_foldRing_144 ?_
        refine k_765 dX13_foldRing_145 rfl (Nat.le_of_ble_eq_true rfl) (Nat.le_of_ble_eq_true rfl) F (fun σ1 F => ?_)
        refine s_incb dX13_foldRing_148 ki_1 rfl (Nat.le_of_ble_eq_true rfl) (fun v2_3 ev2_3 => ?_)
        replace F := F v2_3 ev2_3
        show wG _ _ _ _ [some (.ref (co C)), some (.int a1), some (.int v2_3), some (.int a3)] _ _ _
        refine s_goto (t := 78) dX13_foldRing_151 rfl ?_
        exact s_k (hB78 _ _ _ F) ⟨rfl, rfl, rfl, trivial⟩
      · replace F := F.2 hc
        refine s_aln dX13_foldRing_90 rfl ?_
        refine s_bi dX13_foldRing_91 kb_32 ?_
        refine s_iln dX13_foldRing_93 rfl ?_
        refine s_imul dX13_foldRing_94 ?_
        refine s_iln dX13_foldRing_95 rfl ?_
        refine s_iadd dX13_foldRing_96 ?_
        refine s_bi dX13_foldRing_97 kb_32 ?_
        refine s_iln dX13_foldRing_99 rfl ?_
        refine s_imul dX13_foldRing_100 ?_
        refine s_iln dX13_foldRing_101 rfl ?_
        refine s_iadd dX13_foldRing_102 ?_
        refine s_bi dX13_foldRing_103 kb_32 ?_
        refine s_iln dX13_foldRing_105 rfl ?_
        refine s_imul dX13_foldRing_106 ?_
        refine s_iln dX13_foldRing_107 rfl ?_
        refine s_iadd dX13_foldRing_108 ?_
        refine s_si dX13_foldRing_109 ks_1056 ?_
        refine s_iln dX13_foldRing_112 rfl ?_
        refine s_iadd dX13_foldRing_113 ?_
        refine k_765 dX13_foldRing_114 rfl (Nat.le_of_ble_eq_true rfl) (Nat.le_of_ble_eq_true rfl) F (fun σ4 F => ?_)
        refine s_incb dX13_foldRing_117 ki_1 rfl (Nat.le_of_ble_eq_true rfl) (fun v3_6 ev3_6 => ?_)
        replace F := F v3_6 ev3_6
        show wG _ _ _ _ [some (.ref (co C)), some (.int a1), some (.int a2), some (.int v3_6)] _ _ _
        refine s_goto (t := 85) dX13_foldRing_120 rfl ?_
        obtain ⟨k, hk, hI⟩ := F
        exact s_k (ih k hk _ _ _ _ hI) ⟨rfl, rfl, rfl, rfl, trivial⟩
  exact key n0 a1 a2 a3 σ hI0

def w_foldRing_78 (C : rCx) (Q : rS → Prop) (B7 : Int32 → rS → Prop) (a1 : Int32) (a2 : Int32) (σ : rS) : Prop :=
  ∃ I : Nat → Int32 → Int32 → rS → Prop, (∃ n, I n a1 a2 σ) ∧ ∀ n a1 a2 σ, I n a1 a2 σ →
    (a1 ≤ a2 →
      ∀ v1_1 : Int32, v1_1 = a1 + (-1 : Int32) →
      B7 v1_1 σ) ∧
    (¬ (a1 ≤ a2) →
      w_foldRing_85 C Q B7 (fun a1' a2' τ => ∃ k < n, I k a1' a2' τ) a1 a2 (0 : Int32) σ)
theorem t_foldRing_78 {C : rCx} (hC : cOK C) {Q : rS → Prop} {B7 : Int32 → rS → Prop} (hB7 : ∀ a1' τ, B7 a1' τ → wG C 6 m_foldRing 7 [some (.ref (co C)), some (.int a1'), none, none] [] τ (qV Q)) {a1 : Int32} {a2 : Int32} {σ : rS} (F : w_foldRing_78 C Q B7 a1 a2 σ) : wG C 6 m_foldRing 78 [some (.ref (co C)), some (.int a1), some (.int a2), none] [] σ (qV Q) := by
  obtain ⟨I, ⟨n0, hI0⟩, F0⟩ := F
  have key : ∀ n a1 a2 σ, I n a1 a2 σ → wG C 6 m_foldRing 78 [some (.ref (co C)), some (.int a1), some (.int a2), none] [] σ (qV Q) := by
    intro n
    induction n using Nat.strongRecOn with
    | _ n ih =>
      intro a1 a2 σ hI
      have F := F0 n a1 a2 σ hI
      clear hI hI0
      refine s_iln dX13_foldRing_78 rfl ?_
      refine s_iln dX13_foldRing_79 rfl ?_
      refine s_ii (t := 154) (a1 ≤ a2) dX13_foldRing_80 rfl rfl (fun hc => ?_) (fun hc => ?_)
      · replace F := F.1 hc
        refine s_incb dX13_foldRing_154 ki_m1 rfl (Nat.le_of_ble_eq_true rfl) (fun v1_1 ev1_1 => ?_)
        replace F := F v1_1 ev1_1
        show wG _ _ _ _ [some (.ref (co C)), some (.int v1_1), some (.int a2), none] _ _ _
        refine s_goto (t := 7) dX13_foldRing_157 rfl ?_
        exact s_k (hB7 _ _ F) ⟨rfl, rfl, trivial⟩
      · replace F := F.2 hc
        refine s_ic dX13_foldRing_83 ki_0 ?_
        refine s_isn dX13_foldRing_84 (Nat.le_of_ble_eq_true rfl) rfl ?_
        show wG _ _ _ _ [some (.ref (co C)), some (.int a1), some (.int a2), some (.int (0 : Int32))] _ _ _
        exact s_k (t_foldRing_85 hC hB7 (fun a1' a2' τ hb => by obtain ⟨k, hk, hI⟩ := hb; exact ih k hk a1' a2' τ hI) F) ⟨rfl, rfl, rfl, rfl, trivial⟩
  exact key n0 a1 a2 σ hI0

def w_foldRing_35 (C : rCx) (Q : rS → Prop) (B7 : Int32 → rS → Prop) (a1 : Int32) (a2 : Int32) (σ : rS) : Prop :=
  ∃ I : Nat → Int32 → Int32 → rS → Prop, (∃ n, I n a1 a2 σ) ∧ ∀ n a1 a2 σ, I n a1 a2 σ →
    (a1 ≤ a2 →
      cV C 0 m_keepIn [.ref (co C), .int ((1056 : Int32) + a1), .int (4 : Int32), .int (5 : Int32)] σ (fun σ1 =>
        w_foldRing_78 C Q B7 a1 (0 : Int32) σ1)) ∧
    (¬ (a1 ≤ a2) →
      cV C 0 m_load [.ref (co C), .int (((32 : Int32) * a1) + a2), .int (6 : Int32), .int (7 : Int32)] σ (fun σ3 =>
        cV C 4 m_add [.ref (co C), .int (1 : Int32)] σ3 (fun σ5 =>
          ∀ v2_7 : Int32, v2_7 = a2 + (1 : Int32) →
          ∃ k < n, I k a1 v2_7 σ5)))
theorem t_foldRing_35 {C : rCx} (hC : cOK C) {Q : rS → Prop} {B7 : Int32 → rS → Prop} (hB7 : ∀ a1' τ, B7 a1' τ → wG C 6 m_foldRing 7 [some (.ref (co C)), some (.int a1'), none, none] [] τ (qV Q)) {a1 : Int32} {a2 : Int32} {σ : rS} (F : w_foldRing_35 C Q B7 a1 a2 σ) : wG C 6 m_foldRing 35 [some (.ref (co C)), some (.int a1), some (.int a2), none] [] σ (qV Q) := by
  obtain ⟨I, ⟨n0, hI0⟩, F0⟩ := F
  have key : ∀ n a1 a2 σ, I n a1 a2 σ → wG C 6 m_foldRing 35 [some (.ref (co C)), some (.int a1), some (.int a2), none] [] σ (qV Q) := by
    intro n
    induction n using Nat.strongRecOn with
    | _ n ih =>
      intro a1 a2 σ hI
      have F := F0 n a1 a2 σ hI
      clear hI hI0
      refine s_iln dX13_foldRing_35 rfl ?_
      refine s_iln dX13_foldRing_36 rfl ?_
      refine s_ii (t := 65) (a1 ≤ a2) dX13_foldRing_37 rfl rfl (fun hc => ?_) (fun hc => ?_)
      · replace F := F.1 hc
        refine s_aln dX13_foldRing_65 rfl ?_
        refine s_si dX13_foldRing_66 ks_1056 ?_
        refine s_iln dX13_foldRing_69 rfl ?_
        refine s_iadd dX13_foldRing_70 ?_
        refine s_ic dX13_foldRing_71 ki_4 ?_
        refine s_ic dX13_foldRing_72 ki_5 ?_
        refine k_730 dX13_foldRing_73 rfl (Nat.le_of_ble_eq_true rfl) (Nat.le_of_ble_eq_true rfl) F (fun σ1 F => ?_)
        refine s_ic dX13_foldRing_76 ki_0 ?_
        refine s_isn dX13_foldRing_77 (Nat.le_of_ble_eq_true rfl) rfl ?_
        show wG _ _ _ _ [some (.ref (co C)), some (.int a1), some (.int (0 : Int32)), none] _ _ _
        exact s_k (t_foldRing_78 hC hB7 F) ⟨rfl, rfl, rfl, trivial⟩
      · replace F := F.2 hc
        refine s_aln dX13_foldRing_40 rfl ?_
        refine s_bi dX13_foldRing_41 kb_32 ?_
        refine s_iln dX13_foldRing_43 rfl ?_
        refine s_imul dX13_foldRing_44 ?_
        refine s_iln dX13_foldRing_45 rfl ?_
        refine s_iadd dX13_foldRing_46 ?_
        refine s_bi dX13_foldRing_47 kb_6 ?_
        refine s_bi dX13_foldRing_49 kb_7 ?_
        refine k_724 dX13_foldRing_51 rfl (Nat.le_of_ble_eq_true rfl) (Nat.le_of_ble_eq_true rfl) F (fun σ3 F => ?_)
        refine s_aln dX13_foldRing_54 rfl ?_
        refine s_ic dX13_foldRing_55 ki_1 ?_
        refine k_727 dX13_foldRing_56 rfl (Nat.le_of_ble_eq_true rfl) (Nat.le_of_ble_eq_true rfl) F (fun σ5 F => ?_)
        refine s_incb dX13_foldRing_59 ki_1 rfl (Nat.le_of_ble_eq_true rfl) (fun v2_7 ev2_7 => ?_)
        replace F := F v2_7 ev2_7
        show wG _ _ _ _ [some (.ref (co C)), some (.int a1), some (.int v2_7), none] _ _ _
        refine s_goto (t := 35) dX13_foldRing_62 rfl ?_
        obtain ⟨k, hk, hI⟩ := F
        exact s_k (ih k hk _ _ _ hI) ⟨rfl, rfl, rfl, trivial⟩
  exact key n0 a1 a2 σ hI0

def w_foldRing_7 (C : rCx) (Q : rS → Prop)  (a1 : Int32) (σ : rS) : Prop :=
  ∃ I : Nat → Int32 → rS → Prop, (∃ n, I n a1 σ) ∧ ∀ n a1 σ, I n a1 σ →
    (a1 < 0 →
      Q σ) ∧
    (¬ (a1 < 0) →
      cV C 1 m_clearSum [.ref (co C)] σ (fun σ1 =>
        cV C 0 m_load [.ref (co C), .int ((1024 : Int32) + a1), .int (6 : Int32), .int (7 : Int32)] σ1 (fun σ3 =>
          cV C 4 m_add [.ref (co C), .int (1 : Int32)] σ3 (fun σ5 =>
            w_foldRing_35 C Q (fun a1' τ => ∃ k < n, I k a1' τ) a1 (0 : Int32) σ5))))
theorem t_foldRing_7 {C : rCx} (hC : cOK C) {Q : rS → Prop}   {a1 : Int32} {σ : rS} (F : w_foldRing_7 C Q  a1 σ) : wG C 6 m_foldRing 7 [some (.ref (co C)), some (.int a1), none, none] [] σ (qV Q) := by
  obtain ⟨I, ⟨n0, hI0⟩, F0⟩ := F
  have key : ∀ n a1 σ, I n a1 σ → wG C 6 m_foldRing 7 [some (.ref (co C)), some (.int a1), none, none] [] σ (qV Q) := by
    intro n
    induction n using Nat.strongRecOn with
    | _ n ih =>
      intro a1 σ hI
      have F := F0 n a1 σ hI
      clear hI hI0
      refine s_iln dX13_foldRing_7 rfl ?_
      refine s_i (t := 160) (a1 < 0) dX13_foldRing_8 rfl rfl (fun hc => ?_) (fun hc => ?_)
      · replace F := F.1 hc
        exact s_rv dX13_foldRing_160 rfl F
      · replace F := F.2 hc
        refine s_aln dX13_foldRing_11 rfl ?_
        refine k_762 dX13_foldRing_12 rfl (Nat.le_of_ble_eq_true rfl) (Nat.le_of_ble_eq_true rfl) F (fun σ1 F => ?_)
        refine s_aln dX13_foldRing_15 rfl ?_
        refine s_si dX13_foldRing_16 ks_1024 ?_
        refine s_iln dX13_foldRing_19 rfl ?_
        refine s_iadd dX13_foldRing_20 ?_
        refine s_bi dX13_foldRing_21 kb_6 ?_
        refine s_bi dX13_foldRing_23 kb_7 ?_
        refine k_724 dX13_foldRing_25 rfl (Nat.le_of_ble_eq_true rfl) (Nat.le_of_ble_eq_true rfl) F (fun σ3 F => ?_)
        refine s_aln dX13_foldRing_28 rfl ?_
        refine s_ic dX13_foldRing_29 ki_1 ?_
        refine k_727 dX13_foldRing_30 rfl (Nat.le_of_ble_eq_true rfl) (Nat.le_of_ble_eq_true rfl) F (fun σ5 F => ?_)
        refine s_ic dX13_foldRing_33 ki_0 ?_
        refine s_isn dX13_foldRing_34 (Nat.le_of_ble_eq_true rfl) rfl ?_
        show wG _ _ _ _ [some (.ref (co C)), some (.int a1), some (.int (0 : Int32)), none] _ _ _
        exact s_k (t_foldRing_35 hC (fun a1' τ hb => by obtain ⟨k, hk, hI⟩ := hb; exact ih k hk a1' τ hI) F) ⟨rfl, rfl, rfl, trivial⟩
  exact key n0 a1 σ hI0

def w_foldRing_0 (C : rCx) (Q : rS → Prop)   (σ : rS) : Prop :=
  ∀ v1_1 : Int32, v1_1 = ((σ.1 100) - (1 : Int32)) →
  w_foldRing_7 C Q  v1_1 σ
theorem t_foldRing_0 {C : rCx} (hC : cOK C) {Q : rS → Prop}    {σ : rS} (F : w_foldRing_0 C Q   σ) : wG C 6 m_foldRing 0 [some (.ref (co C)), none, none, none] [] σ (qV Q) := by
  unfold w_foldRing_0 at F
  refine s_aln dX13_foldRing_0 rfl ?_
  refine gf_755 dX13_foldRing_1 rfl ?_
  refine s_ic dX13_foldRing_4 ki_1 ?_
  refine s_isub dX13_foldRing_5 ?_
  refine s_isnb dX13_foldRing_6 (Nat.le_of_ble_eq_true rfl) (fun v1_1 ev1_1 => ?_)
  replace F := F v1_1 ev1_1
  show wG _ _ _ _ [some (.ref (co C)), some (.int v1_1), none, none] _ _ _
  exact s_k (t_foldRing_7 hC  F) ⟨rfl, rfl, trivial⟩

theorem m_foldRing_run {C : rCx} (hC : cOK C) {Q : rS → Prop}  {σ : rS} (F : w_foldRing_0 C Q  σ) : cV C 6 m_foldRing [.ref (co C)] σ Q := m_V (m_ent _ 3) (t_foldRing_0 hC F)

