/-! methods of the reference: close, due, isSame, isTold, variableOf, arrayOf, functionOf, fresh, tellVar, tellArr, openBlock -/
theorem dX13_close_0 : decode cX13_close 0 = .ok (.aload_n 0, 1) := by decide +kernel
theorem dX13_close_1 : decode cX13_close 1 = .ok (.dup, 1) := by decide +kernel
theorem dX13_close_2 : decode cX13_close 2 = .ok (.getfield 322, 3) := by decide +kernel
theorem dX13_close_5 : decode cX13_close 5 = .ok (.aload_n 0, 1) := by decide +kernel
theorem dX13_close_6 : decode cX13_close 6 = .ok (.iload_n 1, 1) := by decide +kernel
theorem dX13_close_7 : decode cX13_close 7 = .ok (.invokevirtual 316, 3) := by decide +kernel
theorem dX13_close_10 : decode cX13_close 10 = .ok (.ifCond .eq 7, 3) := by decide +kernel
theorem dX13_close_13 : decode cX13_close 13 = .ok (.iconst 1, 1) := by decide +kernel
theorem dX13_close_14 : decode cX13_close 14 = .ok (.goto 4, 3) := by decide +kernel
theorem dX13_close_17 : decode cX13_close 17 = .ok (.iconst 0, 1) := by decide +kernel
theorem dX13_close_18 : decode cX13_close 18 = .ok (.isub, 1) := by decide +kernel
theorem dX13_close_19 : decode cX13_close 19 = .ok (.putfield 322, 3) := by decide +kernel
theorem dX13_close_22 : decode cX13_close 22 = .ok (.aload_n 0, 1) := by decide +kernel
theorem dX13_close_23 : decode cX13_close 23 = .ok (.iload_n 1, 1) := by decide +kernel
theorem dX13_close_24 : decode cX13_close 24 = .ok (.invokevirtual 329, 3) := by decide +kernel
theorem dX13_close_27 : decode cX13_close 27 = .ok (.return_, 1) := by decide +kernel
def w_close_18 (C : rCx) (Q : rS → Prop)  (a1 : Int32) (s1 : Int32) (s2 : Int32) (σ : rS) : Prop :=
  ∀ σ1, σ1 = siU σ 13 (s1 - s2) →
  cV C 3 m_sign [.ref (co C), .int a1] σ1 (fun σ2 =>
    Q σ2)
theorem t_close_18 {C : rCx} (hC : cOK C) {Q : rS → Prop}   {a1 : Int32} {s1 : Int32} {s2 : Int32} {σ : rS} (F : w_close_18 C Q  a1 s1 s2 σ) : wG C 4 m_close 18 [some (.ref (co C)), some (.int a1)] [.int s2, .int s1, .ref (co C)] σ (qV Q) := by
  unfold w_close_18 at F
  refine s_isub dX13_close_18 ?_
  refine pf_322 hC dX13_close_19 rfl (fun σ1 eσ1 => ?_)
  replace F := F σ1 eσ1
  refine s_aln dX13_close_22 rfl ?_
  refine s_iln dX13_close_23 rfl ?_
  refine k_329 dX13_close_24 rfl (Nat.le_of_ble_eq_true rfl) (Nat.le_of_ble_eq_true rfl) F (fun σ2 F => ?_)
  exact s_rv dX13_close_27 rfl F

def w_close_0 (C : rCx) (Q : rS → Prop)  (a1 : Int32) (σ : rS) : Prop :=
  cI C 0 m_isAt [.ref (co C), .int a1] σ (fun r2 σ1 =>
    (r2 = 0 →
      w_close_18 C Q  a1 (σ.1 13) (0 : Int32) σ1) ∧
    (¬ (r2 = 0) →
      w_close_18 C Q  a1 (σ.1 13) (1 : Int32) σ1))
theorem t_close_0 {C : rCx} (hC : cOK C) {Q : rS → Prop}   {a1 : Int32} {σ : rS} (F : w_close_0 C Q  a1 σ) : wG C 4 m_close 0 [some (.ref (co C)), some (.int a1)] [] σ (qV Q) := by
  unfold w_close_0 at F
  refine s_aln dX13_close_0 rfl ?_
  refine s_dup dX13_close_1 rfl ?_
  refine gf_322 dX13_close_2 rfl ?_
  refine s_aln dX13_close_5 rfl ?_
  refine s_iln dX13_close_6 rfl ?_
  refine k_316 dX13_close_7 rfl (Nat.le_of_ble_eq_true rfl) (Nat.le_of_ble_eq_true rfl) F (fun r2 σ1 F => ?_)
  refine s_i (t := 17) (r2 = 0) dX13_close_10 rfl rfl (fun hc => ?_) (fun hc => ?_)
  · replace F := F.1 hc
    refine s_ic dX13_close_17 ki_0 ?_
    exact s_k (t_close_18 hC  F) ⟨rfl, rfl, trivial⟩
  · replace F := F.2 hc
    refine s_ic dX13_close_13 ki_1 ?_
    refine s_goto (t := 18) dX13_close_14 rfl ?_
    exact s_k (t_close_18 hC  F) ⟨rfl, rfl, trivial⟩

theorem m_close_run {C : rCx} (hC : cOK C) {Q : rS → Prop} {a1 : Int32} {σ : rS} (F : w_close_0 C Q a1 σ) : cV C 4 m_close [.ref (co C), .int a1] σ Q := m_V (m_ent _ 0) (t_close_0 hC F)

theorem dX13_due_0 : decode cX13_due 0 = .ok (.aload_n 0, 1) := by decide +kernel
theorem dX13_due_1 : decode cX13_due 1 = .ok (.getfield 19, 3) := by decide +kernel
theorem dX13_due_4 : decode cX13_due 4 = .ok (.aload_n 0, 1) := by decide +kernel
theorem dX13_due_5 : decode cX13_due 5 = .ok (.getfield 306, 3) := by decide +kernel
theorem dX13_due_8 : decode cX13_due 8 = .ok (.baload, 1) := by decide +kernel
theorem dX13_due_9 : decode cX13_due 9 = .ok (.iload_n 1, 1) := by decide +kernel
theorem dX13_due_10 : decode cX13_due 10 = .ok (.if_icmp .eq 12, 3) := by decide +kernel
theorem dX13_due_13 : decode cX13_due 13 = .ok (.aload_n 0, 1) := by decide +kernel
theorem dX13_due_14 : decode cX13_due 14 = .ok (.iconst 2, 1) := by decide +kernel
theorem dX13_due_15 : decode cX13_due 15 = .ok (.aload_n 0, 1) := by decide +kernel
theorem dX13_due_16 : decode cX13_due 16 = .ok (.getfield 306, 3) := by decide +kernel
theorem dX13_due_19 : decode cX13_due 19 = .ok (.invokevirtual 312, 3) := by decide +kernel
theorem dX13_due_22 : decode cX13_due 22 = .ok (.aload_n 0, 1) := by decide +kernel
theorem dX13_due_23 : decode cX13_due 23 = .ok (.getfield 306, 3) := by decide +kernel
theorem dX13_due_26 : decode cX13_due 26 = .ok (.ireturn, 1) := by decide +kernel
def w_due_0 (C : rCx) (Q : Int32 → rS → Prop)  (a1 : Int32) (σ : rS) : Prop :=
  inb (σ.1 10) 131074 ∧
  ((σ.2.2.1 5 ((σ.1 10)).toNatClampNeg) = a1 →
    Q (σ.1 10) σ) ∧
  (¬ ((σ.2.2.1 5 ((σ.1 10)).toNatClampNeg) = a1) →
    cV C 0 m_flaw [.ref (co C), .int (2 : Int32), .int (σ.1 10)] σ (fun σ1 =>
      Q (σ1.1 10) σ1))
theorem t_due_0 {C : rCx} (hC : cOK C) {Q : Int32 → rS → Prop}   {a1 : Int32} {σ : rS} (F : w_due_0 C Q  a1 σ) : wG C 1 m_due 0 [some (.ref (co C)), some (.int a1)] [] σ (qI Q) := by
  unfold w_due_0 at F
  refine s_aln dX13_due_0 rfl ?_
  refine gf_19 dX13_due_1 rfl ?_
  refine s_aln dX13_due_4 rfl ?_
  refine gf_306 dX13_due_5 rfl ?_
  refine s_bld hC dX13_due_8 rt_5 F.1 ?_
  replace F := F.2
  refine s_iln dX13_due_9 rfl ?_
  refine s_ii (t := 22) ((σ.2.2.1 5 ((σ.1 10)).toNatClampNeg) = a1) dX13_due_10 rfl rfl (fun hc => ?_) (fun hc => ?_)
  · replace F := F.1 hc
    refine s_aln dX13_due_22 rfl ?_
    refine gf_306 dX13_due_23 rfl ?_
    exact s_ri dX13_due_26 rfl in_nar F
  · replace F := F.2 hc
    refine s_aln dX13_due_13 rfl ?_
    refine s_ic dX13_due_14 ki_2 ?_
    refine s_aln dX13_due_15 rfl ?_
    refine gf_306 dX13_due_16 rfl ?_
    refine k_312 dX13_due_19 rfl (Nat.le_of_ble_eq_true rfl) (Nat.le_of_ble_eq_true rfl) F (fun σ1 F => ?_)
    refine s_aln dX13_due_22 rfl ?_
    refine gf_306 dX13_due_23 rfl ?_
    exact s_ri dX13_due_26 rfl in_nar F

theorem m_due_run {C : rCx} (hC : cOK C) {Q : Int32 → rS → Prop} {a1 : Int32} {σ : rS} (F : w_due_0 C Q a1 σ) : cI C 1 m_due [.ref (co C), .int a1] σ Q := m_I (m_ent _ 0) (t_due_0 hC F)

theorem dX13_isSame_0 : decode cX13_isSame 0 = .ok (.aload_n 0, 1) := by decide +kernel
theorem dX13_isSame_1 : decode cX13_isSame 1 = .ok (.getfield 29, 3) := by decide +kernel
theorem dX13_isSame_4 : decode cX13_isSame 4 = .ok (.iload_n 1, 1) := by decide +kernel
theorem dX13_isSame_5 : decode cX13_isSame 5 = .ok (.laload, 1) := by decide +kernel
theorem dX13_isSame_6 : decode cX13_isSame 6 = .ok (.aload_n 0, 1) := by decide +kernel
theorem dX13_isSame_7 : decode cX13_isSame 7 = .ok (.getfield 29, 3) := by decide +kernel
theorem dX13_isSame_10 : decode cX13_isSame 10 = .ok (.iload_n 2, 1) := by decide +kernel
theorem dX13_isSame_11 : decode cX13_isSame 11 = .ok (.laload, 1) := by decide +kernel
theorem dX13_isSame_12 : decode cX13_isSame 12 = .ok (.lcmp, 1) := by decide +kernel
theorem dX13_isSame_13 : decode cX13_isSame 13 = .ok (.ifCond .ne 22, 3) := by decide +kernel
theorem dX13_isSame_16 : decode cX13_isSame 16 = .ok (.aload_n 0, 1) := by decide +kernel
theorem dX13_isSame_17 : decode cX13_isSame 17 = .ok (.getfield 33, 3) := by decide +kernel
theorem dX13_isSame_20 : decode cX13_isSame 20 = .ok (.iload_n 1, 1) := by decide +kernel
theorem dX13_isSame_21 : decode cX13_isSame 21 = .ok (.iaload, 1) := by decide +kernel
theorem dX13_isSame_22 : decode cX13_isSame 22 = .ok (.aload_n 0, 1) := by decide +kernel
theorem dX13_isSame_23 : decode cX13_isSame 23 = .ok (.getfield 33, 3) := by decide +kernel
theorem dX13_isSame_26 : decode cX13_isSame 26 = .ok (.iload_n 2, 1) := by decide +kernel
theorem dX13_isSame_27 : decode cX13_isSame 27 = .ok (.iaload, 1) := by decide +kernel
theorem dX13_isSame_28 : decode cX13_isSame 28 = .ok (.if_icmp .ne 7, 3) := by decide +kernel
theorem dX13_isSame_31 : decode cX13_isSame 31 = .ok (.iconst 1, 1) := by decide +kernel
theorem dX13_isSame_32 : decode cX13_isSame 32 = .ok (.goto 4, 3) := by decide +kernel
theorem dX13_isSame_35 : decode cX13_isSame 35 = .ok (.iconst 0, 1) := by decide +kernel
theorem dX13_isSame_36 : decode cX13_isSame 36 = .ok (.ireturn, 1) := by decide +kernel
def w_isSame_0 (C : rCx) (Q : Int32 → rS → Prop)  (a1 : Int32) (a2 : Int32) (σ : rS) : Prop :=
  inb a1 131074 ∧
  inb a2 131074 ∧
  (¬ ((lg_cmp (σ.2.2.2 8 (a1).toNatClampNeg) (σ.2.2.2 8 (a2).toNatClampNeg)) = 0) →
    Q (0 : Int32) σ) ∧
  ((lg_cmp (σ.2.2.2 8 (a1).toNatClampNeg) (σ.2.2.2 8 (a2).toNatClampNeg)) = 0 →
    inb a1 131074 ∧
    inb a2 131074 ∧
    (¬ ((σ.2.2.1 9 (a1).toNatClampNeg) = (σ.2.2.1 9 (a2).toNatClampNeg)) →
      Q (0 : Int32) σ) ∧
    ((σ.2.2.1 9 (a1).toNatClampNeg) = (σ.2.2.1 9 (a2).toNatClampNeg) →
      Q (1 : Int32) σ))
theorem t_isSame_0 {C : rCx} (hC : cOK C) {Q : Int32 → rS → Prop}   {a1 : Int32} {a2 : Int32} {σ : rS} (F : w_isSame_0 C Q  a1 a2 σ) : wG C 0 m_isSame 0 [some (.ref (co C)), some (.int a1), some (.int a2)] [] σ (qI Q) := by
  unfold w_isSame_0 at F
  refine s_aln dX13_isSame_0 rfl ?_
  refine gf_29 dX13_isSame_1 rfl ?_
  refine s_iln dX13_isSame_4 rfl ?_
  refine s_lld hC dX13_isSame_5 rt_8 F.1 ?_
  replace F := F.2
  refine s_aln dX13_isSame_6 rfl ?_
  refine gf_29 dX13_isSame_7 rfl ?_
  refine s_iln dX13_isSame_10 rfl ?_
  refine s_lld hC dX13_isSame_11 rt_8 F.1 ?_
  replace F := F.2
  refine s_lcmp dX13_isSame_12 ?_
  refine s_in (t := 35) ((lg_cmp (σ.2.2.2 8 (a1).toNatClampNeg) (σ.2.2.2 8 (a2).toNatClampNeg)) = 0) dX13_isSame_13 rfl rfl (fun hc => ?_) (fun hc => ?_)
  · replace F := F.1 hc
    refine s_ic dX13_isSame_35 ki_0 ?_
    exact s_ri dX13_isSame_36 rfl (nb_nar nb_0) F
  · replace F := F.2 hc
    refine s_aln dX13_isSame_16 rfl ?_
    refine gf_33 dX13_isSame_17 rfl ?_
    refine s_iln dX13_isSame_20 rfl ?_
    refine s_ald hC dX13_isSame_21 rt_9 F.1 ?_
    replace F := F.2
    refine s_aln dX13_isSame_22 rfl ?_
    refine gf_33 dX13_isSame_23 rfl ?_
    refine s_iln dX13_isSame_26 rfl ?_
    refine s_ald hC dX13_isSame_27 rt_9 F.1 ?_
    replace F := F.2
    refine s_iin (t := 35) ((σ.2.2.1 9 (a1).toNatClampNeg) = (σ.2.2.1 9 (a2).toNatClampNeg)) dX13_isSame_28 rfl rfl (fun hc => ?_) (fun hc => ?_)
    · replace F := F.1 hc
      refine s_ic dX13_isSame_35 ki_0 ?_
      exact s_ri dX13_isSame_36 rfl (nb_nar nb_0) F
    · replace F := F.2 hc
      refine s_ic dX13_isSame_31 ki_1 ?_
      refine s_goto (t := 36) dX13_isSame_32 rfl ?_
      exact s_ri dX13_isSame_36 rfl (nb_nar nb_1) F

theorem m_isSame_run {C : rCx} (hC : cOK C) {Q : Int32 → rS → Prop} {a1 : Int32} {a2 : Int32} {σ : rS} (F : w_isSame_0 C Q a1 a2 σ) : cI C 0 m_isSame [.ref (co C), .int a1, .int a2] σ Q := m_I (m_ent _ 0) (t_isSame_0 hC F)

theorem dX13_isTold_0 : decode cX13_isTold 0 = .ok (.iconst 0, 1) := by decide +kernel
theorem dX13_isTold_1 : decode cX13_isTold 1 = .ok (.istore_n 2, 1) := by decide +kernel
theorem dX13_isTold_2 : decode cX13_isTold 2 = .ok (.iconst 0, 1) := by decide +kernel
theorem dX13_isTold_3 : decode cX13_isTold 3 = .ok (.istore_n 3, 1) := by decide +kernel
theorem dX13_isTold_4 : decode cX13_isTold 4 = .ok (.iload_n 3, 1) := by decide +kernel
theorem dX13_isTold_5 : decode cX13_isTold 5 = .ok (.aload_n 0, 1) := by decide +kernel
theorem dX13_isTold_6 : decode cX13_isTold 6 = .ok (.getfield 333, 3) := by decide +kernel
theorem dX13_isTold_9 : decode cX13_isTold 9 = .ok (.if_icmp .ge 33, 3) := by decide +kernel
theorem dX13_isTold_12 : decode cX13_isTold 12 = .ok (.iload_n 2, 1) := by decide +kernel
theorem dX13_isTold_13 : decode cX13_isTold 13 = .ok (.ifCond .ne 17, 3) := by decide +kernel
theorem dX13_isTold_16 : decode cX13_isTold 16 = .ok (.aload_n 0, 1) := by decide +kernel
theorem dX13_isTold_17 : decode cX13_isTold 17 = .ok (.aload_n 0, 1) := by decide +kernel
theorem dX13_isTold_18 : decode cX13_isTold 18 = .ok (.getfield 36, 3) := by decide +kernel
theorem dX13_isTold_21 : decode cX13_isTold 21 = .ok (.iload_n 3, 1) := by decide +kernel
theorem dX13_isTold_22 : decode cX13_isTold 22 = .ok (.iaload, 1) := by decide +kernel
theorem dX13_isTold_23 : decode cX13_isTold 23 = .ok (.iload_n 1, 1) := by decide +kernel
theorem dX13_isTold_24 : decode cX13_isTold 24 = .ok (.invokevirtual 336, 3) := by decide +kernel
theorem dX13_isTold_27 : decode cX13_isTold 27 = .ok (.ifCond .eq 7, 3) := by decide +kernel
theorem dX13_isTold_30 : decode cX13_isTold 30 = .ok (.iconst 1, 1) := by decide +kernel
theorem dX13_isTold_31 : decode cX13_isTold 31 = .ok (.goto 4, 3) := by decide +kernel
theorem dX13_isTold_34 : decode cX13_isTold 34 = .ok (.iconst 0, 1) := by decide +kernel
theorem dX13_isTold_35 : decode cX13_isTold 35 = .ok (.istore_n 2, 1) := by decide +kernel
theorem dX13_isTold_36 : decode cX13_isTold 36 = .ok (.iinc 3 1, 3) := by decide +kernel
theorem dX13_isTold_39 : decode cX13_isTold 39 = .ok (.goto (-35), 3) := by decide +kernel
theorem dX13_isTold_42 : decode cX13_isTold 42 = .ok (.iconst 0, 1) := by decide +kernel
theorem dX13_isTold_43 : decode cX13_isTold 43 = .ok (.istore_n 3, 1) := by decide +kernel
theorem dX13_isTold_44 : decode cX13_isTold 44 = .ok (.iload_n 3, 1) := by decide +kernel
theorem dX13_isTold_45 : decode cX13_isTold 45 = .ok (.aload_n 0, 1) := by decide +kernel
theorem dX13_isTold_46 : decode cX13_isTold 46 = .ok (.getfield 340, 3) := by decide +kernel
theorem dX13_isTold_49 : decode cX13_isTold 49 = .ok (.if_icmp .ge 33, 3) := by decide +kernel
theorem dX13_isTold_52 : decode cX13_isTold 52 = .ok (.iload_n 2, 1) := by decide +kernel
theorem dX13_isTold_53 : decode cX13_isTold 53 = .ok (.ifCond .ne 17, 3) := by decide +kernel
theorem dX13_isTold_56 : decode cX13_isTold 56 = .ok (.aload_n 0, 1) := by decide +kernel
theorem dX13_isTold_57 : decode cX13_isTold 57 = .ok (.aload_n 0, 1) := by decide +kernel
theorem dX13_isTold_58 : decode cX13_isTold 58 = .ok (.getfield 42, 3) := by decide +kernel
theorem dX13_isTold_61 : decode cX13_isTold 61 = .ok (.iload_n 3, 1) := by decide +kernel
theorem dX13_isTold_62 : decode cX13_isTold 62 = .ok (.iaload, 1) := by decide +kernel
theorem dX13_isTold_63 : decode cX13_isTold 63 = .ok (.iload_n 1, 1) := by decide +kernel
theorem dX13_isTold_64 : decode cX13_isTold 64 = .ok (.invokevirtual 336, 3) := by decide +kernel
theorem dX13_isTold_67 : decode cX13_isTold 67 = .ok (.ifCond .eq 7, 3) := by decide +kernel
theorem dX13_isTold_70 : decode cX13_isTold 70 = .ok (.iconst 1, 1) := by decide +kernel
theorem dX13_isTold_71 : decode cX13_isTold 71 = .ok (.goto 4, 3) := by decide +kernel
theorem dX13_isTold_74 : decode cX13_isTold 74 = .ok (.iconst 0, 1) := by decide +kernel
theorem dX13_isTold_75 : decode cX13_isTold 75 = .ok (.istore_n 2, 1) := by decide +kernel
theorem dX13_isTold_76 : decode cX13_isTold 76 = .ok (.iinc 3 1, 3) := by decide +kernel
theorem dX13_isTold_79 : decode cX13_isTold 79 = .ok (.goto (-35), 3) := by decide +kernel
theorem dX13_isTold_82 : decode cX13_isTold 82 = .ok (.iconst 0, 1) := by decide +kernel
theorem dX13_isTold_83 : decode cX13_isTold 83 = .ok (.istore_n 3, 1) := by decide +kernel
theorem dX13_isTold_84 : decode cX13_isTold 84 = .ok (.iload_n 3, 1) := by decide +kernel
theorem dX13_isTold_85 : decode cX13_isTold 85 = .ok (.aload_n 0, 1) := by decide +kernel
theorem dX13_isTold_86 : decode cX13_isTold 86 = .ok (.getfield 343, 3) := by decide +kernel
theorem dX13_isTold_89 : decode cX13_isTold 89 = .ok (.if_icmp .ge 33, 3) := by decide +kernel
theorem dX13_isTold_92 : decode cX13_isTold 92 = .ok (.iload_n 2, 1) := by decide +kernel
theorem dX13_isTold_93 : decode cX13_isTold 93 = .ok (.ifCond .ne 17, 3) := by decide +kernel
theorem dX13_isTold_96 : decode cX13_isTold 96 = .ok (.aload_n 0, 1) := by decide +kernel
theorem dX13_isTold_97 : decode cX13_isTold 97 = .ok (.aload_n 0, 1) := by decide +kernel
theorem dX13_isTold_98 : decode cX13_isTold 98 = .ok (.getfield 51, 3) := by decide +kernel
theorem dX13_isTold_101 : decode cX13_isTold 101 = .ok (.iload_n 3, 1) := by decide +kernel
theorem dX13_isTold_102 : decode cX13_isTold 102 = .ok (.iaload, 1) := by decide +kernel
theorem dX13_isTold_103 : decode cX13_isTold 103 = .ok (.iload_n 1, 1) := by decide +kernel
theorem dX13_isTold_104 : decode cX13_isTold 104 = .ok (.invokevirtual 336, 3) := by decide +kernel
theorem dX13_isTold_107 : decode cX13_isTold 107 = .ok (.ifCond .eq 7, 3) := by decide +kernel
theorem dX13_isTold_110 : decode cX13_isTold 110 = .ok (.iconst 1, 1) := by decide +kernel
theorem dX13_isTold_111 : decode cX13_isTold 111 = .ok (.goto 4, 3) := by decide +kernel
theorem dX13_isTold_114 : decode cX13_isTold 114 = .ok (.iconst 0, 1) := by decide +kernel
theorem dX13_isTold_115 : decode cX13_isTold 115 = .ok (.istore_n 2, 1) := by decide +kernel
theorem dX13_isTold_116 : decode cX13_isTold 116 = .ok (.iinc 3 1, 3) := by decide +kernel
theorem dX13_isTold_119 : decode cX13_isTold 119 = .ok (.goto (-35), 3) := by decide +kernel
theorem dX13_isTold_122 : decode cX13_isTold 122 = .ok (.iload_n 2, 1) := by decide +kernel
theorem dX13_isTold_123 : decode cX13_isTold 123 = .ok (.ireturn, 1) := by decide +kernel
def w_isTold_35 (C : rCx) (Q : Int32 → rS → Prop) (B4 : Int32 → Int32 → Int32 → rS → Prop) (a1 : Int32) (a3 : Int32) (s0 : Int32) (σ : rS) : Prop :=
  ∀ v3_1 : Int32, v3_1 = a3 + (1 : Int32) →
  B4 a1 s0 v3_1 σ
theorem t_isTold_35 {C : rCx} (hC : cOK C) {Q : Int32 → rS → Prop} {B4 : Int32 → Int32 → Int32 → rS → Prop} (hB4 : ∀ a1' a2' a3' τ, B4 a1' a2' a3' τ → wG C 1 m_isTold 4 [some (.ref (co C)), some (.int a1'), some (.int a2'), some (.int a3')] [] τ (qI Q)) {a1 : Int32} {a3 : Int32} {s0 : Int32} {σ : rS} (F : w_isTold_35 C Q B4 a1 a3 s0 σ) : wG C 1 m_isTold 35 [some (.ref (co C)), some (.int a1), none, some (.int a3)] [.int s0] σ (qI Q) := by
  unfold w_isTold_35 at F
  refine s_isn dX13_isTold_35 (Nat.le_of_ble_eq_true rfl) rfl ?_
  refine s_incb dX13_isTold_36 ki_1 rfl (Nat.le_of_ble_eq_true rfl) (fun v3_1 ev3_1 => ?_)
  replace F := F v3_1 ev3_1
  refine s_goto (t := 4) dX13_isTold_39 rfl ?_
  exact s_k (hB4 _ _ _ _ F) ⟨rfl, rfl, rfl, rfl, trivial⟩

def w_isTold_75 (C : rCx) (Q : Int32 → rS → Prop) (B44 : Int32 → Int32 → Int32 → rS → Prop) (a1 : Int32) (a3 : Int32) (s0 : Int32) (σ : rS) : Prop :=
  ∀ v3_1 : Int32, v3_1 = a3 + (1 : Int32) →
  B44 a1 s0 v3_1 σ
theorem t_isTold_75 {C : rCx} (hC : cOK C) {Q : Int32 → rS → Prop} {B44 : Int32 → Int32 → Int32 → rS → Prop} (hB44 : ∀ a1' a2' a3' τ, B44 a1' a2' a3' τ → wG C 1 m_isTold 44 [some (.ref (co C)), some (.int a1'), some (.int a2'), some (.int a3')] [] τ (qI Q)) {a1 : Int32} {a3 : Int32} {s0 : Int32} {σ : rS} (F : w_isTold_75 C Q B44 a1 a3 s0 σ) : wG C 1 m_isTold 75 [some (.ref (co C)), some (.int a1), none, some (.int a3)] [.int s0] σ (qI Q) := by
  unfold w_isTold_75 at F
  refine s_isn dX13_isTold_75 (Nat.le_of_ble_eq_true rfl) rfl ?_
  refine s_incb dX13_isTold_76 ki_1 rfl (Nat.le_of_ble_eq_true rfl) (fun v3_1 ev3_1 => ?_)
  replace F := F v3_1 ev3_1
  refine s_goto (t := 44) dX13_isTold_79 rfl ?_
  exact s_k (hB44 _ _ _ _ F) ⟨rfl, rfl, rfl, rfl, trivial⟩

def w_isTold_115 (C : rCx) (Q : Int32 → rS → Prop) (B84 : Int32 → Int32 → Int32 → rS → Prop) (a1 : Int32) (a3 : Int32) (s0 : Int32) (σ : rS) : Prop :=
  ∀ v3_1 : Int32, v3_1 = a3 + (1 : Int32) →
  B84 a1 s0 v3_1 σ
theorem t_isTold_115 {C : rCx} (hC : cOK C) {Q : Int32 → rS → Prop} {B84 : Int32 → Int32 → Int32 → rS → Prop} (hB84 : ∀ a1' a2' a3' τ, B84 a1' a2' a3' τ → wG C 1 m_isTold 84 [some (.ref (co C)), some (.int a1'), some (.int a2'), some (.int a3')] [] τ (qI Q)) {a1 : Int32} {a3 : Int32} {s0 : Int32} {σ : rS} (F : w_isTold_115 C Q B84 a1 a3 s0 σ) : wG C 1 m_isTold 115 [some (.ref (co C)), some (.int a1), none, some (.int a3)] [.int s0] σ (qI Q) := by
  unfold w_isTold_115 at F
  refine s_isn dX13_isTold_115 (Nat.le_of_ble_eq_true rfl) rfl ?_
  refine s_incb dX13_isTold_116 ki_1 rfl (Nat.le_of_ble_eq_true rfl) (fun v3_1 ev3_1 => ?_)
  replace F := F v3_1 ev3_1
  refine s_goto (t := 84) dX13_isTold_119 rfl ?_
  exact s_k (hB84 _ _ _ _ F) ⟨rfl, rfl, rfl, rfl, trivial⟩

def w_isTold_84 (C : rCx) (Q : Int32 → rS → Prop)  (a1 : Int32) (a2 : Int32) (a3 : Int32) (σ : rS) : Prop :=
  ∃ I : Nat → Int32 → Int32 → Int32 → rS → Prop, (∃ n, I n a1 a2 a3 σ) ∧ ∀ n a1 a2 a3 σ, I n a1 a2 a3 σ →
    ((σ.1 18) ≤ a3 →
      nb a2 ∧ Q a2 σ) ∧
    (¬ ((σ.1 18) ≤ a3) →
      (¬ (a2 = 0) →
        w_isTold_115 C Q (fun a1' a2' a3' τ => ∃ k < n, I k a1' a2' a3' τ) a1 a3 (1 : Int32) σ) ∧
      (a2 = 0 →
        inb a3 10 ∧
        cI C 0 m_isSame [.ref (co C), .int (σ.2.2.1 25 (a3).toNatClampNeg), .int a1] σ (fun r2 σ1 =>
          (r2 = 0 →
            w_isTold_115 C Q (fun a1' a2' a3' τ => ∃ k < n, I k a1' a2' a3' τ) a1 a3 (0 : Int32) σ1) ∧
          (¬ (r2 = 0) →
            w_isTold_115 C Q (fun a1' a2' a3' τ => ∃ k < n, I k a1' a2' a3' τ) a1 a3 (1 : Int32) σ1))))
theorem t_isTold_84 {C : rCx} (hC : cOK C) {Q : Int32 → rS → Prop}   {a1 : Int32} {a2 : Int32} {a3 : Int32} {σ : rS} (F : w_isTold_84 C Q  a1 a2 a3 σ) : wG C 1 m_isTold 84 [some (.ref (co C)), some (.int a1), some (.int a2), some (.int a3)] [] σ (qI Q) := by
  obtain ⟨I, ⟨n0, hI0⟩, F0⟩ := F
  have key : ∀ n a1 a2 a3 σ, I n a1 a2 a3 σ → wG C 1 m_isTold 84 [some (.ref (co C)), some (.int a1), some (.int a2), some (.int a3)] [] σ (qI Q) := by
    intro n
    induction n using Nat.strongRecOn with
    | _ n ih =>
      intro a1 a2 a3 σ hI
      have F := F0 n a1 a2 a3 σ hI
      clear hI hI0
      refine s_iln dX13_isTold_84 rfl ?_
      refine s_aln dX13_isTold_85 rfl ?_
      refine gf_343 dX13_isTold_86 rfl ?_
      refine s_ii (t := 122) ((σ.1 18) ≤ a3) dX13_isTold_89 rfl rfl (fun hc => ?_) (fun hc => ?_)
      · replace F := F.1 hc
        refine s_iln dX13_isTold_122 rfl ?_
        exact s_ri dX13_isTold_123 rfl (nb_nar F.1) F.2
      · replace F := F.2 hc
        refine s_iln dX13_isTold_92 rfl ?_
        refine s_in (t := 110) (a2 = 0) dX13_isTold_93 rfl rfl (fun hc => ?_) (fun hc => ?_)
        · replace F := F.1 hc
          refine s_ic dX13_isTold_110 ki_1 ?_
          refine s_goto (t := 115) dX13_isTold_111 rfl ?_
          exact s_k (t_isTold_115 hC (fun a1' a2' a3' τ hb => by obtain ⟨k, hk, hI⟩ := hb; exact ih k hk a1' a2' a3' τ hI) F) ⟨rfl, rfl, rfl, trivial⟩
        · replace F := F.2 hc
          refine s_aln dX13_isTold_96 rfl ?_
          refine s_aln dX13_isTold_97 rfl ?_
          refine gf_51 dX13_isTold_98 rfl ?_
          refine s_iln dX13_isTold_101 rfl ?_
          refine s_ald hC dX13_isTold_102 rt_25 F.1 ?_
          replace F := F.2
          refine s_iln dX13_isTold_103 rfl ?_
          refine k_336 dX13_isTold_104 rfl (Nat.le_of_ble_eq_true rfl) (Nat.le_of_ble_eq_true rfl) F (fun r2 σ1 F => ?_)
          refine s_i (t := 114) (r2 = 0) dX13_isTold_107 rfl rfl (fun hc => ?_) (fun hc => ?_)
          · replace F := F.1 hc
            refine s_ic dX13_isTold_114 ki_0 ?_
            exact s_k (t_isTold_115 hC (fun a1' a2' a3' τ hb => by obtain ⟨k, hk, hI⟩ := hb; exact ih k hk a1' a2' a3' τ hI) F) ⟨rfl, rfl, rfl, trivial⟩
          · replace F := F.2 hc
            refine s_ic dX13_isTold_110 ki_1 ?_
            refine s_goto (t := 115) dX13_isTold_111 rfl ?_
            exact s_k (t_isTold_115 hC (fun a1' a2' a3' τ hb => by obtain ⟨k, hk, hI⟩ := hb; exact ih k hk a1' a2' a3' τ hI) F) ⟨rfl, rfl, rfl, trivial⟩
  exact key n0 a1 a2 a3 σ hI0

def w_isTold_44 (C : rCx) (Q : Int32 → rS → Prop)  (a1 : Int32) (a2 : Int32) (a3 : Int32) (σ : rS) : Prop :=
  ∃ I : Nat → Int32 → Int32 → Int32 → rS → Prop, (∃ n, I n a1 a2 a3 σ) ∧ ∀ n a1 a2 a3 σ, I n a1 a2 a3 σ →
    ((σ.1 16) ≤ a3 →
      w_isTold_84 C Q  a1 a2 (0 : Int32) σ) ∧
    (¬ ((σ.1 16) ≤ a3) →
      (¬ (a2 = 0) →
        w_isTold_75 C Q (fun a1' a2' a3' τ => ∃ k < n, I k a1' a2' a3' τ) a1 a3 (1 : Int32) σ) ∧
      (a2 = 0 →
        inb a3 3 ∧
        cI C 0 m_isSame [.ref (co C), .int (σ.2.2.1 22 (a3).toNatClampNeg), .int a1] σ (fun r2 σ1 =>
          (r2 = 0 →
            w_isTold_75 C Q (fun a1' a2' a3' τ => ∃ k < n, I k a1' a2' a3' τ) a1 a3 (0 : Int32) σ1) ∧
          (¬ (r2 = 0) →
            w_isTold_75 C Q (fun a1' a2' a3' τ => ∃ k < n, I k a1' a2' a3' τ) a1 a3 (1 : Int32) σ1))))
theorem t_isTold_44 {C : rCx} (hC : cOK C) {Q : Int32 → rS → Prop}   {a1 : Int32} {a2 : Int32} {a3 : Int32} {σ : rS} (F : w_isTold_44 C Q  a1 a2 a3 σ) : wG C 1 m_isTold 44 [some (.ref (co C)), some (.int a1), some (.int a2), some (.int a3)] [] σ (qI Q) := by
  obtain ⟨I, ⟨n0, hI0⟩, F0⟩ := F
  have key : ∀ n a1 a2 a3 σ, I n a1 a2 a3 σ → wG C 1 m_isTold 44 [some (.ref (co C)), some (.int a1), some (.int a2), some (.int a3)] [] σ (qI Q) := by
    intro n
    induction n using Nat.strongRecOn with
    | _ n ih =>
      intro a1 a2 a3 σ hI
      have F := F0 n a1 a2 a3 σ hI
      clear hI hI0
      refine s_iln dX13_isTold_44 rfl ?_
      refine s_aln dX13_isTold_45 rfl ?_
      refine gf_340 dX13_isTold_46 rfl ?_
      refine s_ii (t := 82) ((σ.1 16) ≤ a3) dX13_isTold_49 rfl rfl (fun hc => ?_) (fun hc => ?_)
      · replace F := F.1 hc
        refine s_ic dX13_isTold_82 ki_0 ?_
        refine s_isn dX13_isTold_83 (Nat.le_of_ble_eq_true rfl) rfl ?_
        exact s_k (t_isTold_84 hC  F) ⟨rfl, rfl, rfl, rfl, trivial⟩
      · replace F := F.2 hc
        refine s_iln dX13_isTold_52 rfl ?_
        refine s_in (t := 70) (a2 = 0) dX13_isTold_53 rfl rfl (fun hc => ?_) (fun hc => ?_)
        · replace F := F.1 hc
          refine s_ic dX13_isTold_70 ki_1 ?_
          refine s_goto (t := 75) dX13_isTold_71 rfl ?_
          exact s_k (t_isTold_75 hC (fun a1' a2' a3' τ hb => by obtain ⟨k, hk, hI⟩ := hb; exact ih k hk a1' a2' a3' τ hI) F) ⟨rfl, rfl, rfl, trivial⟩
        · replace F := F.2 hc
          refine s_aln dX13_isTold_56 rfl ?_
          refine s_aln dX13_isTold_57 rfl ?_
          refine gf_42 dX13_isTold_58 rfl ?_
          refine s_iln dX13_isTold_61 rfl ?_
          refine s_ald hC dX13_isTold_62 rt_22 F.1 ?_
          replace F := F.2
          refine s_iln dX13_isTold_63 rfl ?_
          refine k_336 dX13_isTold_64 rfl (Nat.le_of_ble_eq_true rfl) (Nat.le_of_ble_eq_true rfl) F (fun r2 σ1 F => ?_)
          refine s_i (t := 74) (r2 = 0) dX13_isTold_67 rfl rfl (fun hc => ?_) (fun hc => ?_)
          · replace F := F.1 hc
            refine s_ic dX13_isTold_74 ki_0 ?_
            exact s_k (t_isTold_75 hC (fun a1' a2' a3' τ hb => by obtain ⟨k, hk, hI⟩ := hb; exact ih k hk a1' a2' a3' τ hI) F) ⟨rfl, rfl, rfl, trivial⟩
          · replace F := F.2 hc
            refine s_ic dX13_isTold_70 ki_1 ?_
            refine s_goto (t := 75) dX13_isTold_71 rfl ?_
            exact s_k (t_isTold_75 hC (fun a1' a2' a3' τ hb => by obtain ⟨k, hk, hI⟩ := hb; exact ih k hk a1' a2' a3' τ hI) F) ⟨rfl, rfl, rfl, trivial⟩
  exact key n0 a1 a2 a3 σ hI0

def w_isTold_4 (C : rCx) (Q : Int32 → rS → Prop)  (a1 : Int32) (a2 : Int32) (a3 : Int32) (σ : rS) : Prop :=
  ∃ I : Nat → Int32 → Int32 → Int32 → rS → Prop, (∃ n, I n a1 a2 a3 σ) ∧ ∀ n a1 a2 a3 σ, I n a1 a2 a3 σ →
    ((σ.1 15) ≤ a3 →
      w_isTold_44 C Q  a1 a2 (0 : Int32) σ) ∧
    (¬ ((σ.1 15) ≤ a3) →
      (¬ (a2 = 0) →
        w_isTold_35 C Q (fun a1' a2' a3' τ => ∃ k < n, I k a1' a2' a3' τ) a1 a3 (1 : Int32) σ) ∧
      (a2 = 0 →
        inb a3 10 ∧
        cI C 0 m_isSame [.ref (co C), .int (σ.2.2.1 20 (a3).toNatClampNeg), .int a1] σ (fun r2 σ1 =>
          (r2 = 0 →
            w_isTold_35 C Q (fun a1' a2' a3' τ => ∃ k < n, I k a1' a2' a3' τ) a1 a3 (0 : Int32) σ1) ∧
          (¬ (r2 = 0) →
            w_isTold_35 C Q (fun a1' a2' a3' τ => ∃ k < n, I k a1' a2' a3' τ) a1 a3 (1 : Int32) σ1))))
theorem t_isTold_4 {C : rCx} (hC : cOK C) {Q : Int32 → rS → Prop}   {a1 : Int32} {a2 : Int32} {a3 : Int32} {σ : rS} (F : w_isTold_4 C Q  a1 a2 a3 σ) : wG C 1 m_isTold 4 [some (.ref (co C)), some (.int a1), some (.int a2), some (.int a3)] [] σ (qI Q) := by
  obtain ⟨I, ⟨n0, hI0⟩, F0⟩ := F
  have key : ∀ n a1 a2 a3 σ, I n a1 a2 a3 σ → wG C 1 m_isTold 4 [some (.ref (co C)), some (.int a1), some (.int a2), some (.int a3)] [] σ (qI Q) := by
    intro n
    induction n using Nat.strongRecOn with
    | _ n ih =>
      intro a1 a2 a3 σ hI
      have F := F0 n a1 a2 a3 σ hI
      clear hI hI0
      refine s_iln dX13_isTold_4 rfl ?_
      refine s_aln dX13_isTold_5 rfl ?_
      refine gf_333 dX13_isTold_6 rfl ?_
      refine s_ii (t := 42) ((σ.1 15) ≤ a3) dX13_isTold_9 rfl rfl (fun hc => ?_) (fun hc => ?_)
      · replace F := F.1 hc
        refine s_ic dX13_isTold_42 ki_0 ?_
        refine s_isn dX13_isTold_43 (Nat.le_of_ble_eq_true rfl) rfl ?_
        exact s_k (t_isTold_44 hC  F) ⟨rfl, rfl, rfl, rfl, trivial⟩
      · replace F := F.2 hc
        refine s_iln dX13_isTold_12 rfl ?_
        refine s_in (t := 30) (a2 = 0) dX13_isTold_13 rfl rfl (fun hc => ?_) (fun hc => ?_)
        · replace F := F.1 hc
          refine s_ic dX13_isTold_30 ki_1 ?_
          refine s_goto (t := 35) dX13_isTold_31 rfl ?_
          exact s_k (t_isTold_35 hC (fun a1' a2' a3' τ hb => by obtain ⟨k, hk, hI⟩ := hb; exact ih k hk a1' a2' a3' τ hI) F) ⟨rfl, rfl, rfl, trivial⟩
        · replace F := F.2 hc
          refine s_aln dX13_isTold_16 rfl ?_
          refine s_aln dX13_isTold_17 rfl ?_
          refine gf_36 dX13_isTold_18 rfl ?_
          refine s_iln dX13_isTold_21 rfl ?_
          refine s_ald hC dX13_isTold_22 rt_20 F.1 ?_
          replace F := F.2
          refine s_iln dX13_isTold_23 rfl ?_
          refine k_336 dX13_isTold_24 rfl (Nat.le_of_ble_eq_true rfl) (Nat.le_of_ble_eq_true rfl) F (fun r2 σ1 F => ?_)
          refine s_i (t := 34) (r2 = 0) dX13_isTold_27 rfl rfl (fun hc => ?_) (fun hc => ?_)
          · replace F := F.1 hc
            refine s_ic dX13_isTold_34 ki_0 ?_
            exact s_k (t_isTold_35 hC (fun a1' a2' a3' τ hb => by obtain ⟨k, hk, hI⟩ := hb; exact ih k hk a1' a2' a3' τ hI) F) ⟨rfl, rfl, rfl, trivial⟩
          · replace F := F.2 hc
            refine s_ic dX13_isTold_30 ki_1 ?_
            refine s_goto (t := 35) dX13_isTold_31 rfl ?_
            exact s_k (t_isTold_35 hC (fun a1' a2' a3' τ hb => by obtain ⟨k, hk, hI⟩ := hb; exact ih k hk a1' a2' a3' τ hI) F) ⟨rfl, rfl, rfl, trivial⟩
  exact key n0 a1 a2 a3 σ hI0

def w_isTold_0 (C : rCx) (Q : Int32 → rS → Prop)  (a1 : Int32) (σ : rS) : Prop :=
  w_isTold_4 C Q  a1 (0 : Int32) (0 : Int32) σ
theorem t_isTold_0 {C : rCx} (hC : cOK C) {Q : Int32 → rS → Prop}   {a1 : Int32} {σ : rS} (F : w_isTold_0 C Q  a1 σ) : wG C 1 m_isTold 0 [some (.ref (co C)), some (.int a1), none, none] [] σ (qI Q) := by
  unfold w_isTold_0 at F
  refine s_ic dX13_isTold_0 ki_0 ?_
  refine s_isn dX13_isTold_1 (Nat.le_of_ble_eq_true rfl) rfl ?_
  refine s_ic dX13_isTold_2 ki_0 ?_
  refine s_isn dX13_isTold_3 (Nat.le_of_ble_eq_true rfl) rfl ?_
  exact s_k (t_isTold_4 hC  F) ⟨rfl, rfl, rfl, rfl, trivial⟩

theorem m_isTold_run {C : rCx} (hC : cOK C) {Q : Int32 → rS → Prop} {a1 : Int32} {σ : rS} (F : w_isTold_0 C Q a1 σ) : cI C 1 m_isTold [.ref (co C), .int a1] σ Q := m_I (m_ent _ 2) (t_isTold_0 hC F)

theorem dX13_variableOf_0 : decode cX13_variableOf 0 = .ok (.iconst 0, 1) := by decide +kernel
theorem dX13_variableOf_1 : decode cX13_variableOf 1 = .ok (.istore_n 2, 1) := by decide +kernel
theorem dX13_variableOf_2 : decode cX13_variableOf 2 = .ok (.iload_n 2, 1) := by decide +kernel
theorem dX13_variableOf_3 : decode cX13_variableOf 3 = .ok (.aload_n 0, 1) := by decide +kernel
theorem dX13_variableOf_4 : decode cX13_variableOf 4 = .ok (.getfield 57, 3) := by decide +kernel
theorem dX13_variableOf_7 : decode cX13_variableOf 7 = .ok (.aload_n 0, 1) := by decide +kernel
theorem dX13_variableOf_8 : decode cX13_variableOf 8 = .ok (.getfield 346, 3) := by decide +kernel
theorem dX13_variableOf_11 : decode cX13_variableOf 11 = .ok (.iaload, 1) := by decide +kernel
theorem dX13_variableOf_12 : decode cX13_variableOf 12 = .ok (.if_icmp .ge 36, 3) := by decide +kernel
theorem dX13_variableOf_15 : decode cX13_variableOf 15 = .ok (.aload_n 0, 1) := by decide +kernel
theorem dX13_variableOf_16 : decode cX13_variableOf 16 = .ok (.aload_n 0, 1) := by decide +kernel
theorem dX13_variableOf_17 : decode cX13_variableOf 17 = .ok (.getfield 60, 3) := by decide +kernel
theorem dX13_variableOf_20 : decode cX13_variableOf 20 = .ok (.bipush 8, 2) := by decide +kernel
theorem dX13_variableOf_22 : decode cX13_variableOf 22 = .ok (.aload_n 0, 1) := by decide +kernel
theorem dX13_variableOf_23 : decode cX13_variableOf 23 = .ok (.getfield 346, 3) := by decide +kernel
theorem dX13_variableOf_26 : decode cX13_variableOf 26 = .ok (.imul, 1) := by decide +kernel
theorem dX13_variableOf_27 : decode cX13_variableOf 27 = .ok (.iload_n 2, 1) := by decide +kernel
theorem dX13_variableOf_28 : decode cX13_variableOf 28 = .ok (.iadd, 1) := by decide +kernel
theorem dX13_variableOf_29 : decode cX13_variableOf 29 = .ok (.iaload, 1) := by decide +kernel
theorem dX13_variableOf_30 : decode cX13_variableOf 30 = .ok (.iload_n 1, 1) := by decide +kernel
theorem dX13_variableOf_31 : decode cX13_variableOf 31 = .ok (.invokevirtual 336, 3) := by decide +kernel
theorem dX13_variableOf_34 : decode cX13_variableOf 34 = .ok (.ifCond .eq 8, 3) := by decide +kernel
theorem dX13_variableOf_37 : decode cX13_variableOf 37 = .ok (.bipush 100, 2) := by decide +kernel
theorem dX13_variableOf_39 : decode cX13_variableOf 39 = .ok (.iload_n 2, 1) := by decide +kernel
theorem dX13_variableOf_40 : decode cX13_variableOf 40 = .ok (.iadd, 1) := by decide +kernel
theorem dX13_variableOf_41 : decode cX13_variableOf 41 = .ok (.ireturn, 1) := by decide +kernel
theorem dX13_variableOf_42 : decode cX13_variableOf 42 = .ok (.iinc 2 1, 3) := by decide +kernel
theorem dX13_variableOf_45 : decode cX13_variableOf 45 = .ok (.goto (-43), 3) := by decide +kernel
theorem dX13_variableOf_48 : decode cX13_variableOf 48 = .ok (.iconst 0, 1) := by decide +kernel
theorem dX13_variableOf_49 : decode cX13_variableOf 49 = .ok (.istore_n 2, 1) := by decide +kernel
theorem dX13_variableOf_50 : decode cX13_variableOf 50 = .ok (.iload_n 2, 1) := by decide +kernel
theorem dX13_variableOf_51 : decode cX13_variableOf 51 = .ok (.aload_n 0, 1) := by decide +kernel
theorem dX13_variableOf_52 : decode cX13_variableOf 52 = .ok (.getfield 333, 3) := by decide +kernel
theorem dX13_variableOf_55 : decode cX13_variableOf 55 = .ok (.if_icmp .ge 25, 3) := by decide +kernel
theorem dX13_variableOf_58 : decode cX13_variableOf 58 = .ok (.aload_n 0, 1) := by decide +kernel
theorem dX13_variableOf_59 : decode cX13_variableOf 59 = .ok (.aload_n 0, 1) := by decide +kernel
theorem dX13_variableOf_60 : decode cX13_variableOf 60 = .ok (.getfield 36, 3) := by decide +kernel
theorem dX13_variableOf_63 : decode cX13_variableOf 63 = .ok (.iload_n 2, 1) := by decide +kernel
theorem dX13_variableOf_64 : decode cX13_variableOf 64 = .ok (.iaload, 1) := by decide +kernel
theorem dX13_variableOf_65 : decode cX13_variableOf 65 = .ok (.iload_n 1, 1) := by decide +kernel
theorem dX13_variableOf_66 : decode cX13_variableOf 66 = .ok (.invokevirtual 336, 3) := by decide +kernel
theorem dX13_variableOf_69 : decode cX13_variableOf 69 = .ok (.ifCond .eq 5, 3) := by decide +kernel
theorem dX13_variableOf_72 : decode cX13_variableOf 72 = .ok (.iload_n 2, 1) := by decide +kernel
theorem dX13_variableOf_73 : decode cX13_variableOf 73 = .ok (.ireturn, 1) := by decide +kernel
theorem dX13_variableOf_74 : decode cX13_variableOf 74 = .ok (.iinc 2 1, 3) := by decide +kernel
theorem dX13_variableOf_77 : decode cX13_variableOf 77 = .ok (.goto (-27), 3) := by decide +kernel
theorem dX13_variableOf_80 : decode cX13_variableOf 80 = .ok (.iconst (-1), 1) := by decide +kernel
theorem dX13_variableOf_81 : decode cX13_variableOf 81 = .ok (.ireturn, 1) := by decide +kernel
def w_variableOf_50 (C : rCx) (Q : Int32 → rS → Prop)  (a1 : Int32) (a2 : Int32) (σ : rS) : Prop :=
  ∃ I : Nat → Int32 → Int32 → rS → Prop, (∃ n, I n a1 a2 σ) ∧ ∀ n a1 a2 σ, I n a1 a2 σ →
    ((σ.1 15) ≤ a2 →
      Q (-1 : Int32) σ) ∧
    (¬ ((σ.1 15) ≤ a2) →
      inb a2 10 ∧
      cI C 0 m_isSame [.ref (co C), .int (σ.2.2.1 20 (a2).toNatClampNeg), .int a1] σ (fun r2 σ1 =>
        (r2 = 0 →
          ∀ v2_3 : Int32, v2_3 = a2 + (1 : Int32) →
          ∃ k < n, I k a1 v2_3 σ1) ∧
        (¬ (r2 = 0) →
          Q a2 σ1)))
theorem t_variableOf_50 {C : rCx} (hC : cOK C) {Q : Int32 → rS → Prop}   {a1 : Int32} {a2 : Int32} {σ : rS} (F : w_variableOf_50 C Q  a1 a2 σ) : wG C 1 m_variableOf 50 [some (.ref (co C)), some (.int a1), some (.int a2)] [] σ (qI Q) := by
  obtain ⟨I, ⟨n0, hI0⟩, F0⟩ := F
  have key : ∀ n a1 a2 σ, I n a1 a2 σ → wG C 1 m_variableOf 50 [some (.ref (co C)), some (.int a1), some (.int a2)] [] σ (qI Q) := by
    intro n
    induction n using Nat.strongRecOn with
    | _ n ih =>
      intro a1 a2 σ hI
      have F := F0 n a1 a2 σ hI
      clear hI hI0
      refine s_iln dX13_variableOf_50 rfl ?_
      refine s_aln dX13_variableOf_51 rfl ?_
      refine gf_333 dX13_variableOf_52 rfl ?_
      refine s_ii (t := 80) ((σ.1 15) ≤ a2) dX13_variableOf_55 rfl rfl (fun hc => ?_) (fun hc => ?_)
      · replace F := F.1 hc
        refine s_ic dX13_variableOf_80 ki_m1 ?_
        exact s_ri dX13_variableOf_81 rfl in_nar F
      · replace F := F.2 hc
        refine s_aln dX13_variableOf_58 rfl ?_
        refine s_aln dX13_variableOf_59 rfl ?_
        refine gf_36 dX13_variableOf_60 rfl ?_
        refine s_iln dX13_variableOf_63 rfl ?_
        refine s_ald hC dX13_variableOf_64 rt_20 F.1 ?_
        replace F := F.2
        refine s_iln dX13_variableOf_65 rfl ?_
        refine k_336 dX13_variableOf_66 rfl (Nat.le_of_ble_eq_true rfl) (Nat.le_of_ble_eq_true rfl) F (fun r2 σ1 F => ?_)
        refine s_i (t := 74) (r2 = 0) dX13_variableOf_69 rfl rfl (fun hc => ?_) (fun hc => ?_)
        · replace F := F.1 hc
          refine s_incb dX13_variableOf_74 ki_1 rfl (Nat.le_of_ble_eq_true rfl) (fun v2_3 ev2_3 => ?_)
          replace F := F v2_3 ev2_3
          refine s_goto (t := 50) dX13_variableOf_77 rfl ?_
          obtain ⟨k, hk, hI⟩ := F
          exact s_k (ih k hk _ _ _ hI) ⟨rfl, rfl, rfl, trivial⟩
        · replace F := F.2 hc
          refine s_iln dX13_variableOf_72 rfl ?_
          exact s_ri dX13_variableOf_73 rfl in_nar F
  exact key n0 a1 a2 σ hI0

def w_variableOf_2 (C : rCx) (Q : Int32 → rS → Prop)  (a1 : Int32) (a2 : Int32) (σ : rS) : Prop :=
  ∃ I : Nat → Int32 → Int32 → rS → Prop, (∃ n, I n a1 a2 σ) ∧ ∀ n a1 a2 σ, I n a1 a2 σ →
    inb (σ.1 41) 10 ∧
    ((σ.2.2.1 27 ((σ.1 41)).toNatClampNeg) ≤ a2 →
      w_variableOf_50 C Q  a1 (0 : Int32) σ) ∧
    (¬ ((σ.2.2.1 27 ((σ.1 41)).toNatClampNeg) ≤ a2) →
      inb (((8 : Int32) * (σ.1 41)) + a2) 80 ∧
      cI C 0 m_isSame [.ref (co C), .int (σ.2.2.1 28 ((((8 : Int32) * (σ.1 41)) + a2)).toNatClampNeg), .int a1] σ (fun r2 σ1 =>
        (r2 = 0 →
          ∀ v2_3 : Int32, v2_3 = a2 + (1 : Int32) →
          ∃ k < n, I k a1 v2_3 σ1) ∧
        (¬ (r2 = 0) →
          Q ((100 : Int32) + a2) σ1)))
theorem t_variableOf_2 {C : rCx} (hC : cOK C) {Q : Int32 → rS → Prop}   {a1 : Int32} {a2 : Int32} {σ : rS} (F : w_variableOf_2 C Q  a1 a2 σ) : wG C 1 m_variableOf 2 [some (.ref (co C)), some (.int a1), some (.int a2)] [] σ (qI Q) := by
  obtain ⟨I, ⟨n0, hI0⟩, F0⟩ := F
  have key : ∀ n a1 a2 σ, I n a1 a2 σ → wG C 1 m_variableOf 2 [some (.ref (co C)), some (.int a1), some (.int a2)] [] σ (qI Q) := by
    intro n
    induction n using Nat.strongRecOn with
    | _ n ih =>
      intro a1 a2 σ hI
      have F := F0 n a1 a2 σ hI
      clear hI hI0
      refine s_iln dX13_variableOf_2 rfl ?_
      refine s_aln dX13_variableOf_3 rfl ?_
      refine gf_57 dX13_variableOf_4 rfl ?_
      refine s_aln dX13_variableOf_7 rfl ?_
      refine gf_346 dX13_variableOf_8 rfl ?_
      refine s_ald hC dX13_variableOf_11 rt_27 F.1 ?_
      replace F := F.2
      refine s_ii (t := 48) ((σ.2.2.1 27 ((σ.1 41)).toNatClampNeg) ≤ a2) dX13_variableOf_12 rfl rfl (fun hc => ?_) (fun hc => ?_)
      · replace F := F.1 hc
        refine s_ic dX13_variableOf_48 ki_0 ?_
        refine s_isn dX13_variableOf_49 (Nat.le_of_ble_eq_true rfl) rfl ?_
        exact s_k (t_variableOf_50 hC  F) ⟨rfl, rfl, rfl, trivial⟩
      · replace F := F.2 hc
        refine s_aln dX13_variableOf_15 rfl ?_
        refine s_aln dX13_variableOf_16 rfl ?_
        refine gf_60 dX13_variableOf_17 rfl ?_
        refine s_bi dX13_variableOf_20 kb_8 ?_
        refine s_aln dX13_variableOf_22 rfl ?_
        refine gf_346 dX13_variableOf_23 rfl ?_
        refine s_imul dX13_variableOf_26 ?_
        refine s_iln dX13_variableOf_27 rfl ?_
        refine s_iadd dX13_variableOf_28 ?_
        refine s_ald hC dX13_variableOf_29 rt_28 F.1 ?_
        replace F := F.2
        refine s_iln dX13_variableOf_30 rfl ?_
        refine k_336 dX13_variableOf_31 rfl (Nat.le_of_ble_eq_true rfl) (Nat.le_of_ble_eq_true rfl) F (fun r2 σ1 F => ?_)
        refine s_i (t := 42) (r2 = 0) dX13_variableOf_34 rfl rfl (fun hc => ?_) (fun hc => ?_)
        · replace F := F.1 hc
          refine s_incb dX13_variableOf_42 ki_1 rfl (Nat.le_of_ble_eq_true rfl) (fun v2_3 ev2_3 => ?_)
          replace F := F v2_3 ev2_3
          refine s_goto (t := 2) dX13_variableOf_45 rfl ?_
          obtain ⟨k, hk, hI⟩ := F
          exact s_k (ih k hk _ _ _ hI) ⟨rfl, rfl, rfl, trivial⟩
        · replace F := F.2 hc
          refine s_bi dX13_variableOf_37 kb_100 ?_
          refine s_iln dX13_variableOf_39 rfl ?_
          refine s_iadd dX13_variableOf_40 ?_
          exact s_ri dX13_variableOf_41 rfl in_nar F
  exact key n0 a1 a2 σ hI0

def w_variableOf_0 (C : rCx) (Q : Int32 → rS → Prop)  (a1 : Int32) (σ : rS) : Prop :=
  w_variableOf_2 C Q  a1 (0 : Int32) σ
theorem t_variableOf_0 {C : rCx} (hC : cOK C) {Q : Int32 → rS → Prop}   {a1 : Int32} {σ : rS} (F : w_variableOf_0 C Q  a1 σ) : wG C 1 m_variableOf 0 [some (.ref (co C)), some (.int a1), none] [] σ (qI Q) := by
  unfold w_variableOf_0 at F
  refine s_ic dX13_variableOf_0 ki_0 ?_
  refine s_isn dX13_variableOf_1 (Nat.le_of_ble_eq_true rfl) rfl ?_
  exact s_k (t_variableOf_2 hC  F) ⟨rfl, rfl, rfl, trivial⟩

theorem m_variableOf_run {C : rCx} (hC : cOK C) {Q : Int32 → rS → Prop} {a1 : Int32} {σ : rS} (F : w_variableOf_0 C Q a1 σ) : cI C 1 m_variableOf [.ref (co C), .int a1] σ Q := m_I (m_ent _ 1) (t_variableOf_0 hC F)

theorem dX13_arrayOf_0 : decode cX13_arrayOf 0 = .ok (.iconst 0, 1) := by decide +kernel
theorem dX13_arrayOf_1 : decode cX13_arrayOf 1 = .ok (.istore_n 2, 1) := by decide +kernel
theorem dX13_arrayOf_2 : decode cX13_arrayOf 2 = .ok (.iload_n 2, 1) := by decide +kernel
theorem dX13_arrayOf_3 : decode cX13_arrayOf 3 = .ok (.aload_n 0, 1) := by decide +kernel
theorem dX13_arrayOf_4 : decode cX13_arrayOf 4 = .ok (.getfield 340, 3) := by decide +kernel
theorem dX13_arrayOf_7 : decode cX13_arrayOf 7 = .ok (.if_icmp .ge 29, 3) := by decide +kernel
theorem dX13_arrayOf_10 : decode cX13_arrayOf 10 = .ok (.aload_n 0, 1) := by decide +kernel
theorem dX13_arrayOf_11 : decode cX13_arrayOf 11 = .ok (.aload_n 0, 1) := by decide +kernel
theorem dX13_arrayOf_12 : decode cX13_arrayOf 12 = .ok (.getfield 42, 3) := by decide +kernel
theorem dX13_arrayOf_15 : decode cX13_arrayOf 15 = .ok (.iload_n 2, 1) := by decide +kernel
theorem dX13_arrayOf_16 : decode cX13_arrayOf 16 = .ok (.iaload, 1) := by decide +kernel
theorem dX13_arrayOf_17 : decode cX13_arrayOf 17 = .ok (.iload_n 1, 1) := by decide +kernel
theorem dX13_arrayOf_18 : decode cX13_arrayOf 18 = .ok (.invokevirtual 336, 3) := by decide +kernel
theorem dX13_arrayOf_21 : decode cX13_arrayOf 21 = .ok (.ifCond .eq 9, 3) := by decide +kernel
theorem dX13_arrayOf_24 : decode cX13_arrayOf 24 = .ok (.sipush 200, 3) := by decide +kernel
theorem dX13_arrayOf_27 : decode cX13_arrayOf 27 = .ok (.iload_n 2, 1) := by decide +kernel
theorem dX13_arrayOf_28 : decode cX13_arrayOf 28 = .ok (.iadd, 1) := by decide +kernel
theorem dX13_arrayOf_29 : decode cX13_arrayOf 29 = .ok (.ireturn, 1) := by decide +kernel
theorem dX13_arrayOf_30 : decode cX13_arrayOf 30 = .ok (.iinc 2 1, 3) := by decide +kernel
theorem dX13_arrayOf_33 : decode cX13_arrayOf 33 = .ok (.goto (-31), 3) := by decide +kernel
theorem dX13_arrayOf_36 : decode cX13_arrayOf 36 = .ok (.iconst (-1), 1) := by decide +kernel
theorem dX13_arrayOf_37 : decode cX13_arrayOf 37 = .ok (.ireturn, 1) := by decide +kernel
def w_arrayOf_2 (C : rCx) (Q : Int32 → rS → Prop)  (a1 : Int32) (a2 : Int32) (σ : rS) : Prop :=
  ∃ I : Nat → Int32 → Int32 → rS → Prop, (∃ n, I n a1 a2 σ) ∧ ∀ n a1 a2 σ, I n a1 a2 σ →
    ((σ.1 16) ≤ a2 →
      Q (-1 : Int32) σ) ∧
    (¬ ((σ.1 16) ≤ a2) →
      inb a2 3 ∧
      cI C 0 m_isSame [.ref (co C), .int (σ.2.2.1 22 (a2).toNatClampNeg), .int a1] σ (fun r2 σ1 =>
        (r2 = 0 →
          ∀ v2_3 : Int32, v2_3 = a2 + (1 : Int32) →
          ∃ k < n, I k a1 v2_3 σ1) ∧
        (¬ (r2 = 0) →
          Q ((200 : Int32) + a2) σ1)))
theorem t_arrayOf_2 {C : rCx} (hC : cOK C) {Q : Int32 → rS → Prop}   {a1 : Int32} {a2 : Int32} {σ : rS} (F : w_arrayOf_2 C Q  a1 a2 σ) : wG C 1 m_arrayOf 2 [some (.ref (co C)), some (.int a1), some (.int a2)] [] σ (qI Q) := by
  obtain ⟨I, ⟨n0, hI0⟩, F0⟩ := F
  have key : ∀ n a1 a2 σ, I n a1 a2 σ → wG C 1 m_arrayOf 2 [some (.ref (co C)), some (.int a1), some (.int a2)] [] σ (qI Q) := by
    intro n
    induction n using Nat.strongRecOn with
    | _ n ih =>
      intro a1 a2 σ hI
      have F := F0 n a1 a2 σ hI
      clear hI hI0
      refine s_iln dX13_arrayOf_2 rfl ?_
      refine s_aln dX13_arrayOf_3 rfl ?_
      refine gf_340 dX13_arrayOf_4 rfl ?_
      refine s_ii (t := 36) ((σ.1 16) ≤ a2) dX13_arrayOf_7 rfl rfl (fun hc => ?_) (fun hc => ?_)
      · replace F := F.1 hc
        refine s_ic dX13_arrayOf_36 ki_m1 ?_
        exact s_ri dX13_arrayOf_37 rfl in_nar F
      · replace F := F.2 hc
        refine s_aln dX13_arrayOf_10 rfl ?_
        refine s_aln dX13_arrayOf_11 rfl ?_
        refine gf_42 dX13_arrayOf_12 rfl ?_
        refine s_iln dX13_arrayOf_15 rfl ?_
        refine s_ald hC dX13_arrayOf_16 rt_22 F.1 ?_
        replace F := F.2
        refine s_iln dX13_arrayOf_17 rfl ?_
        refine k_336 dX13_arrayOf_18 rfl (Nat.le_of_ble_eq_true rfl) (Nat.le_of_ble_eq_true rfl) F (fun r2 σ1 F => ?_)
        refine s_i (t := 30) (r2 = 0) dX13_arrayOf_21 rfl rfl (fun hc => ?_) (fun hc => ?_)
        · replace F := F.1 hc
          refine s_incb dX13_arrayOf_30 ki_1 rfl (Nat.le_of_ble_eq_true rfl) (fun v2_3 ev2_3 => ?_)
          replace F := F v2_3 ev2_3
          refine s_goto (t := 2) dX13_arrayOf_33 rfl ?_
          obtain ⟨k, hk, hI⟩ := F
          exact s_k (ih k hk _ _ _ hI) ⟨rfl, rfl, rfl, trivial⟩
        · replace F := F.2 hc
          refine s_si dX13_arrayOf_24 ks_200 ?_
          refine s_iln dX13_arrayOf_27 rfl ?_
          refine s_iadd dX13_arrayOf_28 ?_
          exact s_ri dX13_arrayOf_29 rfl in_nar F
  exact key n0 a1 a2 σ hI0

def w_arrayOf_0 (C : rCx) (Q : Int32 → rS → Prop)  (a1 : Int32) (σ : rS) : Prop :=
  w_arrayOf_2 C Q  a1 (0 : Int32) σ
theorem t_arrayOf_0 {C : rCx} (hC : cOK C) {Q : Int32 → rS → Prop}   {a1 : Int32} {σ : rS} (F : w_arrayOf_0 C Q  a1 σ) : wG C 1 m_arrayOf 0 [some (.ref (co C)), some (.int a1), none] [] σ (qI Q) := by
  unfold w_arrayOf_0 at F
  refine s_ic dX13_arrayOf_0 ki_0 ?_
  refine s_isn dX13_arrayOf_1 (Nat.le_of_ble_eq_true rfl) rfl ?_
  exact s_k (t_arrayOf_2 hC  F) ⟨rfl, rfl, rfl, trivial⟩

theorem m_arrayOf_run {C : rCx} (hC : cOK C) {Q : Int32 → rS → Prop} {a1 : Int32} {σ : rS} (F : w_arrayOf_0 C Q a1 σ) : cI C 1 m_arrayOf [.ref (co C), .int a1] σ Q := m_I (m_ent _ 1) (t_arrayOf_0 hC F)

theorem dX13_functionOf_0 : decode cX13_functionOf 0 = .ok (.iconst 0, 1) := by decide +kernel
theorem dX13_functionOf_1 : decode cX13_functionOf 1 = .ok (.istore_n 2, 1) := by decide +kernel
theorem dX13_functionOf_2 : decode cX13_functionOf 2 = .ok (.iload_n 2, 1) := by decide +kernel
theorem dX13_functionOf_3 : decode cX13_functionOf 3 = .ok (.aload_n 0, 1) := by decide +kernel
theorem dX13_functionOf_4 : decode cX13_functionOf 4 = .ok (.getfield 343, 3) := by decide +kernel
theorem dX13_functionOf_7 : decode cX13_functionOf 7 = .ok (.if_icmp .ge 25, 3) := by decide +kernel
theorem dX13_functionOf_10 : decode cX13_functionOf 10 = .ok (.aload_n 0, 1) := by decide +kernel
theorem dX13_functionOf_11 : decode cX13_functionOf 11 = .ok (.aload_n 0, 1) := by decide +kernel
theorem dX13_functionOf_12 : decode cX13_functionOf 12 = .ok (.getfield 51, 3) := by decide +kernel
theorem dX13_functionOf_15 : decode cX13_functionOf 15 = .ok (.iload_n 2, 1) := by decide +kernel
theorem dX13_functionOf_16 : decode cX13_functionOf 16 = .ok (.iaload, 1) := by decide +kernel
theorem dX13_functionOf_17 : decode cX13_functionOf 17 = .ok (.iload_n 1, 1) := by decide +kernel
theorem dX13_functionOf_18 : decode cX13_functionOf 18 = .ok (.invokevirtual 336, 3) := by decide +kernel
theorem dX13_functionOf_21 : decode cX13_functionOf 21 = .ok (.ifCond .eq 5, 3) := by decide +kernel
theorem dX13_functionOf_24 : decode cX13_functionOf 24 = .ok (.iload_n 2, 1) := by decide +kernel
theorem dX13_functionOf_25 : decode cX13_functionOf 25 = .ok (.ireturn, 1) := by decide +kernel
theorem dX13_functionOf_26 : decode cX13_functionOf 26 = .ok (.iinc 2 1, 3) := by decide +kernel
theorem dX13_functionOf_29 : decode cX13_functionOf 29 = .ok (.goto (-27), 3) := by decide +kernel
theorem dX13_functionOf_32 : decode cX13_functionOf 32 = .ok (.iconst (-1), 1) := by decide +kernel
theorem dX13_functionOf_33 : decode cX13_functionOf 33 = .ok (.ireturn, 1) := by decide +kernel
def w_functionOf_2 (C : rCx) (Q : Int32 → rS → Prop)  (a1 : Int32) (a2 : Int32) (σ : rS) : Prop :=
  ∃ I : Nat → Int32 → Int32 → rS → Prop, (∃ n, I n a1 a2 σ) ∧ ∀ n a1 a2 σ, I n a1 a2 σ →
    ((σ.1 18) ≤ a2 →
      Q (-1 : Int32) σ) ∧
    (¬ ((σ.1 18) ≤ a2) →
      inb a2 10 ∧
      cI C 0 m_isSame [.ref (co C), .int (σ.2.2.1 25 (a2).toNatClampNeg), .int a1] σ (fun r2 σ1 =>
        (r2 = 0 →
          ∀ v2_3 : Int32, v2_3 = a2 + (1 : Int32) →
          ∃ k < n, I k a1 v2_3 σ1) ∧
        (¬ (r2 = 0) →
          Q a2 σ1)))
theorem t_functionOf_2 {C : rCx} (hC : cOK C) {Q : Int32 → rS → Prop}   {a1 : Int32} {a2 : Int32} {σ : rS} (F : w_functionOf_2 C Q  a1 a2 σ) : wG C 1 m_functionOf 2 [some (.ref (co C)), some (.int a1), some (.int a2)] [] σ (qI Q) := by
  obtain ⟨I, ⟨n0, hI0⟩, F0⟩ := F
  have key : ∀ n a1 a2 σ, I n a1 a2 σ → wG C 1 m_functionOf 2 [some (.ref (co C)), some (.int a1), some (.int a2)] [] σ (qI Q) := by
    intro n
    induction n using Nat.strongRecOn with
    | _ n ih =>
      intro a1 a2 σ hI
      have F := F0 n a1 a2 σ hI
      clear hI hI0
      refine s_iln dX13_functionOf_2 rfl ?_
      refine s_aln dX13_functionOf_3 rfl ?_
      refine gf_343 dX13_functionOf_4 rfl ?_
      refine s_ii (t := 32) ((σ.1 18) ≤ a2) dX13_functionOf_7 rfl rfl (fun hc => ?_) (fun hc => ?_)
      · replace F := F.1 hc
        refine s_ic dX13_functionOf_32 ki_m1 ?_
        exact s_ri dX13_functionOf_33 rfl in_nar F
      · replace F := F.2 hc
        refine s_aln dX13_functionOf_10 rfl ?_
        refine s_aln dX13_functionOf_11 rfl ?_
        refine gf_51 dX13_functionOf_12 rfl ?_
        refine s_iln dX13_functionOf_15 rfl ?_
        refine s_ald hC dX13_functionOf_16 rt_25 F.1 ?_
        replace F := F.2
        refine s_iln dX13_functionOf_17 rfl ?_
        refine k_336 dX13_functionOf_18 rfl (Nat.le_of_ble_eq_true rfl) (Nat.le_of_ble_eq_true rfl) F (fun r2 σ1 F => ?_)
        refine s_i (t := 26) (r2 = 0) dX13_functionOf_21 rfl rfl (fun hc => ?_) (fun hc => ?_)
        · replace F := F.1 hc
          refine s_incb dX13_functionOf_26 ki_1 rfl (Nat.le_of_ble_eq_true rfl) (fun v2_3 ev2_3 => ?_)
          replace F := F v2_3 ev2_3
          refine s_goto (t := 2) dX13_functionOf_29 rfl ?_
          obtain ⟨k, hk, hI⟩ := F
          exact s_k (ih k hk _ _ _ hI) ⟨rfl, rfl, rfl, trivial⟩
        · replace F := F.2 hc
          refine s_iln dX13_functionOf_24 rfl ?_
          exact s_ri dX13_functionOf_25 rfl in_nar F
  exact key n0 a1 a2 σ hI0

def w_functionOf_0 (C : rCx) (Q : Int32 → rS → Prop)  (a1 : Int32) (σ : rS) : Prop :=
  w_functionOf_2 C Q  a1 (0 : Int32) σ
theorem t_functionOf_0 {C : rCx} (hC : cOK C) {Q : Int32 → rS → Prop}   {a1 : Int32} {σ : rS} (F : w_functionOf_0 C Q  a1 σ) : wG C 1 m_functionOf 0 [some (.ref (co C)), some (.int a1), none] [] σ (qI Q) := by
  unfold w_functionOf_0 at F
  refine s_ic dX13_functionOf_0 ki_0 ?_
  refine s_isn dX13_functionOf_1 (Nat.le_of_ble_eq_true rfl) rfl ?_
  exact s_k (t_functionOf_2 hC  F) ⟨rfl, rfl, rfl, trivial⟩

theorem m_functionOf_run {C : rCx} (hC : cOK C) {Q : Int32 → rS → Prop} {a1 : Int32} {σ : rS} (F : w_functionOf_0 C Q a1 σ) : cI C 1 m_functionOf [.ref (co C), .int a1] σ Q := m_I (m_ent _ 1) (t_functionOf_0 hC F)

theorem dX13_fresh_0 : decode cX13_fresh 0 = .ok (.aload_n 0, 1) := by decide +kernel
theorem dX13_fresh_1 : decode cX13_fresh 1 = .ok (.iconst 1, 1) := by decide +kernel
theorem dX13_fresh_2 : decode cX13_fresh 2 = .ok (.invokevirtual 349, 3) := by decide +kernel
theorem dX13_fresh_5 : decode cX13_fresh 5 = .ok (.istore 4, 2) := by decide +kernel
theorem dX13_fresh_7 : decode cX13_fresh 7 = .ok (.aload_n 0, 1) := by decide +kernel
theorem dX13_fresh_8 : decode cX13_fresh 8 = .ok (.iload 4, 2) := by decide +kernel
theorem dX13_fresh_10 : decode cX13_fresh 10 = .ok (.invokevirtual 352, 3) := by decide +kernel
theorem dX13_fresh_13 : decode cX13_fresh 13 = .ok (.istore 5, 2) := by decide +kernel
theorem dX13_fresh_15 : decode cX13_fresh 15 = .ok (.iconst 0, 1) := by decide +kernel
theorem dX13_fresh_16 : decode cX13_fresh 16 = .ok (.istore 6, 2) := by decide +kernel
theorem dX13_fresh_18 : decode cX13_fresh 18 = .ok (.iload_n 1, 1) := by decide +kernel
theorem dX13_fresh_19 : decode cX13_fresh 19 = .ok (.ifCond .eq 59, 3) := by decide +kernel
theorem dX13_fresh_22 : decode cX13_fresh 22 = .ok (.iload 6, 2) := by decide +kernel
theorem dX13_fresh_24 : decode cX13_fresh 24 = .ok (.aload_n 0, 1) := by decide +kernel
theorem dX13_fresh_25 : decode cX13_fresh 25 = .ok (.getfield 57, 3) := by decide +kernel
theorem dX13_fresh_28 : decode cX13_fresh 28 = .ok (.aload_n 0, 1) := by decide +kernel
theorem dX13_fresh_29 : decode cX13_fresh 29 = .ok (.getfield 346, 3) := by decide +kernel
theorem dX13_fresh_32 : decode cX13_fresh 32 = .ok (.iaload, 1) := by decide +kernel
theorem dX13_fresh_33 : decode cX13_fresh 33 = .ok (.if_icmp .ge 45, 3) := by decide +kernel
theorem dX13_fresh_36 : decode cX13_fresh 36 = .ok (.iload 5, 2) := by decide +kernel
theorem dX13_fresh_38 : decode cX13_fresh 38 = .ok (.ifCond .ne 27, 3) := by decide +kernel
theorem dX13_fresh_41 : decode cX13_fresh 41 = .ok (.aload_n 0, 1) := by decide +kernel
theorem dX13_fresh_42 : decode cX13_fresh 42 = .ok (.aload_n 0, 1) := by decide +kernel
theorem dX13_fresh_43 : decode cX13_fresh 43 = .ok (.getfield 60, 3) := by decide +kernel
theorem dX13_fresh_46 : decode cX13_fresh 46 = .ok (.bipush 8, 2) := by decide +kernel
theorem dX13_fresh_48 : decode cX13_fresh 48 = .ok (.aload_n 0, 1) := by decide +kernel
theorem dX13_fresh_49 : decode cX13_fresh 49 = .ok (.getfield 346, 3) := by decide +kernel
theorem dX13_fresh_52 : decode cX13_fresh 52 = .ok (.imul, 1) := by decide +kernel
theorem dX13_fresh_53 : decode cX13_fresh 53 = .ok (.iload 6, 2) := by decide +kernel
theorem dX13_fresh_55 : decode cX13_fresh 55 = .ok (.iadd, 1) := by decide +kernel
theorem dX13_fresh_56 : decode cX13_fresh 56 = .ok (.iaload, 1) := by decide +kernel
theorem dX13_fresh_57 : decode cX13_fresh 57 = .ok (.iload 4, 2) := by decide +kernel
theorem dX13_fresh_59 : decode cX13_fresh 59 = .ok (.invokevirtual 336, 3) := by decide +kernel
theorem dX13_fresh_62 : decode cX13_fresh 62 = .ok (.ifCond .eq 7, 3) := by decide +kernel
theorem dX13_fresh_65 : decode cX13_fresh 65 = .ok (.iconst 1, 1) := by decide +kernel
theorem dX13_fresh_66 : decode cX13_fresh 66 = .ok (.goto 4, 3) := by decide +kernel
theorem dX13_fresh_69 : decode cX13_fresh 69 = .ok (.iconst 0, 1) := by decide +kernel
theorem dX13_fresh_70 : decode cX13_fresh 70 = .ok (.istore 5, 2) := by decide +kernel
theorem dX13_fresh_72 : decode cX13_fresh 72 = .ok (.iinc 6 1, 3) := by decide +kernel
theorem dX13_fresh_75 : decode cX13_fresh 75 = .ok (.goto (-57), 3) := by decide +kernel
theorem dX13_fresh_78 : decode cX13_fresh 78 = .ok (.aload_n 0, 1) := by decide +kernel
theorem dX13_fresh_79 : decode cX13_fresh 79 = .ok (.invokevirtual 325, 3) := by decide +kernel
theorem dX13_fresh_82 : decode cX13_fresh 82 = .ok (.ifCond .eq 16, 3) := by decide +kernel
theorem dX13_fresh_85 : decode cX13_fresh 85 = .ok (.iload 5, 2) := by decide +kernel
theorem dX13_fresh_87 : decode cX13_fresh 87 = .ok (.ifCond .eq 11, 3) := by decide +kernel
theorem dX13_fresh_90 : decode cX13_fresh 90 = .ok (.aload_n 0, 1) := by decide +kernel
theorem dX13_fresh_91 : decode cX13_fresh 91 = .ok (.bipush 10, 2) := by decide +kernel
theorem dX13_fresh_93 : decode cX13_fresh 93 = .ok (.iload 4, 2) := by decide +kernel
theorem dX13_fresh_95 : decode cX13_fresh 95 = .ok (.invokevirtual 312, 3) := by decide +kernel
theorem dX13_fresh_98 : decode cX13_fresh 98 = .ok (.aload_n 0, 1) := by decide +kernel
theorem dX13_fresh_99 : decode cX13_fresh 99 = .ok (.invokevirtual 325, 3) := by decide +kernel
theorem dX13_fresh_102 : decode cX13_fresh 102 = .ok (.ifCond .eq 16, 3) := by decide +kernel
theorem dX13_fresh_105 : decode cX13_fresh 105 = .ok (.iload_n 2, 1) := by decide +kernel
theorem dX13_fresh_106 : decode cX13_fresh 106 = .ok (.iload_n 3, 1) := by decide +kernel
theorem dX13_fresh_107 : decode cX13_fresh 107 = .ok (.if_icmp .lt 11, 3) := by decide +kernel
theorem dX13_fresh_110 : decode cX13_fresh 110 = .ok (.aload_n 0, 1) := by decide +kernel
theorem dX13_fresh_111 : decode cX13_fresh 111 = .ok (.bipush 15, 2) := by decide +kernel
theorem dX13_fresh_113 : decode cX13_fresh 113 = .ok (.iload 4, 2) := by decide +kernel
theorem dX13_fresh_115 : decode cX13_fresh 115 = .ok (.invokevirtual 312, 3) := by decide +kernel
theorem dX13_fresh_118 : decode cX13_fresh 118 = .ok (.aload_n 0, 1) := by decide +kernel
theorem dX13_fresh_119 : decode cX13_fresh 119 = .ok (.invokevirtual 319, 3) := by decide +kernel
theorem dX13_fresh_122 : decode cX13_fresh 122 = .ok (.iload 4, 2) := by decide +kernel
theorem dX13_fresh_124 : decode cX13_fresh 124 = .ok (.ireturn, 1) := by decide +kernel
def w_fresh_70 (C : rCx) (Q : Int32 → rS → Prop) (B18 : Int32 → Int32 → Int32 → Int32 → Int32 → Int32 → rS → Prop) (a1 : Int32) (a2 : Int32) (a3 : Int32) (a4 : Int32) (a6 : Int32) (s0 : Int32) (σ : rS) : Prop :=
  ∀ v6_1 : Int32, v6_1 = a6 + (1 : Int32) →
  B18 a1 a2 a3 a4 s0 v6_1 σ
theorem t_fresh_70 {C : rCx} (hC : cOK C) {Q : Int32 → rS → Prop} {B18 : Int32 → Int32 → Int32 → Int32 → Int32 → Int32 → rS → Prop} (hB18 : ∀ a1' a2' a3' a4' a5' a6' τ, B18 a1' a2' a3' a4' a5' a6' τ → wG C 3 m_fresh 18 [some (.ref (co C)), some (.int a1'), some (.int a2'), some (.int a3'), some (.int a4'), some (.int a5'), some (.int a6')] [] τ (qI Q)) {a1 : Int32} {a2 : Int32} {a3 : Int32} {a4 : Int32} {a6 : Int32} {s0 : Int32} {σ : rS} (F : w_fresh_70 C Q B18 a1 a2 a3 a4 a6 s0 σ) : wG C 3 m_fresh 70 [some (.ref (co C)), some (.int a1), some (.int a2), some (.int a3), some (.int a4), none, some (.int a6)] [.int s0] σ (qI Q) := by
  unfold w_fresh_70 at F
  refine s_is dX13_fresh_70 (Nat.le_of_ble_eq_true rfl) rfl ?_
  refine s_incb dX13_fresh_72 ki_1 rfl (Nat.le_of_ble_eq_true rfl) (fun v6_1 ev6_1 => ?_)
  replace F := F v6_1 ev6_1
  refine s_goto (t := 18) dX13_fresh_75 rfl ?_
  exact s_k (hB18 _ _ _ _ _ _ _ F) ⟨rfl, rfl, rfl, rfl, rfl, rfl, rfl, trivial⟩

def w_fresh_98 (C : rCx) (Q : Int32 → rS → Prop)  (a2 : Int32) (a3 : Int32) (a4 : Int32) (σ : rS) : Prop :=
  cI C 0 m_isRight [.ref (co C)] σ (fun r2 σ1 =>
    (r2 = 0 →
      cV C 2 m_go [.ref (co C)] σ1 (fun σ3 =>
        Q a4 σ3)) ∧
    (¬ (r2 = 0) →
      (a2 < a3 →
        cV C 2 m_go [.ref (co C)] σ1 (fun σ5 =>
          Q a4 σ5)) ∧
      (¬ (a2 < a3) →
        cV C 0 m_flaw [.ref (co C), .int (15 : Int32), .int a4] σ1 (fun σ7 =>
          cV C 2 m_go [.ref (co C)] σ7 (fun σ9 =>
            Q a4 σ9)))))
theorem t_fresh_98 {C : rCx} (hC : cOK C) {Q : Int32 → rS → Prop}   {a2 : Int32} {a3 : Int32} {a4 : Int32} {σ : rS} (F : w_fresh_98 C Q  a2 a3 a4 σ) : wG C 3 m_fresh 98 [some (.ref (co C)), none, some (.int a2), some (.int a3), some (.int a4), none, none] [] σ (qI Q) := by
  unfold w_fresh_98 at F
  refine s_aln dX13_fresh_98 rfl ?_
  refine k_325 dX13_fresh_99 rfl (Nat.le_of_ble_eq_true rfl) (Nat.le_of_ble_eq_true rfl) F (fun r2 σ1 F => ?_)
  refine s_i (t := 118) (r2 = 0) dX13_fresh_102 rfl rfl (fun hc => ?_) (fun hc => ?_)
  · replace F := F.1 hc
    refine s_aln dX13_fresh_118 rfl ?_
    refine k_319 dX13_fresh_119 rfl (Nat.le_of_ble_eq_true rfl) (Nat.le_of_ble_eq_true rfl) F (fun σ3 F => ?_)
    refine s_il dX13_fresh_122 rfl ?_
    exact s_ri dX13_fresh_124 rfl in_nar F
  · replace F := F.2 hc
    refine s_iln dX13_fresh_105 rfl ?_
    refine s_iln dX13_fresh_106 rfl ?_
    refine s_ii (t := 118) (a2 < a3) dX13_fresh_107 rfl rfl (fun hc => ?_) (fun hc => ?_)
    · replace F := F.1 hc
      refine s_aln dX13_fresh_118 rfl ?_
      refine k_319 dX13_fresh_119 rfl (Nat.le_of_ble_eq_true rfl) (Nat.le_of_ble_eq_true rfl) F (fun σ5 F => ?_)
      refine s_il dX13_fresh_122 rfl ?_
      exact s_ri dX13_fresh_124 rfl in_nar F
    · replace F := F.2 hc
      refine s_aln dX13_fresh_110 rfl ?_
      refine s_bi dX13_fresh_111 kb_15 ?_
      refine s_il dX13_fresh_113 rfl ?_
      refine k_312 dX13_fresh_115 rfl (Nat.le_of_ble_eq_true rfl) (Nat.le_of_ble_eq_true rfl) F (fun σ7 F => ?_)
      refine s_aln dX13_fresh_118 rfl ?_
      refine k_319 dX13_fresh_119 rfl (Nat.le_of_ble_eq_true rfl) (Nat.le_of_ble_eq_true rfl) F (fun σ9 F => ?_)
      refine s_il dX13_fresh_122 rfl ?_
      exact s_ri dX13_fresh_124 rfl in_nar F

def w_fresh_78 (C : rCx) (Q : Int32 → rS → Prop)  (a2 : Int32) (a3 : Int32) (a4 : Int32) (a5 : Int32) (σ : rS) : Prop :=
  cI C 0 m_isRight [.ref (co C)] σ (fun r2 σ1 =>
    (r2 = 0 →
      w_fresh_98 C Q  a2 a3 a4 σ1) ∧
    (¬ (r2 = 0) →
      (a5 = 0 →
        w_fresh_98 C Q  a2 a3 a4 σ1) ∧
      (¬ (a5 = 0) →
        cV C 0 m_flaw [.ref (co C), .int (10 : Int32), .int a4] σ1 (fun σ3 =>
          w_fresh_98 C Q  a2 a3 a4 σ3))))
theorem t_fresh_78 {C : rCx} (hC : cOK C) {Q : Int32 → rS → Prop}   {a2 : Int32} {a3 : Int32} {a4 : Int32} {a5 : Int32} {σ : rS} (F : w_fresh_78 C Q  a2 a3 a4 a5 σ) : wG C 3 m_fresh 78 [some (.ref (co C)), none, some (.int a2), some (.int a3), some (.int a4), some (.int a5), none] [] σ (qI Q) := by
  unfold w_fresh_78 at F
  refine s_aln dX13_fresh_78 rfl ?_
  refine k_325 dX13_fresh_79 rfl (Nat.le_of_ble_eq_true rfl) (Nat.le_of_ble_eq_true rfl) F (fun r2 σ1 F => ?_)
  refine s_i (t := 98) (r2 = 0) dX13_fresh_82 rfl rfl (fun hc => ?_) (fun hc => ?_)
  · replace F := F.1 hc
    exact s_k (t_fresh_98 hC  F) ⟨rfl, rfl, rfl, rfl, trivial⟩
  · replace F := F.2 hc
    refine s_il dX13_fresh_85 rfl ?_
    refine s_i (t := 98) (a5 = 0) dX13_fresh_87 rfl rfl (fun hc => ?_) (fun hc => ?_)
    · replace F := F.1 hc
      exact s_k (t_fresh_98 hC  F) ⟨rfl, rfl, rfl, rfl, trivial⟩
    · replace F := F.2 hc
      refine s_aln dX13_fresh_90 rfl ?_
      refine s_bi dX13_fresh_91 kb_10 ?_
      refine s_il dX13_fresh_93 rfl ?_
      refine k_312 dX13_fresh_95 rfl (Nat.le_of_ble_eq_true rfl) (Nat.le_of_ble_eq_true rfl) F (fun σ3 F => ?_)
      exact s_k (t_fresh_98 hC  F) ⟨rfl, rfl, rfl, rfl, trivial⟩

def w_fresh_18 (C : rCx) (Q : Int32 → rS → Prop)  (a1 : Int32) (a2 : Int32) (a3 : Int32) (a4 : Int32) (a5 : Int32) (a6 : Int32) (σ : rS) : Prop :=
  ∃ I : Nat → Int32 → Int32 → Int32 → Int32 → Int32 → Int32 → rS → Prop, (∃ n, I n a1 a2 a3 a4 a5 a6 σ) ∧ ∀ n a1 a2 a3 a4 a5 a6 σ, I n a1 a2 a3 a4 a5 a6 σ →
    (a1 = 0 →
      w_fresh_78 C Q  a2 a3 a4 a5 σ) ∧
    (¬ (a1 = 0) →
      inb (σ.1 41) 10 ∧
      ((σ.2.2.1 27 ((σ.1 41)).toNatClampNeg) ≤ a6 →
        w_fresh_78 C Q  a2 a3 a4 a5 σ) ∧
      (¬ ((σ.2.2.1 27 ((σ.1 41)).toNatClampNeg) ≤ a6) →
        (¬ (a5 = 0) →
          w_fresh_70 C Q (fun a1' a2' a3' a4' a5' a6' τ => ∃ k < n, I k a1' a2' a3' a4' a5' a6' τ) a1 a2 a3 a4 a6 (1 : Int32) σ) ∧
        (a5 = 0 →
          inb (((8 : Int32) * (σ.1 41)) + a6) 80 ∧
          cI C 0 m_isSame [.ref (co C), .int (σ.2.2.1 28 ((((8 : Int32) * (σ.1 41)) + a6)).toNatClampNeg), .int a4] σ (fun r2 σ1 =>
            (r2 = 0 →
              w_fresh_70 C Q (fun a1' a2' a3' a4' a5' a6' τ => ∃ k < n, I k a1' a2' a3' a4' a5' a6' τ) a1 a2 a3 a4 a6 (0 : Int32) σ1) ∧
            (¬ (r2 = 0) →
              w_fresh_70 C Q (fun a1' a2' a3' a4' a5' a6' τ => ∃ k < n, I k a1' a2' a3' a4' a5' a6' τ) a1 a2 a3 a4 a6 (1 : Int32) σ1)))))
theorem t_fresh_18 {C : rCx} (hC : cOK C) {Q : Int32 → rS → Prop}   {a1 : Int32} {a2 : Int32} {a3 : Int32} {a4 : Int32} {a5 : Int32} {a6 : Int32} {σ : rS} (F : w_fresh_18 C Q  a1 a2 a3 a4 a5 a6 σ) : wG C 3 m_fresh 18 [some (.ref (co C)), some (.int a1), some (.int a2), some (.int a3), some (.int a4), some (.int a5), some (.int a6)] [] σ (qI Q) := by
  obtain ⟨I, ⟨n0, hI0⟩, F0⟩ := F
  have key : ∀ n a1 a2 a3 a4 a5 a6 σ, I n a1 a2 a3 a4 a5 a6 σ → wG C 3 m_fresh 18 [some (.ref (co C)), some (.int a1), some (.int a2), some (.int a3), some (.int a4), some (.int a5), some (.int a6)] [] σ (qI Q) := by
    intro n
    induction n using Nat.strongRecOn with
    | _ n ih =>
      intro a1 a2 a3 a4 a5 a6 σ hI
      have F := F0 n a1 a2 a3 a4 a5 a6 σ hI
      clear hI hI0
      refine s_iln dX13_fresh_18 rfl ?_
      refine s_i (t := 78) (a1 = 0) dX13_fresh_19 rfl rfl (fun hc => ?_) (fun hc => ?_)
      · replace F := F.1 hc
        exact s_k (t_fresh_78 hC  F) ⟨rfl, rfl, rfl, rfl, rfl, trivial⟩
      · replace F := F.2 hc
        refine s_il dX13_fresh_22 rfl ?_
        refine s_aln dX13_fresh_24 rfl ?_
        refine gf_57 dX13_fresh_25 rfl ?_
        refine s_aln dX13_fresh_28 rfl ?_
        refine gf_346 dX13_fresh_29 rfl ?_
        refine s_ald hC dX13_fresh_32 rt_27 F.1 ?_
        replace F := F.2
        refine s_ii (t := 78) ((σ.2.2.1 27 ((σ.1 41)).toNatClampNeg) ≤ a6) dX13_fresh_33 rfl rfl (fun hc => ?_) (fun hc => ?_)
        · replace F := F.1 hc
          exact s_k (t_fresh_78 hC  F) ⟨rfl, rfl, rfl, rfl, rfl, trivial⟩
        · replace F := F.2 hc
          refine s_il dX13_fresh_36 rfl ?_
          refine s_in (t := 65) (a5 = 0) dX13_fresh_38 rfl rfl (fun hc => ?_) (fun hc => ?_)
          · replace F := F.1 hc
            refine s_ic dX13_fresh_65 ki_1 ?_
            refine s_goto (t := 70) dX13_fresh_66 rfl ?_
            exact s_k (t_fresh_70 hC (fun a1' a2' a3' a4' a5' a6' τ hb => by obtain ⟨k, hk, hI⟩ := hb; exact ih k hk a1' a2' a3' a4' a5' a6' τ hI) F) ⟨rfl, rfl, rfl, rfl, rfl, rfl, trivial⟩
          · replace F := F.2 hc
            refine s_aln dX13_fresh_41 rfl ?_
            refine s_aln dX13_fresh_42 rfl ?_
            refine gf_60 dX13_fresh_43 rfl ?_
            refine s_bi dX13_fresh_46 kb_8 ?_
            refine s_aln dX13_fresh_48 rfl ?_
            refine gf_346 dX13_fresh_49 rfl ?_
            refine s_imul dX13_fresh_52 ?_
            refine s_il dX13_fresh_53 rfl ?_
            refine s_iadd dX13_fresh_55 ?_
            refine s_ald hC dX13_fresh_56 rt_28 F.1 ?_
            replace F := F.2
            refine s_il dX13_fresh_57 rfl ?_
            refine k_336 dX13_fresh_59 rfl (Nat.le_of_ble_eq_true rfl) (Nat.le_of_ble_eq_true rfl) F (fun r2 σ1 F => ?_)
            refine s_i (t := 69) (r2 = 0) dX13_fresh_62 rfl rfl (fun hc => ?_) (fun hc => ?_)
            · replace F := F.1 hc
              refine s_ic dX13_fresh_69 ki_0 ?_
              exact s_k (t_fresh_70 hC (fun a1' a2' a3' a4' a5' a6' τ hb => by obtain ⟨k, hk, hI⟩ := hb; exact ih k hk a1' a2' a3' a4' a5' a6' τ hI) F) ⟨rfl, rfl, rfl, rfl, rfl, rfl, trivial⟩
            · replace F := F.2 hc
              refine s_ic dX13_fresh_65 ki_1 ?_
              refine s_goto (t := 70) dX13_fresh_66 rfl ?_
              exact s_k (t_fresh_70 hC (fun a1' a2' a3' a4' a5' a6' τ hb => by obtain ⟨k, hk, hI⟩ := hb; exact ih k hk a1' a2' a3' a4' a5' a6' τ hI) F) ⟨rfl, rfl, rfl, rfl, rfl, rfl, trivial⟩
  exact key n0 a1 a2 a3 a4 a5 a6 σ hI0

def w_fresh_0 (C : rCx) (Q : Int32 → rS → Prop)  (a1 : Int32) (a2 : Int32) (a3 : Int32) (σ : rS) : Prop :=
  cI C 1 m_due [.ref (co C), .int (1 : Int32)] σ (fun r2 σ1 =>
    cI C 1 m_isTold [.ref (co C), .int r2] σ1 (fun r4 σ3 =>
      w_fresh_18 C Q  a1 a2 a3 r2 r4 (0 : Int32) σ3))
theorem t_fresh_0 {C : rCx} (hC : cOK C) {Q : Int32 → rS → Prop}   {a1 : Int32} {a2 : Int32} {a3 : Int32} {σ : rS} (F : w_fresh_0 C Q  a1 a2 a3 σ) : wG C 3 m_fresh 0 [some (.ref (co C)), some (.int a1), some (.int a2), some (.int a3), none, none, none] [] σ (qI Q) := by
  unfold w_fresh_0 at F
  refine s_aln dX13_fresh_0 rfl ?_
  refine s_ic dX13_fresh_1 ki_1 ?_
  refine k_349 dX13_fresh_2 rfl (Nat.le_of_ble_eq_true rfl) (Nat.le_of_ble_eq_true rfl) F (fun r2 σ1 F => ?_)
  refine s_is dX13_fresh_5 (Nat.le_of_ble_eq_true rfl) rfl ?_
  refine s_aln dX13_fresh_7 rfl ?_
  refine s_il dX13_fresh_8 rfl ?_
  refine k_352 dX13_fresh_10 rfl (Nat.le_of_ble_eq_true rfl) (Nat.le_of_ble_eq_true rfl) F (fun r4 σ3 F => ?_)
  refine s_is dX13_fresh_13 (Nat.le_of_ble_eq_true rfl) rfl ?_
  refine s_ic dX13_fresh_15 ki_0 ?_
  refine s_is dX13_fresh_16 (Nat.le_of_ble_eq_true rfl) rfl ?_
  exact s_k (t_fresh_18 hC  F) ⟨rfl, rfl, rfl, rfl, rfl, rfl, rfl, trivial⟩

theorem m_fresh_run {C : rCx} (hC : cOK C) {Q : Int32 → rS → Prop} {a1 : Int32} {a2 : Int32} {a3 : Int32} {σ : rS} (F : w_fresh_0 C Q a1 a2 a3 σ) : cI C 3 m_fresh [.ref (co C), .int a1, .int a2, .int a3] σ Q := m_I (m_ent _ 3) (t_fresh_0 hC F)

theorem dX13_tellVar_0 : decode cX13_tellVar 0 = .ok (.aload_n 0, 1) := by decide +kernel
theorem dX13_tellVar_1 : decode cX13_tellVar 1 = .ok (.invokevirtual 319, 3) := by decide +kernel
theorem dX13_tellVar_4 : decode cX13_tellVar 4 = .ok (.aload_n 0, 1) := by decide +kernel
theorem dX13_tellVar_5 : decode cX13_tellVar 5 = .ok (.iconst 0, 1) := by decide +kernel
theorem dX13_tellVar_6 : decode cX13_tellVar 6 = .ok (.aload_n 0, 1) := by decide +kernel
theorem dX13_tellVar_7 : decode cX13_tellVar 7 = .ok (.getfield 333, 3) := by decide +kernel
theorem dX13_tellVar_10 : decode cX13_tellVar 10 = .ok (.bipush 10, 2) := by decide +kernel
theorem dX13_tellVar_12 : decode cX13_tellVar 12 = .ok (.invokevirtual 355, 3) := by decide +kernel
theorem dX13_tellVar_15 : decode cX13_tellVar 15 = .ok (.istore_n 1, 1) := by decide +kernel
theorem dX13_tellVar_16 : decode cX13_tellVar 16 = .ok (.iconst 0, 1) := by decide +kernel
theorem dX13_tellVar_17 : decode cX13_tellVar 17 = .ok (.istore_n 2, 1) := by decide +kernel
theorem dX13_tellVar_18 : decode cX13_tellVar 18 = .ok (.aload_n 0, 1) := by decide +kernel
theorem dX13_tellVar_19 : decode cX13_tellVar 19 = .ok (.invokevirtual 325, 3) := by decide +kernel
theorem dX13_tellVar_22 : decode cX13_tellVar 22 = .ok (.ifCond .eq 65, 3) := by decide +kernel
theorem dX13_tellVar_25 : decode cX13_tellVar 25 = .ok (.aload_n 0, 1) := by decide +kernel
theorem dX13_tellVar_26 : decode cX13_tellVar 26 = .ok (.bipush 61, 2) := by decide +kernel
theorem dX13_tellVar_28 : decode cX13_tellVar 28 = .ok (.invokevirtual 316, 3) := by decide +kernel
theorem dX13_tellVar_31 : decode cX13_tellVar 31 = .ok (.ifCond .eq 56, 3) := by decide +kernel
theorem dX13_tellVar_34 : decode cX13_tellVar 34 = .ok (.aload_n 0, 1) := by decide +kernel
theorem dX13_tellVar_35 : decode cX13_tellVar 35 = .ok (.invokevirtual 319, 3) := by decide +kernel
theorem dX13_tellVar_38 : decode cX13_tellVar 38 = .ok (.aload_n 0, 1) := by decide +kernel
theorem dX13_tellVar_39 : decode cX13_tellVar 39 = .ok (.bipush 45, 2) := by decide +kernel
theorem dX13_tellVar_41 : decode cX13_tellVar 41 = .ok (.invokevirtual 316, 3) := by decide +kernel
theorem dX13_tellVar_44 : decode cX13_tellVar 44 = .ok (.istore_n 3, 1) := by decide +kernel
theorem dX13_tellVar_45 : decode cX13_tellVar 45 = .ok (.iload_n 3, 1) := by decide +kernel
theorem dX13_tellVar_46 : decode cX13_tellVar 46 = .ok (.ifCond .eq 7, 3) := by decide +kernel
theorem dX13_tellVar_49 : decode cX13_tellVar 49 = .ok (.aload_n 0, 1) := by decide +kernel
theorem dX13_tellVar_50 : decode cX13_tellVar 50 = .ok (.invokevirtual 319, 3) := by decide +kernel
theorem dX13_tellVar_53 : decode cX13_tellVar 53 = .ok (.aload_n 0, 1) := by decide +kernel
theorem dX13_tellVar_54 : decode cX13_tellVar 54 = .ok (.iconst 2, 1) := by decide +kernel
theorem dX13_tellVar_55 : decode cX13_tellVar 55 = .ok (.invokevirtual 349, 3) := by decide +kernel
theorem dX13_tellVar_58 : decode cX13_tellVar 58 = .ok (.istore 4, 2) := by decide +kernel
theorem dX13_tellVar_60 : decode cX13_tellVar 60 = .ok (.iload_n 3, 1) := by decide +kernel
theorem dX13_tellVar_61 : decode cX13_tellVar 61 = .ok (.ifCond .eq 14, 3) := by decide +kernel
theorem dX13_tellVar_64 : decode cX13_tellVar 64 = .ok (.aload_n 0, 1) := by decide +kernel
theorem dX13_tellVar_65 : decode cX13_tellVar 65 = .ok (.getfield 26, 3) := by decide +kernel
theorem dX13_tellVar_68 : decode cX13_tellVar 68 = .ok (.iload 4, 2) := by decide +kernel
theorem dX13_tellVar_70 : decode cX13_tellVar 70 = .ok (.iaload, 1) := by decide +kernel
theorem dX13_tellVar_71 : decode cX13_tellVar 71 = .ok (.ineg, 1) := by decide +kernel
theorem dX13_tellVar_72 : decode cX13_tellVar 72 = .ok (.goto 10, 3) := by decide +kernel
theorem dX13_tellVar_75 : decode cX13_tellVar 75 = .ok (.aload_n 0, 1) := by decide +kernel
theorem dX13_tellVar_76 : decode cX13_tellVar 76 = .ok (.getfield 26, 3) := by decide +kernel
theorem dX13_tellVar_79 : decode cX13_tellVar 79 = .ok (.iload 4, 2) := by decide +kernel
theorem dX13_tellVar_81 : decode cX13_tellVar 81 = .ok (.iaload, 1) := by decide +kernel
theorem dX13_tellVar_82 : decode cX13_tellVar 82 = .ok (.istore_n 2, 1) := by decide +kernel
theorem dX13_tellVar_83 : decode cX13_tellVar 83 = .ok (.aload_n 0, 1) := by decide +kernel
theorem dX13_tellVar_84 : decode cX13_tellVar 84 = .ok (.invokevirtual 319, 3) := by decide +kernel
theorem dX13_tellVar_87 : decode cX13_tellVar 87 = .ok (.aload_n 0, 1) := by decide +kernel
theorem dX13_tellVar_88 : decode cX13_tellVar 88 = .ok (.bipush 59, 2) := by decide +kernel
theorem dX13_tellVar_90 : decode cX13_tellVar 90 = .ok (.invokevirtual 329, 3) := by decide +kernel
theorem dX13_tellVar_93 : decode cX13_tellVar 93 = .ok (.aload_n 0, 1) := by decide +kernel
theorem dX13_tellVar_94 : decode cX13_tellVar 94 = .ok (.invokevirtual 325, 3) := by decide +kernel
theorem dX13_tellVar_97 : decode cX13_tellVar 97 = .ok (.ifCond .eq 33, 3) := by decide +kernel
theorem dX13_tellVar_100 : decode cX13_tellVar 100 = .ok (.aload_n 0, 1) := by decide +kernel
theorem dX13_tellVar_101 : decode cX13_tellVar 101 = .ok (.getfield 36, 3) := by decide +kernel
theorem dX13_tellVar_104 : decode cX13_tellVar 104 = .ok (.aload_n 0, 1) := by decide +kernel
theorem dX13_tellVar_105 : decode cX13_tellVar 105 = .ok (.getfield 333, 3) := by decide +kernel
theorem dX13_tellVar_108 : decode cX13_tellVar 108 = .ok (.iload_n 1, 1) := by decide +kernel
theorem dX13_tellVar_109 : decode cX13_tellVar 109 = .ok (.iastore, 1) := by decide +kernel
theorem dX13_tellVar_110 : decode cX13_tellVar 110 = .ok (.aload_n 0, 1) := by decide +kernel
theorem dX13_tellVar_111 : decode cX13_tellVar 111 = .ok (.getfield 39, 3) := by decide +kernel
theorem dX13_tellVar_114 : decode cX13_tellVar 114 = .ok (.aload_n 0, 1) := by decide +kernel
theorem dX13_tellVar_115 : decode cX13_tellVar 115 = .ok (.getfield 333, 3) := by decide +kernel
theorem dX13_tellVar_118 : decode cX13_tellVar 118 = .ok (.iload_n 2, 1) := by decide +kernel
theorem dX13_tellVar_119 : decode cX13_tellVar 119 = .ok (.iastore, 1) := by decide +kernel
theorem dX13_tellVar_120 : decode cX13_tellVar 120 = .ok (.aload_n 0, 1) := by decide +kernel
theorem dX13_tellVar_121 : decode cX13_tellVar 121 = .ok (.dup, 1) := by decide +kernel
theorem dX13_tellVar_122 : decode cX13_tellVar 122 = .ok (.getfield 333, 3) := by decide +kernel
theorem dX13_tellVar_125 : decode cX13_tellVar 125 = .ok (.iconst 1, 1) := by decide +kernel
theorem dX13_tellVar_126 : decode cX13_tellVar 126 = .ok (.iadd, 1) := by decide +kernel
theorem dX13_tellVar_127 : decode cX13_tellVar 127 = .ok (.putfield 333, 3) := by decide +kernel
theorem dX13_tellVar_130 : decode cX13_tellVar 130 = .ok (.return_, 1) := by decide +kernel
def w_tellVar_87 (C : rCx) (Q : rS → Prop)  (a1 : Int32) (a2 : Int32) (σ : rS) : Prop :=
  cV C 3 m_sign [.ref (co C), .int (59 : Int32)] σ (fun σ1 =>
    cI C 0 m_isRight [.ref (co C)] σ1 (fun r4 σ3 =>
      (r4 = 0 →
        Q σ3) ∧
      (¬ (r4 = 0) →
        inb (σ3.1 15) 10 ∧
        ∀ σ5, σ5 = riU σ3 20 ((σ3.1 15)).toNatClampNeg a1 →
        inb (σ5.1 15) 10 ∧
        ∀ σ6, σ6 = riU σ5 21 ((σ5.1 15)).toNatClampNeg a2 →
        ∀ σ7, σ7 = siU σ6 15 ((σ6.1 15) + (1 : Int32)) →
        Q σ7)))
theorem t_tellVar_87 {C : rCx} (hC : cOK C) {Q : rS → Prop}   {a1 : Int32} {a2 : Int32} {σ : rS} (F : w_tellVar_87 C Q  a1 a2 σ) : wG C 4 m_tellVar 87 [some (.ref (co C)), some (.int a1), some (.int a2), none, none] [] σ (qV Q) := by
  unfold w_tellVar_87 at F
  refine s_aln dX13_tellVar_87 rfl ?_
  refine s_bi dX13_tellVar_88 kb_59 ?_
  refine k_329 dX13_tellVar_90 rfl (Nat.le_of_ble_eq_true rfl) (Nat.le_of_ble_eq_true rfl) F (fun σ1 F => ?_)
  refine s_aln dX13_tellVar_93 rfl ?_
  refine k_325 dX13_tellVar_94 rfl (Nat.le_of_ble_eq_true rfl) (Nat.le_of_ble_eq_true rfl) F (fun r4 σ3 F => ?_)
  refine s_i (t := 130) (r4 = 0) dX13_tellVar_97 rfl rfl (fun hc => ?_) (fun hc => ?_)
  · replace F := F.1 hc
    exact s_rv dX13_tellVar_130 rfl F
  · replace F := F.2 hc
    refine s_aln dX13_tellVar_100 rfl ?_
    refine gf_36 dX13_tellVar_101 rfl ?_
    refine s_aln dX13_tellVar_104 rfl ?_
    refine gf_333 dX13_tellVar_105 rfl ?_
    refine s_iln dX13_tellVar_108 rfl ?_
    refine s_astb hC dX13_tellVar_109 rt_20 F.1 (fun σ5 eσ5 => ?_)
    replace F := F.2 σ5 eσ5
    refine s_aln dX13_tellVar_110 rfl ?_
    refine gf_39 dX13_tellVar_111 rfl ?_
    refine s_aln dX13_tellVar_114 rfl ?_
    refine gf_333 dX13_tellVar_115 rfl ?_
    refine s_iln dX13_tellVar_118 rfl ?_
    refine s_astb hC dX13_tellVar_119 rt_21 F.1 (fun σ6 eσ6 => ?_)
    replace F := F.2 σ6 eσ6
    refine s_aln dX13_tellVar_120 rfl ?_
    refine s_dup dX13_tellVar_121 rfl ?_
    refine gf_333 dX13_tellVar_122 rfl ?_
    refine s_ic dX13_tellVar_125 ki_1 ?_
    refine s_iadd dX13_tellVar_126 ?_
    refine pf_333 hC dX13_tellVar_127 rfl (fun σ7 eσ7 => ?_)
    replace F := F σ7 eσ7
    exact s_rv dX13_tellVar_130 rfl F

def w_tellVar_82 (C : rCx) (Q : rS → Prop)  (a1 : Int32) (s0 : Int32) (σ : rS) : Prop :=
  cV C 2 m_go [.ref (co C)] σ (fun σ1 =>
    w_tellVar_87 C Q  a1 s0 σ1)
theorem t_tellVar_82 {C : rCx} (hC : cOK C) {Q : rS → Prop}   {a1 : Int32} {s0 : Int32} {σ : rS} (F : w_tellVar_82 C Q  a1 s0 σ) : wG C 4 m_tellVar 82 [some (.ref (co C)), some (.int a1), none, none, none] [.int s0] σ (qV Q) := by
  unfold w_tellVar_82 at F
  refine s_isn dX13_tellVar_82 (Nat.le_of_ble_eq_true rfl) rfl ?_
  refine s_aln dX13_tellVar_83 rfl ?_
  refine k_319 dX13_tellVar_84 rfl (Nat.le_of_ble_eq_true rfl) (Nat.le_of_ble_eq_true rfl) F (fun σ1 F => ?_)
  exact s_k (t_tellVar_87 hC  F) ⟨rfl, rfl, rfl, trivial⟩

def w_tellVar_53 (C : rCx) (Q : rS → Prop)  (a1 : Int32) (a3 : Int32) (σ : rS) : Prop :=
  cI C 1 m_due [.ref (co C), .int (2 : Int32)] σ (fun r2 σ1 =>
    (a3 = 0 →
      inb r2 131074 ∧
      w_tellVar_82 C Q  a1 (σ1.2.2.1 7 (r2).toNatClampNeg) σ1) ∧
    (¬ (a3 = 0) →
      inb r2 131074 ∧
      w_tellVar_82 C Q  a1 (-(σ1.2.2.1 7 (r2).toNatClampNeg)) σ1))
theorem t_tellVar_53 {C : rCx} (hC : cOK C) {Q : rS → Prop}   {a1 : Int32} {a3 : Int32} {σ : rS} (F : w_tellVar_53 C Q  a1 a3 σ) : wG C 4 m_tellVar 53 [some (.ref (co C)), some (.int a1), none, some (.int a3), none] [] σ (qV Q) := by
  unfold w_tellVar_53 at F
  refine s_aln dX13_tellVar_53 rfl ?_
  refine s_ic dX13_tellVar_54 ki_2 ?_
  refine k_349 dX13_tellVar_55 rfl (Nat.le_of_ble_eq_true rfl) (Nat.le_of_ble_eq_true rfl) F (fun r2 σ1 F => ?_)
  refine s_is dX13_tellVar_58 (Nat.le_of_ble_eq_true rfl) rfl ?_
  refine s_iln dX13_tellVar_60 rfl ?_
  refine s_i (t := 75) (a3 = 0) dX13_tellVar_61 rfl rfl (fun hc => ?_) (fun hc => ?_)
  · replace F := F.1 hc
    refine s_aln dX13_tellVar_75 rfl ?_
    refine gf_26 dX13_tellVar_76 rfl ?_
    refine s_il dX13_tellVar_79 rfl ?_
    refine s_ald hC dX13_tellVar_81 rt_7 F.1 ?_
    replace F := F.2
    exact s_k (t_tellVar_82 hC  F) ⟨rfl, rfl, trivial⟩
  · replace F := F.2 hc
    refine s_aln dX13_tellVar_64 rfl ?_
    refine gf_26 dX13_tellVar_65 rfl ?_
    refine s_il dX13_tellVar_68 rfl ?_
    refine s_ald hC dX13_tellVar_70 rt_7 F.1 ?_
    replace F := F.2
    refine s_ineg dX13_tellVar_71 ?_
    refine s_goto (t := 82) dX13_tellVar_72 rfl ?_
    exact s_k (t_tellVar_82 hC  F) ⟨rfl, rfl, trivial⟩

def w_tellVar_0 (C : rCx) (Q : rS → Prop)   (σ : rS) : Prop :=
  cV C 2 m_go [.ref (co C)] σ (fun σ1 =>
    cI C 3 m_fresh [.ref (co C), .int (0 : Int32), .int (σ1.1 15), .int (10 : Int32)] σ1 (fun r4 σ3 =>
      cI C 0 m_isRight [.ref (co C)] σ3 (fun r6 σ5 =>
        (r6 = 0 →
          w_tellVar_87 C Q  r4 (0 : Int32) σ5) ∧
        (¬ (r6 = 0) →
          cI C 0 m_isAt [.ref (co C), .int (61 : Int32)] σ5 (fun r8 σ7 =>
            (r8 = 0 →
              w_tellVar_87 C Q  r4 (0 : Int32) σ7) ∧
            (¬ (r8 = 0) →
              cV C 2 m_go [.ref (co C)] σ7 (fun σ9 =>
                cI C 0 m_isAt [.ref (co C), .int (45 : Int32)] σ9 (fun r12 σ11 =>
                  (r12 = 0 →
                    w_tellVar_53 C Q  r4 r12 σ11) ∧
                  (¬ (r12 = 0) →
                    cV C 2 m_go [.ref (co C)] σ11 (fun σ13 =>
                      w_tellVar_53 C Q  r4 r12 σ13))))))))))
theorem t_tellVar_0 {C : rCx} (hC : cOK C) {Q : rS → Prop}    {σ : rS} (F : w_tellVar_0 C Q   σ) : wG C 4 m_tellVar 0 [some (.ref (co C)), none, none, none, none] [] σ (qV Q) := by
  unfold w_tellVar_0 at F
  refine s_aln dX13_tellVar_0 rfl ?_
  refine k_319 dX13_tellVar_1 rfl (Nat.le_of_ble_eq_true rfl) (Nat.le_of_ble_eq_true rfl) F (fun σ1 F => ?_)
  refine s_aln dX13_tellVar_4 rfl ?_
  refine s_ic dX13_tellVar_5 ki_0 ?_
  refine s_aln dX13_tellVar_6 rfl ?_
  refine gf_333 dX13_tellVar_7 rfl ?_
  refine s_bi dX13_tellVar_10 kb_10 ?_
  refine k_355 dX13_tellVar_12 rfl (Nat.le_of_ble_eq_true rfl) (Nat.le_of_ble_eq_true rfl) F (fun r4 σ3 F => ?_)
  refine s_isn dX13_tellVar_15 (Nat.le_of_ble_eq_true rfl) rfl ?_
  refine s_ic dX13_tellVar_16 ki_0 ?_
  refine s_isn dX13_tellVar_17 (Nat.le_of_ble_eq_true rfl) rfl ?_
  refine s_aln dX13_tellVar_18 rfl ?_
  refine k_325 dX13_tellVar_19 rfl (Nat.le_of_ble_eq_true rfl) (Nat.le_of_ble_eq_true rfl) F (fun r6 σ5 F => ?_)
  refine s_i (t := 87) (r6 = 0) dX13_tellVar_22 rfl rfl (fun hc => ?_) (fun hc => ?_)
  · replace F := F.1 hc
    exact s_k (t_tellVar_87 hC  F) ⟨rfl, rfl, rfl, trivial⟩
  · replace F := F.2 hc
    refine s_aln dX13_tellVar_25 rfl ?_
    refine s_bi dX13_tellVar_26 kb_61 ?_
    refine k_316 dX13_tellVar_28 rfl (Nat.le_of_ble_eq_true rfl) (Nat.le_of_ble_eq_true rfl) F (fun r8 σ7 F => ?_)
    refine s_i (t := 87) (r8 = 0) dX13_tellVar_31 rfl rfl (fun hc => ?_) (fun hc => ?_)
    · replace F := F.1 hc
      exact s_k (t_tellVar_87 hC  F) ⟨rfl, rfl, rfl, trivial⟩
    · replace F := F.2 hc
      refine s_aln dX13_tellVar_34 rfl ?_
      refine k_319 dX13_tellVar_35 rfl (Nat.le_of_ble_eq_true rfl) (Nat.le_of_ble_eq_true rfl) F (fun σ9 F => ?_)
      refine s_aln dX13_tellVar_38 rfl ?_
      refine s_bi dX13_tellVar_39 kb_45 ?_
      refine k_316 dX13_tellVar_41 rfl (Nat.le_of_ble_eq_true rfl) (Nat.le_of_ble_eq_true rfl) F (fun r12 σ11 F => ?_)
      refine s_isn dX13_tellVar_44 (Nat.le_of_ble_eq_true rfl) rfl ?_
      refine s_iln dX13_tellVar_45 rfl ?_
      refine s_i (t := 53) (r12 = 0) dX13_tellVar_46 rfl rfl (fun hc => ?_) (fun hc => ?_)
      · replace F := F.1 hc
        exact s_k (t_tellVar_53 hC  F) ⟨rfl, rfl, rfl, trivial⟩
      · replace F := F.2 hc
        refine s_aln dX13_tellVar_49 rfl ?_
        refine k_319 dX13_tellVar_50 rfl (Nat.le_of_ble_eq_true rfl) (Nat.le_of_ble_eq_true rfl) F (fun σ13 F => ?_)
        exact s_k (t_tellVar_53 hC  F) ⟨rfl, rfl, rfl, trivial⟩

theorem m_tellVar_run {C : rCx} (hC : cOK C) {Q : rS → Prop}  {σ : rS} (F : w_tellVar_0 C Q  σ) : cV C 4 m_tellVar [.ref (co C)] σ Q := m_V (m_ent _ 4) (t_tellVar_0 hC F)

theorem dX13_tellArr_0 : decode cX13_tellArr 0 = .ok (.aload_n 0, 1) := by decide +kernel
theorem dX13_tellArr_1 : decode cX13_tellArr 1 = .ok (.invokevirtual 319, 3) := by decide +kernel
theorem dX13_tellArr_4 : decode cX13_tellArr 4 = .ok (.aload_n 0, 1) := by decide +kernel
theorem dX13_tellArr_5 : decode cX13_tellArr 5 = .ok (.iconst 0, 1) := by decide +kernel
theorem dX13_tellArr_6 : decode cX13_tellArr 6 = .ok (.aload_n 0, 1) := by decide +kernel
theorem dX13_tellArr_7 : decode cX13_tellArr 7 = .ok (.getfield 340, 3) := by decide +kernel
theorem dX13_tellArr_10 : decode cX13_tellArr 10 = .ok (.iconst 3, 1) := by decide +kernel
theorem dX13_tellArr_11 : decode cX13_tellArr 11 = .ok (.invokevirtual 355, 3) := by decide +kernel
theorem dX13_tellArr_14 : decode cX13_tellArr 14 = .ok (.istore_n 1, 1) := by decide +kernel
theorem dX13_tellArr_15 : decode cX13_tellArr 15 = .ok (.aload_n 0, 1) := by decide +kernel
theorem dX13_tellArr_16 : decode cX13_tellArr 16 = .ok (.bipush 91, 2) := by decide +kernel
theorem dX13_tellArr_18 : decode cX13_tellArr 18 = .ok (.invokevirtual 359, 3) := by decide +kernel
theorem dX13_tellArr_21 : decode cX13_tellArr 21 = .ok (.aload_n 0, 1) := by decide +kernel
theorem dX13_tellArr_22 : decode cX13_tellArr 22 = .ok (.iconst 2, 1) := by decide +kernel
theorem dX13_tellArr_23 : decode cX13_tellArr 23 = .ok (.invokevirtual 349, 3) := by decide +kernel
theorem dX13_tellArr_26 : decode cX13_tellArr 26 = .ok (.istore_n 2, 1) := by decide +kernel
theorem dX13_tellArr_27 : decode cX13_tellArr 27 = .ok (.aload_n 0, 1) := by decide +kernel
theorem dX13_tellArr_28 : decode cX13_tellArr 28 = .ok (.invokevirtual 325, 3) := by decide +kernel
theorem dX13_tellArr_31 : decode cX13_tellArr 31 = .ok (.ifCond .eq 25, 3) := by decide +kernel
theorem dX13_tellArr_34 : decode cX13_tellArr 34 = .ok (.aload_n 0, 1) := by decide +kernel
theorem dX13_tellArr_35 : decode cX13_tellArr 35 = .ok (.getfield 26, 3) := by decide +kernel
theorem dX13_tellArr_38 : decode cX13_tellArr 38 = .ok (.iload_n 2, 1) := by decide +kernel
theorem dX13_tellArr_39 : decode cX13_tellArr 39 = .ok (.iaload, 1) := by decide +kernel
theorem dX13_tellArr_40 : decode cX13_tellArr 40 = .ok (.iconst 1, 1) := by decide +kernel
theorem dX13_tellArr_41 : decode cX13_tellArr 41 = .ok (.bipush 8, 2) := by decide +kernel
theorem dX13_tellArr_43 : decode cX13_tellArr 43 = .ok (.invokestatic 362, 3) := by decide +kernel
theorem dX13_tellArr_46 : decode cX13_tellArr 46 = .ok (.ifCond .ne 10, 3) := by decide +kernel
theorem dX13_tellArr_49 : decode cX13_tellArr 49 = .ok (.aload_n 0, 1) := by decide +kernel
theorem dX13_tellArr_50 : decode cX13_tellArr 50 = .ok (.bipush 12, 2) := by decide +kernel
theorem dX13_tellArr_52 : decode cX13_tellArr 52 = .ok (.iload_n 2, 1) := by decide +kernel
theorem dX13_tellArr_53 : decode cX13_tellArr 53 = .ok (.invokevirtual 312, 3) := by decide +kernel
theorem dX13_tellArr_56 : decode cX13_tellArr 56 = .ok (.aload_n 0, 1) := by decide +kernel
theorem dX13_tellArr_57 : decode cX13_tellArr 57 = .ok (.invokevirtual 319, 3) := by decide +kernel
theorem dX13_tellArr_60 : decode cX13_tellArr 60 = .ok (.aload_n 0, 1) := by decide +kernel
theorem dX13_tellArr_61 : decode cX13_tellArr 61 = .ok (.bipush 93, 2) := by decide +kernel
theorem dX13_tellArr_63 : decode cX13_tellArr 63 = .ok (.invokevirtual 366, 3) := by decide +kernel
theorem dX13_tellArr_66 : decode cX13_tellArr 66 = .ok (.aload_n 0, 1) := by decide +kernel
theorem dX13_tellArr_67 : decode cX13_tellArr 67 = .ok (.bipush 59, 2) := by decide +kernel
theorem dX13_tellArr_69 : decode cX13_tellArr 69 = .ok (.invokevirtual 329, 3) := by decide +kernel
theorem dX13_tellArr_72 : decode cX13_tellArr 72 = .ok (.aload_n 0, 1) := by decide +kernel
theorem dX13_tellArr_73 : decode cX13_tellArr 73 = .ok (.invokevirtual 325, 3) := by decide +kernel
theorem dX13_tellArr_76 : decode cX13_tellArr 76 = .ok (.ifCond .eq 66, 3) := by decide +kernel
theorem dX13_tellArr_79 : decode cX13_tellArr 79 = .ok (.aload_n 0, 1) := by decide +kernel
theorem dX13_tellArr_80 : decode cX13_tellArr 80 = .ok (.getfield 42, 3) := by decide +kernel
theorem dX13_tellArr_83 : decode cX13_tellArr 83 = .ok (.aload_n 0, 1) := by decide +kernel
theorem dX13_tellArr_84 : decode cX13_tellArr 84 = .ok (.getfield 340, 3) := by decide +kernel
theorem dX13_tellArr_87 : decode cX13_tellArr 87 = .ok (.iload_n 1, 1) := by decide +kernel
theorem dX13_tellArr_88 : decode cX13_tellArr 88 = .ok (.iastore, 1) := by decide +kernel
theorem dX13_tellArr_89 : decode cX13_tellArr 89 = .ok (.aload_n 0, 1) := by decide +kernel
theorem dX13_tellArr_90 : decode cX13_tellArr 90 = .ok (.getfield 45, 3) := by decide +kernel
theorem dX13_tellArr_93 : decode cX13_tellArr 93 = .ok (.aload_n 0, 1) := by decide +kernel
theorem dX13_tellArr_94 : decode cX13_tellArr 94 = .ok (.getfield 340, 3) := by decide +kernel
theorem dX13_tellArr_97 : decode cX13_tellArr 97 = .ok (.aload_n 0, 1) := by decide +kernel
theorem dX13_tellArr_98 : decode cX13_tellArr 98 = .ok (.getfield 26, 3) := by decide +kernel
theorem dX13_tellArr_101 : decode cX13_tellArr 101 = .ok (.iload_n 2, 1) := by decide +kernel
theorem dX13_tellArr_102 : decode cX13_tellArr 102 = .ok (.iaload, 1) := by decide +kernel
theorem dX13_tellArr_103 : decode cX13_tellArr 103 = .ok (.iastore, 1) := by decide +kernel
theorem dX13_tellArr_104 : decode cX13_tellArr 104 = .ok (.aload_n 0, 1) := by decide +kernel
theorem dX13_tellArr_105 : decode cX13_tellArr 105 = .ok (.getfield 48, 3) := by decide +kernel
theorem dX13_tellArr_108 : decode cX13_tellArr 108 = .ok (.aload_n 0, 1) := by decide +kernel
theorem dX13_tellArr_109 : decode cX13_tellArr 109 = .ok (.getfield 340, 3) := by decide +kernel
theorem dX13_tellArr_112 : decode cX13_tellArr 112 = .ok (.aload_n 0, 1) := by decide +kernel
theorem dX13_tellArr_113 : decode cX13_tellArr 113 = .ok (.getfield 369, 3) := by decide +kernel
theorem dX13_tellArr_116 : decode cX13_tellArr 116 = .ok (.iastore, 1) := by decide +kernel
theorem dX13_tellArr_117 : decode cX13_tellArr 117 = .ok (.aload_n 0, 1) := by decide +kernel
theorem dX13_tellArr_118 : decode cX13_tellArr 118 = .ok (.dup, 1) := by decide +kernel
theorem dX13_tellArr_119 : decode cX13_tellArr 119 = .ok (.getfield 369, 3) := by decide +kernel
theorem dX13_tellArr_122 : decode cX13_tellArr 122 = .ok (.aload_n 0, 1) := by decide +kernel
theorem dX13_tellArr_123 : decode cX13_tellArr 123 = .ok (.getfield 26, 3) := by decide +kernel
theorem dX13_tellArr_126 : decode cX13_tellArr 126 = .ok (.iload_n 2, 1) := by decide +kernel
theorem dX13_tellArr_127 : decode cX13_tellArr 127 = .ok (.iaload, 1) := by decide +kernel
theorem dX13_tellArr_128 : decode cX13_tellArr 128 = .ok (.iadd, 1) := by decide +kernel
theorem dX13_tellArr_129 : decode cX13_tellArr 129 = .ok (.putfield 369, 3) := by decide +kernel
theorem dX13_tellArr_132 : decode cX13_tellArr 132 = .ok (.aload_n 0, 1) := by decide +kernel
theorem dX13_tellArr_133 : decode cX13_tellArr 133 = .ok (.dup, 1) := by decide +kernel
theorem dX13_tellArr_134 : decode cX13_tellArr 134 = .ok (.getfield 340, 3) := by decide +kernel
theorem dX13_tellArr_137 : decode cX13_tellArr 137 = .ok (.iconst 1, 1) := by decide +kernel
theorem dX13_tellArr_138 : decode cX13_tellArr 138 = .ok (.iadd, 1) := by decide +kernel
theorem dX13_tellArr_139 : decode cX13_tellArr 139 = .ok (.putfield 340, 3) := by decide +kernel
theorem dX13_tellArr_142 : decode cX13_tellArr 142 = .ok (.return_, 1) := by decide +kernel
def w_tellArr_56 (C : rCx) (Q : rS → Prop)  (a1 : Int32) (a2 : Int32) (σ : rS) : Prop :=
  cV C 2 m_go [.ref (co C)] σ (fun σ1 =>
    cV C 4 m_close [.ref (co C), .int (93 : Int32)] σ1 (fun σ3 =>
      cV C 3 m_sign [.ref (co C), .int (59 : Int32)] σ3 (fun σ5 =>
        cI C 0 m_isRight [.ref (co C)] σ5 (fun r8 σ7 =>
          (r8 = 0 →
            Q σ7) ∧
          (¬ (r8 = 0) →
            inb (σ7.1 16) 3 ∧
            ∀ σ9, σ9 = riU σ7 22 ((σ7.1 16)).toNatClampNeg a1 →
            inb a2 131074 ∧
            inb (σ9.1 16) 3 ∧
            ∀ σ10, σ10 = riU σ9 23 ((σ9.1 16)).toNatClampNeg (σ9.2.2.1 7 (a2).toNatClampNeg) →
            inb (σ10.1 16) 3 ∧
            ∀ σ11, σ11 = riU σ10 24 ((σ10.1 16)).toNatClampNeg (σ10.1 17) →
            inb a2 131074 ∧
            ∀ σ12, σ12 = siU σ11 17 ((σ11.1 17) + (σ11.2.2.1 7 (a2).toNatClampNeg)) →
            ∀ σ13, σ13 = siU σ12 16 ((σ12.1 16) + (1 : Int32)) →
            Q σ13)))))
theorem t_tellArr_56 {C : rCx} (hC : cOK C) {Q : rS → Prop}   {a1 : Int32} {a2 : Int32} {σ : rS} (F : w_tellArr_56 C Q  a1 a2 σ) : wG C 5 m_tellArr 56 [some (.ref (co C)), some (.int a1), some (.int a2)] [] σ (qV Q) := by
  unfold w_tellArr_56 at F
  refine s_aln dX13_tellArr_56 rfl ?_
  refine k_319 dX13_tellArr_57 rfl (Nat.le_of_ble_eq_true rfl) (Nat.le_of_ble_eq_true rfl) F (fun σ1 F => ?_)
  refine s_aln dX13_tellArr_60 rfl ?_
  refine s_bi dX13_tellArr_61 kb_93 ?_
  refine k_366 dX13_tellArr_63 rfl (Nat.le_of_ble_eq_true rfl) (Nat.le_of_ble_eq_true rfl) F (fun σ3 F => ?_)
  refine s_aln dX13_tellArr_66 rfl ?_
  refine s_bi dX13_tellArr_67 kb_59 ?_
  refine k_329 dX13_tellArr_69 rfl (Nat.le_of_ble_eq_true rfl) (Nat.le_of_ble_eq_true rfl) F (fun σ5 F => ?_)
  refine s_aln dX13_tellArr_72 rfl ?_
  refine k_325 dX13_tellArr_73 rfl (Nat.le_of_ble_eq_true rfl) (Nat.le_of_ble_eq_true rfl) F (fun r8 σ7 F => ?_)
  refine s_i (t := 142) (r8 = 0) dX13_tellArr_76 rfl rfl (fun hc => ?_) (fun hc => ?_)
  · replace F := F.1 hc
    exact s_rv dX13_tellArr_142 rfl F
  · replace F := F.2 hc
    refine s_aln dX13_tellArr_79 rfl ?_
    refine gf_42 dX13_tellArr_80 rfl ?_
    refine s_aln dX13_tellArr_83 rfl ?_
    refine gf_340 dX13_tellArr_84 rfl ?_
    refine s_iln dX13_tellArr_87 rfl ?_
    refine s_astb hC dX13_tellArr_88 rt_22 F.1 (fun σ9 eσ9 => ?_)
    replace F := F.2 σ9 eσ9
    refine s_aln dX13_tellArr_89 rfl ?_
    refine gf_45 dX13_tellArr_90 rfl ?_
    refine s_aln dX13_tellArr_93 rfl ?_
    refine gf_340 dX13_tellArr_94 rfl ?_
    refine s_aln dX13_tellArr_97 rfl ?_
    refine gf_26 dX13_tellArr_98 rfl ?_
    refine s_iln dX13_tellArr_101 rfl ?_
    refine s_ald hC dX13_tellArr_102 rt_7 F.1 ?_
    replace F := F.2
    refine s_astb hC dX13_tellArr_103 rt_23 F.1 (fun σ10 eσ10 => ?_)
    replace F := F.2 σ10 eσ10
    refine s_aln dX13_tellArr_104 rfl ?_
    refine gf_48 dX13_tellArr_105 rfl ?_
    refine s_aln dX13_tellArr_108 rfl ?_
    refine gf_340 dX13_tellArr_109 rfl ?_
    refine s_aln dX13_tellArr_112 rfl ?_
    refine gf_369 dX13_tellArr_113 rfl ?_
    refine s_astb hC dX13_tellArr_116 rt_24 F.1 (fun σ11 eσ11 => ?_)
    replace F := F.2 σ11 eσ11
    refine s_aln dX13_tellArr_117 rfl ?_
    refine s_dup dX13_tellArr_118 rfl ?_
    refine gf_369 dX13_tellArr_119 rfl ?_
    refine s_aln dX13_tellArr_122 rfl ?_
    refine gf_26 dX13_tellArr_123 rfl ?_
    refine s_iln dX13_tellArr_126 rfl ?_
    refine s_ald hC dX13_tellArr_127 rt_7 F.1 ?_
    replace F := F.2
    refine s_iadd dX13_tellArr_128 ?_
    refine pf_369 hC dX13_tellArr_129 rfl (fun σ12 eσ12 => ?_)
    replace F := F σ12 eσ12
    refine s_aln dX13_tellArr_132 rfl ?_
    refine s_dup dX13_tellArr_133 rfl ?_
    refine gf_340 dX13_tellArr_134 rfl ?_
    refine s_ic dX13_tellArr_137 ki_1 ?_
    refine s_iadd dX13_tellArr_138 ?_
    refine pf_340 hC dX13_tellArr_139 rfl (fun σ13 eσ13 => ?_)
    replace F := F σ13 eσ13
    exact s_rv dX13_tellArr_142 rfl F

def w_tellArr_0 (C : rCx) (Q : rS → Prop)   (σ : rS) : Prop :=
  cV C 2 m_go [.ref (co C)] σ (fun σ1 =>
    cI C 3 m_fresh [.ref (co C), .int (0 : Int32), .int (σ1.1 16), .int (3 : Int32)] σ1 (fun r4 σ3 =>
      cV C 3 m_open [.ref (co C), .int (91 : Int32)] σ3 (fun σ5 =>
        cI C 1 m_due [.ref (co C), .int (2 : Int32)] σ5 (fun r8 σ7 =>
          cI C 0 m_isRight [.ref (co C)] σ7 (fun r10 σ9 =>
            (r10 = 0 →
              w_tellArr_56 C Q  r4 r8 σ9) ∧
            (¬ (r10 = 0) →
              inb r8 131074 ∧
              cI C 0 m_within [.int (σ9.2.2.1 7 (r8).toNatClampNeg), .int (1 : Int32), .int (8 : Int32)] σ9 (fun r12 σ11 =>
                (¬ (r12 = 0) →
                  w_tellArr_56 C Q  r4 r8 σ11) ∧
                (r12 = 0 →
                  cV C 0 m_flaw [.ref (co C), .int (12 : Int32), .int r8] σ11 (fun σ13 =>
                    w_tellArr_56 C Q  r4 r8 σ13)))))))))
theorem t_tellArr_0 {C : rCx} (hC : cOK C) {Q : rS → Prop}    {σ : rS} (F : w_tellArr_0 C Q   σ) : wG C 5 m_tellArr 0 [some (.ref (co C)), none, none] [] σ (qV Q) := by
  unfold w_tellArr_0 at F
  refine s_aln dX13_tellArr_0 rfl ?_
  refine k_319 dX13_tellArr_1 rfl (Nat.le_of_ble_eq_true rfl) (Nat.le_of_ble_eq_true rfl) F (fun σ1 F => ?_)
  refine s_aln dX13_tellArr_4 rfl ?_
  refine s_ic dX13_tellArr_5 ki_0 ?_
  refine s_aln dX13_tellArr_6 rfl ?_
  refine gf_340 dX13_tellArr_7 rfl ?_
  refine s_ic dX13_tellArr_10 ki_3 ?_
  refine k_355 dX13_tellArr_11 rfl (Nat.le_of_ble_eq_true rfl) (Nat.le_of_ble_eq_true rfl) F (fun r4 σ3 F => ?_)
  refine s_isn dX13_tellArr_14 (Nat.le_of_ble_eq_true rfl) rfl ?_
  refine s_aln dX13_tellArr_15 rfl ?_
  refine s_bi dX13_tellArr_16 kb_91 ?_
  refine k_359 dX13_tellArr_18 rfl (Nat.le_of_ble_eq_true rfl) (Nat.le_of_ble_eq_true rfl) F (fun σ5 F => ?_)
  refine s_aln dX13_tellArr_21 rfl ?_
  refine s_ic dX13_tellArr_22 ki_2 ?_
  refine k_349 dX13_tellArr_23 rfl (Nat.le_of_ble_eq_true rfl) (Nat.le_of_ble_eq_true rfl) F (fun r8 σ7 F => ?_)
  refine s_isn dX13_tellArr_26 (Nat.le_of_ble_eq_true rfl) rfl ?_
  refine s_aln dX13_tellArr_27 rfl ?_
  refine k_325 dX13_tellArr_28 rfl (Nat.le_of_ble_eq_true rfl) (Nat.le_of_ble_eq_true rfl) F (fun r10 σ9 F => ?_)
  refine s_i (t := 56) (r10 = 0) dX13_tellArr_31 rfl rfl (fun hc => ?_) (fun hc => ?_)
  · replace F := F.1 hc
    exact s_k (t_tellArr_56 hC  F) ⟨rfl, rfl, rfl, trivial⟩
  · replace F := F.2 hc
    refine s_aln dX13_tellArr_34 rfl ?_
    refine gf_26 dX13_tellArr_35 rfl ?_
    refine s_iln dX13_tellArr_38 rfl ?_
    refine s_ald hC dX13_tellArr_39 rt_7 F.1 ?_
    replace F := F.2
    refine s_ic dX13_tellArr_40 ki_1 ?_
    refine s_bi dX13_tellArr_41 kb_8 ?_
    refine k_362 dX13_tellArr_43 rfl (Nat.le_of_ble_eq_true rfl) (Nat.le_of_ble_eq_true rfl) F (fun r12 σ11 F => ?_)
    refine s_in (t := 56) (r12 = 0) dX13_tellArr_46 rfl rfl (fun hc => ?_) (fun hc => ?_)
    · replace F := F.1 hc
      exact s_k (t_tellArr_56 hC  F) ⟨rfl, rfl, rfl, trivial⟩
    · replace F := F.2 hc
      refine s_aln dX13_tellArr_49 rfl ?_
      refine s_bi dX13_tellArr_50 kb_12 ?_
      refine s_iln dX13_tellArr_52 rfl ?_
      refine k_312 dX13_tellArr_53 rfl (Nat.le_of_ble_eq_true rfl) (Nat.le_of_ble_eq_true rfl) F (fun σ13 F => ?_)
      exact s_k (t_tellArr_56 hC  F) ⟨rfl, rfl, rfl, trivial⟩

theorem m_tellArr_run {C : rCx} (hC : cOK C) {Q : rS → Prop}  {σ : rS} (F : w_tellArr_0 C Q  σ) : cV C 5 m_tellArr [.ref (co C)] σ Q := m_V (m_ent _ 2) (t_tellArr_0 hC F)

theorem dX13_openBlock_0 : decode cX13_openBlock 0 = .ok (.aload_n 0, 1) := by decide +kernel
theorem dX13_openBlock_1 : decode cX13_openBlock 1 = .ok (.getfield 96, 3) := by decide +kernel
theorem dX13_openBlock_4 : decode cX13_openBlock 4 = .ok (.aload_n 0, 1) := by decide +kernel
theorem dX13_openBlock_5 : decode cX13_openBlock 5 = .ok (.getfield 375, 3) := by decide +kernel
theorem dX13_openBlock_8 : decode cX13_openBlock 8 = .ok (.iload_n 1, 1) := by decide +kernel
theorem dX13_openBlock_9 : decode cX13_openBlock 9 = .ok (.iastore, 1) := by decide +kernel
theorem dX13_openBlock_10 : decode cX13_openBlock 10 = .ok (.aload_n 0, 1) := by decide +kernel
theorem dX13_openBlock_11 : decode cX13_openBlock 11 = .ok (.getfield 99, 3) := by decide +kernel
theorem dX13_openBlock_14 : decode cX13_openBlock 14 = .ok (.aload_n 0, 1) := by decide +kernel
theorem dX13_openBlock_15 : decode cX13_openBlock 15 = .ok (.getfield 375, 3) := by decide +kernel
theorem dX13_openBlock_18 : decode cX13_openBlock 18 = .ok (.iconst (-1), 1) := by decide +kernel
theorem dX13_openBlock_19 : decode cX13_openBlock 19 = .ok (.iastore, 1) := by decide +kernel
theorem dX13_openBlock_20 : decode cX13_openBlock 20 = .ok (.aload_n 0, 1) := by decide +kernel
theorem dX13_openBlock_21 : decode cX13_openBlock 21 = .ok (.getfield 102, 3) := by decide +kernel
theorem dX13_openBlock_24 : decode cX13_openBlock 24 = .ok (.aload_n 0, 1) := by decide +kernel
theorem dX13_openBlock_25 : decode cX13_openBlock 25 = .ok (.getfield 375, 3) := by decide +kernel
theorem dX13_openBlock_28 : decode cX13_openBlock 28 = .ok (.iload_n 2, 1) := by decide +kernel
theorem dX13_openBlock_29 : decode cX13_openBlock 29 = .ok (.bastore, 1) := by decide +kernel
theorem dX13_openBlock_30 : decode cX13_openBlock 30 = .ok (.aload_n 0, 1) := by decide +kernel
theorem dX13_openBlock_31 : decode cX13_openBlock 31 = .ok (.dup, 1) := by decide +kernel
theorem dX13_openBlock_32 : decode cX13_openBlock 32 = .ok (.getfield 375, 3) := by decide +kernel
theorem dX13_openBlock_35 : decode cX13_openBlock 35 = .ok (.iconst 1, 1) := by decide +kernel
theorem dX13_openBlock_36 : decode cX13_openBlock 36 = .ok (.iadd, 1) := by decide +kernel
theorem dX13_openBlock_37 : decode cX13_openBlock 37 = .ok (.putfield 375, 3) := by decide +kernel
theorem dX13_openBlock_40 : decode cX13_openBlock 40 = .ok (.return_, 1) := by decide +kernel
def w_openBlock_0 (C : rCx) (Q : rS → Prop)  (a1 : Int32) (a2 : Int32) (σ : rS) : Prop :=
  inb (σ.1 42) 64 ∧
  ∀ σ1, σ1 = riU σ 43 ((σ.1 42)).toNatClampNeg a1 →
  inb (σ1.1 42) 64 ∧
  ∀ σ2, σ2 = riU σ1 44 ((σ1.1 42)).toNatClampNeg (-1 : Int32) →
  inb (σ2.1 42) 64 ∧
  ∀ σ3, σ3 = riU σ2 45 ((σ2.1 42)).toNatClampNeg (vp_nar .boolean a2) →
  ∀ σ4, σ4 = siU σ3 42 ((σ3.1 42) + (1 : Int32)) →
  Q σ4
theorem t_openBlock_0 {C : rCx} (hC : cOK C) {Q : rS → Prop}   {a1 : Int32} {a2 : Int32} {σ : rS} (F : w_openBlock_0 C Q  a1 a2 σ) : wG C 0 m_openBlock 0 [some (.ref (co C)), some (.int a1), some (.int a2)] [] σ (qV Q) := by
  unfold w_openBlock_0 at F
  refine s_aln dX13_openBlock_0 rfl ?_
  refine gf_96 dX13_openBlock_1 rfl ?_
  refine s_aln dX13_openBlock_4 rfl ?_
  refine gf_375 dX13_openBlock_5 rfl ?_
  refine s_iln dX13_openBlock_8 rfl ?_
  refine s_astb hC dX13_openBlock_9 rt_43 F.1 (fun σ1 eσ1 => ?_)
  replace F := F.2 σ1 eσ1
  refine s_aln dX13_openBlock_10 rfl ?_
  refine gf_99 dX13_openBlock_11 rfl ?_
  refine s_aln dX13_openBlock_14 rfl ?_
  refine gf_375 dX13_openBlock_15 rfl ?_
  refine s_ic dX13_openBlock_18 ki_m1 ?_
  refine s_astb hC dX13_openBlock_19 rt_44 F.1 (fun σ2 eσ2 => ?_)
  replace F := F.2 σ2 eσ2
  refine s_aln dX13_openBlock_20 rfl ?_
  refine gf_102 dX13_openBlock_21 rfl ?_
  refine s_aln dX13_openBlock_24 rfl ?_
  refine gf_375 dX13_openBlock_25 rfl ?_
  refine s_iln dX13_openBlock_28 rfl ?_
  refine s_zstb hC dX13_openBlock_29 rt_45 F.1 (fun σ3 eσ3 => ?_)
  replace F := F.2 σ3 eσ3
  refine s_aln dX13_openBlock_30 rfl ?_
  refine s_dup dX13_openBlock_31 rfl ?_
  refine gf_375 dX13_openBlock_32 rfl ?_
  refine s_ic dX13_openBlock_35 ki_1 ?_
  refine s_iadd dX13_openBlock_36 ?_
  refine pf_375 hC dX13_openBlock_37 rfl (fun σ4 eσ4 => ?_)
  replace F := F σ4 eσ4
  exact s_rv dX13_openBlock_40 rfl F

theorem m_openBlock_run {C : rCx} (hC : cOK C) {Q : rS → Prop} {a1 : Int32} {a2 : Int32} {σ : rS} (F : w_openBlock_0 C Q a1 a2 σ) : cV C 0 m_openBlock [.ref (co C), .int a1, .int a2] σ Q := m_V (m_ent _ 0) (t_openBlock_0 hC F)

