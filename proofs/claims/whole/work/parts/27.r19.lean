/-! methods of the reference: findHeavy, told, list, weigh, product, isPairFree -/
theorem dX13_findHeavy_0 : decode cX13_findHeavy 0 = .ok (.iconst 0, 1) := by decide +kernel
theorem dX13_findHeavy_1 : decode cX13_findHeavy 1 = .ok (.istore_n 1, 1) := by decide +kernel
theorem dX13_findHeavy_2 : decode cX13_findHeavy 2 = .ok (.iload_n 1, 1) := by decide +kernel
theorem dX13_findHeavy_3 : decode cX13_findHeavy 3 = .ok (.aload_n 0, 1) := by decide +kernel
theorem dX13_findHeavy_4 : decode cX13_findHeavy 4 = .ok (.getfield 545, 3) := by decide +kernel
theorem dX13_findHeavy_7 : decode cX13_findHeavy 7 = .ok (.if_icmp .ge 27, 3) := by decide +kernel
theorem dX13_findHeavy_10 : decode cX13_findHeavy 10 = .ok (.aload_n 0, 1) := by decide +kernel
theorem dX13_findHeavy_11 : decode cX13_findHeavy 11 = .ok (.getfield 241, 3) := by decide +kernel
theorem dX13_findHeavy_14 : decode cX13_findHeavy 14 = .ok (.iload_n 1, 1) := by decide +kernel
theorem dX13_findHeavy_15 : decode cX13_findHeavy 15 = .ok (.aload_n 0, 1) := by decide +kernel
theorem dX13_findHeavy_16 : decode cX13_findHeavy 16 = .ok (.getfield 542, 3) := by decide +kernel
theorem dX13_findHeavy_19 : decode cX13_findHeavy 19 = .ok (.ifCond .ne 7, 3) := by decide +kernel
theorem dX13_findHeavy_22 : decode cX13_findHeavy 22 = .ok (.iconst 1, 1) := by decide +kernel
theorem dX13_findHeavy_23 : decode cX13_findHeavy 23 = .ok (.goto 4, 3) := by decide +kernel
theorem dX13_findHeavy_26 : decode cX13_findHeavy 26 = .ok (.iconst 0, 1) := by decide +kernel
theorem dX13_findHeavy_27 : decode cX13_findHeavy 27 = .ok (.bastore, 1) := by decide +kernel
theorem dX13_findHeavy_28 : decode cX13_findHeavy 28 = .ok (.iinc 1 1, 3) := by decide +kernel
theorem dX13_findHeavy_31 : decode cX13_findHeavy 31 = .ok (.goto (-29), 3) := by decide +kernel
theorem dX13_findHeavy_34 : decode cX13_findHeavy 34 = .ok (.iconst 0, 1) := by decide +kernel
theorem dX13_findHeavy_35 : decode cX13_findHeavy 35 = .ok (.istore_n 1, 1) := by decide +kernel
theorem dX13_findHeavy_36 : decode cX13_findHeavy 36 = .ok (.iload_n 1, 1) := by decide +kernel
theorem dX13_findHeavy_37 : decode cX13_findHeavy 37 = .ok (.aload_n 0, 1) := by decide +kernel
theorem dX13_findHeavy_38 : decode cX13_findHeavy 38 = .ok (.getfield 542, 3) := by decide +kernel
theorem dX13_findHeavy_41 : decode cX13_findHeavy 41 = .ok (.if_icmp .ge 74, 3) := by decide +kernel
theorem dX13_findHeavy_44 : decode cX13_findHeavy 44 = .ok (.aload_n 0, 1) := by decide +kernel
theorem dX13_findHeavy_45 : decode cX13_findHeavy 45 = .ok (.getfield 151, 3) := by decide +kernel
theorem dX13_findHeavy_48 : decode cX13_findHeavy 48 = .ok (.iload_n 1, 1) := by decide +kernel
theorem dX13_findHeavy_49 : decode cX13_findHeavy 49 = .ok (.iaload, 1) := by decide +kernel
theorem dX13_findHeavy_50 : decode cX13_findHeavy 50 = .ok (.istore_n 2, 1) := by decide +kernel
theorem dX13_findHeavy_51 : decode cX13_findHeavy 51 = .ok (.aload_n 0, 1) := by decide +kernel
theorem dX13_findHeavy_52 : decode cX13_findHeavy 52 = .ok (.iload_n 1, 1) := by decide +kernel
theorem dX13_findHeavy_53 : decode cX13_findHeavy 53 = .ok (.invokevirtual 793, 3) := by decide +kernel
theorem dX13_findHeavy_56 : decode cX13_findHeavy 56 = .ok (.ifCond .eq 53, 3) := by decide +kernel
theorem dX13_findHeavy_59 : decode cX13_findHeavy 59 = .ok (.iload_n 2, 1) := by decide +kernel
theorem dX13_findHeavy_60 : decode cX13_findHeavy 60 = .ok (.aload_n 0, 1) := by decide +kernel
theorem dX13_findHeavy_61 : decode cX13_findHeavy 61 = .ok (.getfield 151, 3) := by decide +kernel
theorem dX13_findHeavy_64 : decode cX13_findHeavy 64 = .ok (.iload_n 1, 1) := by decide +kernel
theorem dX13_findHeavy_65 : decode cX13_findHeavy 65 = .ok (.iconst 1, 1) := by decide +kernel
theorem dX13_findHeavy_66 : decode cX13_findHeavy 66 = .ok (.iadd, 1) := by decide +kernel
theorem dX13_findHeavy_67 : decode cX13_findHeavy 67 = .ok (.iaload, 1) := by decide +kernel
theorem dX13_findHeavy_68 : decode cX13_findHeavy 68 = .ok (.if_icmp .ge 41, 3) := by decide +kernel
theorem dX13_findHeavy_71 : decode cX13_findHeavy 71 = .ok (.aload_n 0, 1) := by decide +kernel
theorem dX13_findHeavy_72 : decode cX13_findHeavy 72 = .ok (.getfield 154, 3) := by decide +kernel
theorem dX13_findHeavy_75 : decode cX13_findHeavy 75 = .ok (.iload_n 2, 1) := by decide +kernel
theorem dX13_findHeavy_76 : decode cX13_findHeavy 76 = .ok (.iaload, 1) := by decide +kernel
theorem dX13_findHeavy_77 : decode cX13_findHeavy 77 = .ok (.iconst 1, 1) := by decide +kernel
theorem dX13_findHeavy_78 : decode cX13_findHeavy 78 = .ok (.if_icmp .ne 25, 3) := by decide +kernel
theorem dX13_findHeavy_81 : decode cX13_findHeavy 81 = .ok (.aload_n 0, 1) := by decide +kernel
theorem dX13_findHeavy_82 : decode cX13_findHeavy 82 = .ok (.iload_n 1, 1) := by decide +kernel
theorem dX13_findHeavy_83 : decode cX13_findHeavy 83 = .ok (.iload_n 2, 1) := by decide +kernel
theorem dX13_findHeavy_84 : decode cX13_findHeavy 84 = .ok (.iconst 1, 1) := by decide +kernel
theorem dX13_findHeavy_85 : decode cX13_findHeavy 85 = .ok (.invokevirtual 640, 3) := by decide +kernel
theorem dX13_findHeavy_88 : decode cX13_findHeavy 88 = .ok (.ifCond .eq 15, 3) := by decide +kernel
theorem dX13_findHeavy_91 : decode cX13_findHeavy 91 = .ok (.aload_n 0, 1) := by decide +kernel
theorem dX13_findHeavy_92 : decode cX13_findHeavy 92 = .ok (.getfield 241, 3) := by decide +kernel
theorem dX13_findHeavy_95 : decode cX13_findHeavy 95 = .ok (.aload_n 0, 1) := by decide +kernel
theorem dX13_findHeavy_96 : decode cX13_findHeavy 96 = .ok (.getfield 157, 3) := by decide +kernel
theorem dX13_findHeavy_99 : decode cX13_findHeavy 99 = .ok (.iload_n 2, 1) := by decide +kernel
theorem dX13_findHeavy_100 : decode cX13_findHeavy 100 = .ok (.iaload, 1) := by decide +kernel
theorem dX13_findHeavy_101 : decode cX13_findHeavy 101 = .ok (.iconst 1, 1) := by decide +kernel
theorem dX13_findHeavy_102 : decode cX13_findHeavy 102 = .ok (.bastore, 1) := by decide +kernel
theorem dX13_findHeavy_103 : decode cX13_findHeavy 103 = .ok (.iinc 2 1, 3) := by decide +kernel
theorem dX13_findHeavy_106 : decode cX13_findHeavy 106 = .ok (.goto (-55), 3) := by decide +kernel
theorem dX13_findHeavy_109 : decode cX13_findHeavy 109 = .ok (.iinc 1 1, 3) := by decide +kernel
theorem dX13_findHeavy_112 : decode cX13_findHeavy 112 = .ok (.goto (-76), 3) := by decide +kernel
theorem dX13_findHeavy_115 : decode cX13_findHeavy 115 = .ok (.return_, 1) := by decide +kernel
def w_findHeavy_27 (C : rCx) (Q : rS → Prop) (B2 : Int32 → rS → Prop) (a1 : Int32) (s1 : Int32) (s2 : Int32) (σ : rS) : Prop :=
  inb s1 1000 ∧
  ∀ σ1, σ1 = riU σ 120 (s1).toNatClampNeg (vp_nar .boolean s2) →
  ∀ v1_2 : Int32, v1_2 = a1 + (1 : Int32) →
  B2 v1_2 σ1
theorem t_findHeavy_27 {C : rCx} (hC : cOK C) {Q : rS → Prop} {B2 : Int32 → rS → Prop} (hB2 : ∀ a1' τ, B2 a1' τ → wG C 1 m_findHeavy 2 [some (.ref (co C)), some (.int a1'), none] [] τ (qV Q)) {a1 : Int32} {s1 : Int32} {s2 : Int32} {σ : rS} (F : w_findHeavy_27 C Q B2 a1 s1 s2 σ) : wG C 1 m_findHeavy 27 [some (.ref (co C)), some (.int a1), none] [.int s2, .int s1, .ref (cad C 120)] σ (qV Q) := by
  unfold w_findHeavy_27 at F
  refine s_zstb hC dX13_findHeavy_27 rt_120 F.1 (fun σ1 eσ1 => ?_)
  replace F := F.2 σ1 eσ1
  refine s_incb dX13_findHeavy_28 ki_1 rfl (Nat.le_of_ble_eq_true rfl) (fun v1_2 ev1_2 => ?_)
  replace F := F v1_2 ev1_2
  show wG _ _ _ _ [some (.ref (co C)), some (.int v1_2), none] _ _ _
  refine s_goto (t := 2) dX13_findHeavy_31 rfl ?_
  exact s_k (hB2 _ _ F) ⟨rfl, rfl, trivial⟩

def w_findHeavy_51 (C : rCx) (Q : rS → Prop) (B36 : Int32 → rS → Prop) (a1 : Int32) (a2 : Int32) (σ : rS) : Prop :=
  ∃ I : Nat → Int32 → Int32 → rS → Prop, (∃ n, I n a1 a2 σ) ∧ ∀ n a1 a2 σ, I n a1 a2 σ →
    cI C 0 m_isVisited [.ref (co C), .int a1] σ (fun r2 σ1 =>
      (r2 = 0 →
        ∀ v1_3 : Int32, v1_3 = a1 + (1 : Int32) →
        B36 v1_3 σ1) ∧
      (¬ (r2 = 0) →
        inb (a1 + (1 : Int32)) 1001 ∧
        ((σ1.2.2.1 76 ((a1 + (1 : Int32))).toNatClampNeg) ≤ a2 →
          ∀ v1_4 : Int32, v1_4 = a1 + (1 : Int32) →
          B36 v1_4 σ1) ∧
        (¬ ((σ1.2.2.1 76 ((a1 + (1 : Int32))).toNatClampNeg) ≤ a2) →
          inb a2 20000 ∧
          (¬ ((σ1.2.2.1 77 (a2).toNatClampNeg) = (1 : Int32)) →
            ∀ v2_5 : Int32, v2_5 = a2 + (1 : Int32) →
            ∃ k < n, I k a1 v2_5 σ1) ∧
          ((σ1.2.2.1 77 (a2).toNatClampNeg) = (1 : Int32) →
            cI C 0 m_isTaken [.ref (co C), .int a1, .int a2, .int (1 : Int32)] σ1 (fun r7 σ6 =>
              (r7 = 0 →
                ∀ v2_8 : Int32, v2_8 = a2 + (1 : Int32) →
                ∃ k < n, I k a1 v2_8 σ6) ∧
              (¬ (r7 = 0) →
                inb a2 20000 ∧
                inb (σ6.2.2.1 78 (a2).toNatClampNeg) 1000 ∧
                ∀ σ9, σ9 = riU σ6 120 ((σ6.2.2.1 78 (a2).toNatClampNeg)).toNatClampNeg (vp_nar .boolean (1 : Int32)) →
                ∀ v2_10 : Int32, v2_10 = a2 + (1 : Int32) →
                ∃ k < n, I k a1 v2_10 σ9))))))
theorem t_findHeavy_51 {C : rCx} (hC : cOK C) {Q : rS → Prop} {B36 : Int32 → rS → Prop} (hB36 : ∀ a1' τ, B36 a1' τ → wG C 1 m_findHeavy 36 [some (.ref (co C)), some (.int a1'), none] [] τ (qV Q)) {a1 : Int32} {a2 : Int32} {σ : rS} (F : w_findHeavy_51 C Q B36 a1 a2 σ) : wG C 1 m_findHeavy 51 [some (.ref (co C)), some (.int a1), some (.int a2)] [] σ (qV Q) := by
  obtain ⟨I, ⟨n0, hI0⟩, F0⟩ := F
  have key : ∀ n a1 a2 σ, I n a1 a2 σ → wG C 1 m_findHeavy 51 [some (.ref (co C)), some (.int a1), some (.int a2)] [] σ (qV Q) := by
    intro n
    induction n using Nat.strongRecOn with
    | _ n ih =>
      intro a1 a2 σ hI
      have F := F0 n a1 a2 σ hI
      clear hI hI0
      refine s_aln dX13_findHeavy_51 rfl ?_
      refine s_iln dX13_findHeavy_52 rfl ?_
      refine k_793 dX13_findHeavy_53 rfl (Nat.le_of_ble_eq_true rfl) (Nat.le_of_ble_eq_true rfl) F (fun r2 σ1 F => ?_)
      refine s_i (t := 109) (r2 = 0) dX13_findHeavy_56 rfl rfl (fun hc => ?_) (fun hc => ?_)
      · replace F := F.1 hc
        refine s_incb dX13_findHeavy_109 ki_1 rfl (Nat.le_of_ble_eq_true rfl) (fun v1_3 ev1_3 => ?_)
        replace F := F v1_3 ev1_3
        show wG _ _ _ _ [some (.ref (co C)), some (.int v1_3), some (.int a2)] _ _ _
        refine s_goto (t := 36) dX13_findHeavy_112 rfl ?_
        exact s_k (hB36 _ _ F) ⟨rfl, rfl, trivial⟩
      · replace F := F.2 hc
        refine s_iln dX13_findHeavy_59 rfl ?_
        refine s_aln dX13_findHeavy_60 rfl ?_
        refine gf_151 dX13_findHeavy_61 rfl ?_
        refine s_iln dX13_findHeavy_64 rfl ?_
        refine s_ic dX13_findHeavy_65 ki_1 ?_
        refine s_iadd dX13_findHeavy_66 ?_
        refine s_ald hC dX13_findHeavy_67 rt_76 F.1 ?_
        replace F := F.2
        refine s_ii (t := 109) ((σ1.2.2.1 76 ((a1 + (1 : Int32))).toNatClampNeg) ≤ a2) dX13_findHeavy_68 rfl rfl (fun hc => ?_) (fun hc => ?_)
        · replace F := F.1 hc
          refine s_incb dX13_findHeavy_109 ki_1 rfl (Nat.le_of_ble_eq_true rfl) (fun v1_4 ev1_4 => ?_)
          replace F := F v1_4 ev1_4
          show wG _ _ _ _ [some (.ref (co C)), some (.int v1_4), some (.int a2)] _ _ _
          refine s_goto (t := 36) dX13_findHeavy_112 rfl ?_
          exact s_k (hB36 _ _ F) ⟨rfl, rfl, trivial⟩
        · replace F := F.2 hc
          refine s_aln dX13_findHeavy_71 rfl ?_
          refine gf_154 dX13_findHeavy_72 rfl ?_
          refine s_iln dX13_findHeavy_75 rfl ?_
          refine s_ald hC dX13_findHeavy_76 rt_77 F.1 ?_
          replace F := F.2
          refine s_ic dX13_findHeavy_77 ki_1 ?_
          refine s_iin (t := 103) ((σ1.2.2.1 77 (a2).toNatClampNeg) = (1 : Int32)) dX13_findHeavy_78 rfl rfl (fun hc => ?_) (fun hc => ?_)
          · replace F := F.1 hc
            refine s_incb dX13_findHeavy_103 ki_1 rfl (Nat.le_of_ble_eq_true rfl) (fun v2_5 ev2_5 => ?_)
            replace F := F v2_5 ev2_5
            show wG _ _ _ _ [some (.ref (co C)), some (.int a1), some (.int v2_5)] _ _ _
            refine s_goto (t := 51) dX13_findHeavy_106 rfl ?_
            obtain ⟨k, hk, hI⟩ := F
            exact s_k (ih k hk _ _ _ hI) ⟨rfl, rfl, rfl, trivial⟩
          · replace F := F.2 hc
            refine s_aln dX13_findHeavy_81 rfl ?_
            refine s_iln dX13_findHeavy_82 rfl ?_
            refine s_iln dX13_findHeavy_83 rfl ?_
            refine s_ic dX13_findHeavy_84 ki_1 ?_
            refine k_640 dX13_findHeavy_85 rfl (Nat.le_of_ble_eq_true rfl) (Nat.le_of_ble_eq_true rfl) F (fun r7 σ6 F => ?_)
            refine s_i (t := 103) (r7 = 0) dX13_findHeavy_88 rfl rfl (fun hc => ?_) (fun hc => ?_)
            · replace F := F.1 hc
              refine s_incb dX13_findHeavy_103 ki_1 rfl (Nat.le_of_ble_eq_true rfl) (fun v2_8 ev2_8 => ?_)
              replace F := F v2_8 ev2_8
              show wG _ _ _ _ [some (.ref (co C)), some (.int a1), some (.int v2_8)] _ _ _
              refine s_goto (t := 51) dX13_findHeavy_106 rfl ?_
              obtain ⟨k, hk, hI⟩ := F
              exact s_k (ih k hk _ _ _ hI) ⟨rfl, rfl, rfl, trivial⟩
            · replace F := F.2 hc
              refine s_aln dX13_findHeavy_91 rfl ?_
              refine gf_241 dX13_findHeavy_92 rfl ?_
              refine s_aln dX13_findHeavy_95 rfl ?_
              refine gf_157 dX13_findHeavy_96 rfl ?_
              refine s_iln dX13_findHeavy_99 rfl ?_
              refine s_ald hC dX13_findHeavy_100 rt_78 F.1 ?_
              replace F := F.2
              refine s_ic dX13_findHeavy_101 ki_1 ?_
              refine s_zstb hC dX13_findHeavy_102 rt_120 F.1 (fun σ9 eσ9 => ?_)
              replace F := F.2 σ9 eσ9
              refine s_incb dX13_findHeavy_103 ki_1 rfl (Nat.le_of_ble_eq_true rfl) (fun v2_10 ev2_10 => ?_)
              replace F := F v2_10 ev2_10
              show wG _ _ _ _ [some (.ref (co C)), some (.int a1), some (.int v2_10)] _ _ _
              refine s_goto (t := 51) dX13_findHeavy_106 rfl ?_
              obtain ⟨k, hk, hI⟩ := F
              exact s_k (ih k hk _ _ _ hI) ⟨rfl, rfl, rfl, trivial⟩
  exact key n0 a1 a2 σ hI0

def w_findHeavy_36 (C : rCx) (Q : rS → Prop)  (a1 : Int32) (σ : rS) : Prop :=
  ∃ I : Nat → Int32 → rS → Prop, (∃ n, I n a1 σ) ∧ ∀ n a1 σ, I n a1 σ →
    ((σ.1 70) ≤ a1 →
      Q σ) ∧
    (¬ ((σ.1 70) ≤ a1) →
      inb a1 1001 ∧
      ∀ v2_1 : Int32, v2_1 = (σ.2.2.1 76 (a1).toNatClampNeg) →
      w_findHeavy_51 C Q (fun a1' τ => ∃ k < n, I k a1' τ) a1 v2_1 σ)
theorem t_findHeavy_36 {C : rCx} (hC : cOK C) {Q : rS → Prop}   {a1 : Int32} {σ : rS} (F : w_findHeavy_36 C Q  a1 σ) : wG C 1 m_findHeavy 36 [some (.ref (co C)), some (.int a1), none] [] σ (qV Q) := by
  obtain ⟨I, ⟨n0, hI0⟩, F0⟩ := F
  have key : ∀ n a1 σ, I n a1 σ → wG C 1 m_findHeavy 36 [some (.ref (co C)), some (.int a1), none] [] σ (qV Q) := by
    intro n
    induction n using Nat.strongRecOn with
    | _ n ih =>
      intro a1 σ hI
      have F := F0 n a1 σ hI
      clear hI hI0
      refine s_iln dX13_findHeavy_36 rfl ?_
      refine s_aln dX13_findHeavy_37 rfl ?_
      refine gf_542 dX13_findHeavy_38 rfl ?_
      refine s_ii (t := 115) ((σ.1 70) ≤ a1) dX13_findHeavy_41 rfl rfl (fun hc => ?_) (fun hc => ?_)
      · replace F := F.1 hc
        exact s_rv dX13_findHeavy_115 rfl F
      · replace F := F.2 hc
        refine s_aln dX13_findHeavy_44 rfl ?_
        refine gf_151 dX13_findHeavy_45 rfl ?_
        refine s_iln dX13_findHeavy_48 rfl ?_
        refine s_ald hC dX13_findHeavy_49 rt_76 F.1 ?_
        replace F := F.2
        refine s_isnb dX13_findHeavy_50 (Nat.le_of_ble_eq_true rfl) (fun v2_1 ev2_1 => ?_)
        replace F := F v2_1 ev2_1
        show wG _ _ _ _ [some (.ref (co C)), some (.int a1), some (.int v2_1)] _ _ _
        exact s_k (t_findHeavy_51 hC (fun a1' τ hb => by obtain ⟨k, hk, hI⟩ := hb; exact ih k hk a1' τ hI) F) ⟨rfl, rfl, rfl, trivial⟩
  exact key n0 a1 σ hI0

def w_findHeavy_2 (C : rCx) (Q : rS → Prop)  (a1 : Int32) (σ : rS) : Prop :=
  ∃ I : Nat → Int32 → rS → Prop, (∃ n, I n a1 σ) ∧ ∀ n a1 σ, I n a1 σ →
    ((σ.1 71) ≤ a1 →
      w_findHeavy_36 C Q  (0 : Int32) σ) ∧
    (¬ ((σ.1 71) ≤ a1) →
      (¬ ((σ.1 70) = 0) →
        w_findHeavy_27 C Q (fun a1' τ => ∃ k < n, I k a1' τ) a1 a1 (0 : Int32) σ) ∧
      ((σ.1 70) = 0 →
        w_findHeavy_27 C Q (fun a1' τ => ∃ k < n, I k a1' τ) a1 a1 (1 : Int32) σ))
theorem t_findHeavy_2 {C : rCx} (hC : cOK C) {Q : rS → Prop}   {a1 : Int32} {σ : rS} (F : w_findHeavy_2 C Q  a1 σ) : wG C 1 m_findHeavy 2 [some (.ref (co C)), some (.int a1), none] [] σ (qV Q) := by
  obtain ⟨I, ⟨n0, hI0⟩, F0⟩ := F
  have key : ∀ n a1 σ, I n a1 σ → wG C 1 m_findHeavy 2 [some (.ref (co C)), some (.int a1), none] [] σ (qV Q) := by
    intro n
    induction n using Nat.strongRecOn with
    | _ n ih =>
      intro a1 σ hI
      have F := F0 n a1 σ hI
      clear hI hI0
      refine s_iln dX13_findHeavy_2 rfl ?_
      refine s_aln dX13_findHeavy_3 rfl ?_
      refine gf_545 dX13_findHeavy_4 rfl ?_
      refine s_ii (t := 34) ((σ.1 71) ≤ a1) dX13_findHeavy_7 rfl rfl (fun hc => ?_) (fun hc => ?_)
      · replace F := F.1 hc
        refine s_ic dX13_findHeavy_34 ki_0 ?_
        refine s_isn dX13_findHeavy_35 (Nat.le_of_ble_eq_true rfl) rfl ?_
        show wG _ _ _ _ [some (.ref (co C)), some (.int (0 : Int32)), none] _ _ _
        exact s_k (t_findHeavy_36 hC  F) ⟨rfl, rfl, trivial⟩
      · replace F := F.2 hc
        refine s_aln dX13_findHeavy_10 rfl ?_
        refine gf_241 dX13_findHeavy_11 rfl ?_
        refine s_iln dX13_findHeavy_14 rfl ?_
        refine s_aln dX13_findHeavy_15 rfl ?_
        refine gf_542 dX13_findHeavy_16 rfl ?_
        refine s_in (t := 26) ((σ.1 70) = 0) dX13_findHeavy_19 rfl rfl (fun hc => ?_) (fun hc => ?_)
        · replace F := F.1 hc
          refine s_ic dX13_findHeavy_26 ki_0 ?_
          exact s_k (t_findHeavy_27 hC (fun a1' τ hb => by obtain ⟨k, hk, hI⟩ := hb; exact ih k hk a1' τ hI) F) ⟨rfl, rfl, trivial⟩
        · replace F := F.2 hc
          refine s_ic dX13_findHeavy_22 ki_1 ?_
          refine s_goto (t := 27) dX13_findHeavy_23 rfl ?_
          exact s_k (t_findHeavy_27 hC (fun a1' τ hb => by obtain ⟨k, hk, hI⟩ := hb; exact ih k hk a1' τ hI) F) ⟨rfl, rfl, trivial⟩
  exact key n0 a1 σ hI0

def w_findHeavy_0 (C : rCx) (Q : rS → Prop)   (σ : rS) : Prop :=
  w_findHeavy_2 C Q  (0 : Int32) σ
theorem t_findHeavy_0 {C : rCx} (hC : cOK C) {Q : rS → Prop}    {σ : rS} (F : w_findHeavy_0 C Q   σ) : wG C 1 m_findHeavy 0 [some (.ref (co C)), none, none] [] σ (qV Q) := by
  unfold w_findHeavy_0 at F
  refine s_ic dX13_findHeavy_0 ki_0 ?_
  refine s_isn dX13_findHeavy_1 (Nat.le_of_ble_eq_true rfl) rfl ?_
  show wG _ _ _ _ [some (.ref (co C)), some (.int (0 : Int32)), none] _ _ _
  exact s_k (t_findHeavy_2 hC  F) ⟨rfl, rfl, trivial⟩

theorem m_findHeavy_run {C : rCx} (hC : cOK C) {Q : rS → Prop}  {σ : rS} (F : w_findHeavy_0 C Q  σ) : cV C 1 m_findHeavy [.ref (co C)] σ Q := m_V (m_ent _ 2) (t_findHeavy_0 hC F)

theorem dX13_told_0 : decode cX13_told 0 = .ok (.aload_n 0, 1) := by decide +kernel
theorem dX13_told_1 : decode cX13_told 1 = .ok (.getfield 148, 3) := by decide +kernel
theorem dX13_told_4 : decode cX13_told 4 = .ok (.bipush 35, 2) := by decide +kernel
theorem dX13_told_6 : decode cX13_told 6 = .ok (.iload_n 1, 1) := by decide +kernel
theorem dX13_told_7 : decode cX13_told 7 = .ok (.imul, 1) := by decide +kernel
theorem dX13_told_8 : decode cX13_told 8 = .ok (.iconst 1, 1) := by decide +kernel
theorem dX13_told_9 : decode cX13_told 9 = .ok (.iadd, 1) := by decide +kernel
theorem dX13_told_10 : decode cX13_told 10 = .ok (.iload_n 2, 1) := by decide +kernel
theorem dX13_told_11 : decode cX13_told 11 = .ok (.iadd, 1) := by decide +kernel
theorem dX13_told_12 : decode cX13_told 12 = .ok (.iaload, 1) := by decide +kernel
theorem dX13_told_13 : decode cX13_told 13 = .ok (.ireturn, 1) := by decide +kernel
def w_told_0 (C : rCx) (Q : Int32 → rS → Prop)  (a1 : Int32) (a2 : Int32) (σ : rS) : Prop :=
  inb ((((35 : Int32) * a1) + (1 : Int32)) + a2) 35000 ∧
  Q (σ.2.2.1 75 (((((35 : Int32) * a1) + (1 : Int32)) + a2)).toNatClampNeg) σ
theorem t_told_0 {C : rCx} (hC : cOK C) {Q : Int32 → rS → Prop}   {a1 : Int32} {a2 : Int32} {σ : rS} (F : w_told_0 C Q  a1 a2 σ) : wG C 0 m_told 0 [some (.ref (co C)), some (.int a1), some (.int a2)] [] σ (qI Q) := by
  unfold w_told_0 at F
  refine s_aln dX13_told_0 rfl ?_
  refine gf_148 dX13_told_1 rfl ?_
  refine s_bi dX13_told_4 kb_35 ?_
  refine s_iln dX13_told_6 rfl ?_
  refine s_imul dX13_told_7 ?_
  refine s_ic dX13_told_8 ki_1 ?_
  refine s_iadd dX13_told_9 ?_
  refine s_iln dX13_told_10 rfl ?_
  refine s_iadd dX13_told_11 ?_
  refine s_ald hC dX13_told_12 rt_75 F.1 ?_
  replace F := F.2
  exact s_ri dX13_told_13 rfl in_nar F

theorem m_told_run {C : rCx} (hC : cOK C) {Q : Int32 → rS → Prop} {a1 : Int32} {a2 : Int32} {σ : rS} (F : w_told_0 C Q a1 a2 σ) : cI C 0 m_told [.ref (co C), .int a1, .int a2] σ Q := m_I (m_ent _ 0) (t_told_0 hC F)

theorem dX13_list_0 : decode cX13_list 0 = .ok (.iconst 0, 1) := by decide +kernel
theorem dX13_list_1 : decode cX13_list 1 = .ok (.istore 5, 2) := by decide +kernel
theorem dX13_list_3 : decode cX13_list 3 = .ok (.iconst 0, 1) := by decide +kernel
theorem dX13_list_4 : decode cX13_list 4 = .ok (.istore 6, 2) := by decide +kernel
theorem dX13_list_6 : decode cX13_list 6 = .ok (.iload 6, 2) := by decide +kernel
theorem dX13_list_8 : decode cX13_list 8 = .ok (.aload_n 0, 1) := by decide +kernel
theorem dX13_list_9 : decode cX13_list 9 = .ok (.getfield 545, 3) := by decide +kernel
theorem dX13_list_12 : decode cX13_list 12 = .ok (.if_icmp .ge 100, 3) := by decide +kernel
theorem dX13_list_15 : decode cX13_list 15 = .ok (.aload_n 0, 1) := by decide +kernel
theorem dX13_list_16 : decode cX13_list 16 = .ok (.getfield 241, 3) := by decide +kernel
theorem dX13_list_19 : decode cX13_list 19 = .ok (.iload 6, 2) := by decide +kernel
theorem dX13_list_21 : decode cX13_list 21 = .ok (.baload, 1) := by decide +kernel
theorem dX13_list_22 : decode cX13_list 22 = .ok (.ifCond .eq 84, 3) := by decide +kernel
theorem dX13_list_25 : decode cX13_list 25 = .ok (.iload_n 3, 1) := by decide +kernel
theorem dX13_list_26 : decode cX13_list 26 = .ok (.iconst (-1), 1) := by decide +kernel
theorem dX13_list_27 : decode cX13_list 27 = .ok (.if_icmp .eq 15, 3) := by decide +kernel
theorem dX13_list_30 : decode cX13_list 30 = .ok (.aload_n 0, 1) := by decide +kernel
theorem dX13_list_31 : decode cX13_list 31 = .ok (.iload 6, 2) := by decide +kernel
theorem dX13_list_33 : decode cX13_list 33 = .ok (.iload_n 3, 1) := by decide +kernel
theorem dX13_list_34 : decode cX13_list 34 = .ok (.invokevirtual 882, 3) := by decide +kernel
theorem dX13_list_37 : decode cX13_list 37 = .ok (.iload 4, 2) := by decide +kernel
theorem dX13_list_39 : decode cX13_list 39 = .ok (.if_icmp .ne 67, 3) := by decide +kernel
theorem dX13_list_42 : decode cX13_list 42 = .ok (.iconst 1, 1) := by decide +kernel
theorem dX13_list_43 : decode cX13_list 43 = .ok (.istore 7, 2) := by decide +kernel
theorem dX13_list_45 : decode cX13_list 45 = .ok (.iconst 0, 1) := by decide +kernel
theorem dX13_list_46 : decode cX13_list 46 = .ok (.istore 8, 2) := by decide +kernel
theorem dX13_list_48 : decode cX13_list 48 = .ok (.iload 8, 2) := by decide +kernel
theorem dX13_list_50 : decode cX13_list 50 = .ok (.iload 5, 2) := by decide +kernel
theorem dX13_list_52 : decode cX13_list 52 = .ok (.if_icmp .ge 35, 3) := by decide +kernel
theorem dX13_list_55 : decode cX13_list 55 = .ok (.iload 7, 2) := by decide +kernel
theorem dX13_list_57 : decode cX13_list 57 = .ok (.ifCond .eq 21, 3) := by decide +kernel
theorem dX13_list_60 : decode cX13_list 60 = .ok (.aload_n 1, 1) := by decide +kernel
theorem dX13_list_61 : decode cX13_list 61 = .ok (.iload 8, 2) := by decide +kernel
theorem dX13_list_63 : decode cX13_list 63 = .ok (.iaload, 1) := by decide +kernel
theorem dX13_list_64 : decode cX13_list 64 = .ok (.aload_n 0, 1) := by decide +kernel
theorem dX13_list_65 : decode cX13_list 65 = .ok (.iload 6, 2) := by decide +kernel
theorem dX13_list_67 : decode cX13_list 67 = .ok (.iload_n 2, 1) := by decide +kernel
theorem dX13_list_68 : decode cX13_list 68 = .ok (.invokevirtual 882, 3) := by decide +kernel
theorem dX13_list_71 : decode cX13_list 71 = .ok (.if_icmp .eq 7, 3) := by decide +kernel
theorem dX13_list_74 : decode cX13_list 74 = .ok (.iconst 1, 1) := by decide +kernel
theorem dX13_list_75 : decode cX13_list 75 = .ok (.goto 4, 3) := by decide +kernel
theorem dX13_list_78 : decode cX13_list 78 = .ok (.iconst 0, 1) := by decide +kernel
theorem dX13_list_79 : decode cX13_list 79 = .ok (.istore 7, 2) := by decide +kernel
theorem dX13_list_81 : decode cX13_list 81 = .ok (.iinc 8 1, 3) := by decide +kernel
theorem dX13_list_84 : decode cX13_list 84 = .ok (.goto (-36), 3) := by decide +kernel
theorem dX13_list_87 : decode cX13_list 87 = .ok (.iload 7, 2) := by decide +kernel
theorem dX13_list_89 : decode cX13_list 89 = .ok (.ifCond .eq 17, 3) := by decide +kernel
theorem dX13_list_92 : decode cX13_list 92 = .ok (.aload_n 1, 1) := by decide +kernel
theorem dX13_list_93 : decode cX13_list 93 = .ok (.iload 5, 2) := by decide +kernel
theorem dX13_list_95 : decode cX13_list 95 = .ok (.aload_n 0, 1) := by decide +kernel
theorem dX13_list_96 : decode cX13_list 96 = .ok (.iload 6, 2) := by decide +kernel
theorem dX13_list_98 : decode cX13_list 98 = .ok (.iload_n 2, 1) := by decide +kernel
theorem dX13_list_99 : decode cX13_list 99 = .ok (.invokevirtual 882, 3) := by decide +kernel
theorem dX13_list_102 : decode cX13_list 102 = .ok (.iastore, 1) := by decide +kernel
theorem dX13_list_103 : decode cX13_list 103 = .ok (.iinc 5 1, 3) := by decide +kernel
theorem dX13_list_106 : decode cX13_list 106 = .ok (.iinc 6 1, 3) := by decide +kernel
theorem dX13_list_109 : decode cX13_list 109 = .ok (.goto (-103), 3) := by decide +kernel
theorem dX13_list_112 : decode cX13_list 112 = .ok (.iload 5, 2) := by decide +kernel
theorem dX13_list_114 : decode cX13_list 114 = .ok (.ireturn, 1) := by decide +kernel
def w_list_79 (C : rCx) (Q : Int32 → rS → Prop) (B6 : Nat → Int32 → Int32 → Int32 → Int32 → Int32 → rS → Prop) (B48 : Nat → Int32 → Int32 → Int32 → Int32 → Int32 → Int32 → Int32 → rS → Prop) (a1 : Nat) (a2 : Int32) (a3 : Int32) (a4 : Int32) (a5 : Int32) (a6 : Int32) (a8 : Int32) (s0 : Int32) (σ : rS) : Prop :=
  ∀ v8_1 : Int32, v8_1 = a8 + (1 : Int32) →
  B48 a1 a2 a3 a4 a5 a6 s0 v8_1 σ
theorem t_list_79 {C : rCx} (hC : cOK C) {Q : Int32 → rS → Prop} {B6 : Nat → Int32 → Int32 → Int32 → Int32 → Int32 → rS → Prop} {B48 : Nat → Int32 → Int32 → Int32 → Int32 → Int32 → Int32 → Int32 → rS → Prop} (hB6 : ∀ a1' a2' a3' a4' a5' a6' τ, B6 a1' a2' a3' a4' a5' a6' τ → wG C 1 m_list 6 [some (.ref (co C)), some (.ref (cad C a1')), some (.int a2'), some (.int a3'), some (.int a4'), some (.int a5'), some (.int a6'), none, none] [] τ (qI Q)) (hB48 : ∀ a1' a2' a3' a4' a5' a6' a7' a8' τ, B48 a1' a2' a3' a4' a5' a6' a7' a8' τ → wG C 1 m_list 48 [some (.ref (co C)), some (.ref (cad C a1')), some (.int a2'), some (.int a3'), some (.int a4'), some (.int a5'), some (.int a6'), some (.int a7'), some (.int a8')] [] τ (qI Q)) {a1 : Nat} {a2 : Int32} {a3 : Int32} {a4 : Int32} {a5 : Int32} {a6 : Int32} {a8 : Int32} {s0 : Int32} {σ : rS} (F : w_list_79 C Q B6 B48 a1 a2 a3 a4 a5 a6 a8 s0 σ) : wG C 1 m_list 79 [some (.ref (co C)), some (.ref (cad C a1)), some (.int a2), some (.int a3), some (.int a4), some (.int a5), some (.int a6), none, some (.int a8)] [.int s0] σ (qI Q) := by
  unfold w_list_79 at F
  refine s_is dX13_list_79 (Nat.le_of_ble_eq_true rfl) rfl ?_
  show wG _ _ _ _ [some (.ref (co C)), some (.ref (cad C a1)), some (.int a2), some (.int a3), some (.int a4), some (.int a5), some (.int a6), some (.int s0), some (.int a8)] _ _ _
  refine s_incb dX13_list_81 ki_1 rfl (Nat.le_of_ble_eq_true rfl) (fun v8_1 ev8_1 => ?_)
  replace F := F v8_1 ev8_1
  show wG _ _ _ _ [some (.ref (co C)), some (.ref (cad C a1)), some (.int a2), some (.int a3), some (.int a4), some (.int a5), some (.int a6), some (.int s0), some (.int v8_1)] _ _ _
  refine s_goto (t := 48) dX13_list_84 rfl ?_
  exact s_k (hB48 _ _ _ _ _ _ _ _ _ F) ⟨rfl, rfl, rfl, rfl, rfl, rfl, rfl, rfl, rfl, trivial⟩

def w_list_48 (C : rCx) (Q : Int32 → rS → Prop) (B6 : Nat → Int32 → Int32 → Int32 → Int32 → Int32 → rS → Prop) (a1 : Nat) (a2 : Int32) (a3 : Int32) (a4 : Int32) (a5 : Int32) (a6 : Int32) (a7 : Int32) (a8 : Int32) (σ : rS) : Prop :=
  ∃ I : Nat → Nat → Int32 → Int32 → Int32 → Int32 → Int32 → Int32 → Int32 → rS → Prop, (∃ n, I n a1 a2 a3 a4 a5 a6 a7 a8 σ) ∧ ∀ n a1 a2 a3 a4 a5 a6 a7 a8 σ, I n a1 a2 a3 a4 a5 a6 a7 a8 σ →
    (a5 ≤ a8 →
      (a7 = 0 →
        ∀ v6_1 : Int32, v6_1 = a6 + (1 : Int32) →
        B6 a1 a2 a3 a4 a5 v6_1 σ) ∧
      (¬ (a7 = 0) →
        cI C 0 m_told [.ref (co C), .int a6, .int a2] σ (fun r3 σ2 =>
          ∃ l5, rT a1 = some (0, l5) ∧ inb a5 l5 ∧
          ∀ σ4, σ4 = riU σ2 a1 (a5).toNatClampNeg r3 →
          ∀ v5_6 : Int32, v5_6 = a5 + (1 : Int32) →
          ∀ v6_7 : Int32, v6_7 = a6 + (1 : Int32) →
          B6 a1 a2 a3 a4 v5_6 v6_7 σ4))) ∧
    (¬ (a5 ≤ a8) →
      (a7 = 0 →
        w_list_79 C Q B6 (fun a1' a2' a3' a4' a5' a6' a7' a8' τ => ∃ k < n, I k a1' a2' a3' a4' a5' a6' a7' a8' τ) a1 a2 a3 a4 a5 a6 a8 (0 : Int32) σ) ∧
      (¬ (a7 = 0) →
        ∃ l8, rT a1 = some (0, l8) ∧ inb a8 l8 ∧
        cI C 0 m_told [.ref (co C), .int a6, .int a2] σ (fun r10 σ9 =>
          ((σ.2.2.1 a1 (a8).toNatClampNeg) = r10 →
            w_list_79 C Q B6 (fun a1' a2' a3' a4' a5' a6' a7' a8' τ => ∃ k < n, I k a1' a2' a3' a4' a5' a6' a7' a8' τ) a1 a2 a3 a4 a5 a6 a8 (0 : Int32) σ9) ∧
          (¬ ((σ.2.2.1 a1 (a8).toNatClampNeg) = r10) →
            w_list_79 C Q B6 (fun a1' a2' a3' a4' a5' a6' a7' a8' τ => ∃ k < n, I k a1' a2' a3' a4' a5' a6' a7' a8' τ) a1 a2 a3 a4 a5 a6 a8 (1 : Int32) σ9))))
theorem t_list_48 {C : rCx} (hC : cOK C) {Q : Int32 → rS → Prop} {B6 : Nat → Int32 → Int32 → Int32 → Int32 → Int32 → rS → Prop} (hB6 : ∀ a1' a2' a3' a4' a5' a6' τ, B6 a1' a2' a3' a4' a5' a6' τ → wG C 1 m_list 6 [some (.ref (co C)), some (.ref (cad C a1')), some (.int a2'), some (.int a3'), some (.int a4'), some (.int a5'), some (.int a6'), none, none] [] τ (qI Q)) {a1 : Nat} {a2 : Int32} {a3 : Int32} {a4 : Int32} {a5 : Int32} {a6 : Int32} {a7 : Int32} {a8 : Int32} {σ : rS} (F : w_list_48 C Q B6 a1 a2 a3 a4 a5 a6 a7 a8 σ) : wG C 1 m_list 48 [some (.ref (co C)), some (.ref (cad C a1)), some (.int a2), some (.int a3), some (.int a4), some (.int a5), some (.int a6), some (.int a7), some (.int a8)] [] σ (qI Q) := by
  obtain ⟨I, ⟨n0, hI0⟩, F0⟩ := F
  have key : ∀ n a1 a2 a3 a4 a5 a6 a7 a8 σ, I n a1 a2 a3 a4 a5 a6 a7 a8 σ → wG C 1 m_list 48 [some (.ref (co C)), some (.ref (cad C a1)), some (.int a2), some (.int a3), some (.int a4), some (.int a5), some (.int a6), some (.int a7), some (.int a8)] [] σ (qI Q) := by
    intro n
    induction n using Nat.strongRecOn with
    | _ n ih =>
      intro a1 a2 a3 a4 a5 a6 a7 a8 σ hI
      have F := F0 n a1 a2 a3 a4 a5 a6 a7 a8 σ hI
      clear hI hI0
      refine s_il dX13_list_48 rfl ?_
      refine s_il dX13_list_50 rfl ?_
      refine s_ii (t := 87) (a5 ≤ a8) dX13_list_52 rfl rfl (fun hc => ?_) (fun hc => ?_)
      · replace F := F.1 hc
        refine s_il dX13_list_87 rfl ?_
        refine s_i (t := 106) (a7 = 0) dX13_list_89 rfl rfl (fun hc => ?_) (fun hc => ?_)
        · replace F := F.1 hc
          refine s_incb dX13_list_106 ki_1 rfl (Nat.le_of_ble_eq_true rfl) (fun v6_1 ev6_1 => ?_)
          replace F := F v6_1 ev6_1
          show wG _ _ _ _ [some (.ref (co C)), some (.ref (cad C a1)), some (.int a2), some (.int a3), some (.int a4), some (.int a5), some (.int v6_1), some (.int a7), some (.int a8)] _ _ _
          refine s_goto (t := 6) dX13_list_109 rfl ?_
          exact s_k (hB6 _ _ _ _ _ _ _ F) ⟨rfl, rfl, rfl, rfl, rfl, rfl, rfl, trivial⟩
        · replace F := F.2 hc
          refine s_aln dX13_list_92 rfl ?_
          refine s_il dX13_list_93 rfl ?_
          refine s_aln dX13_list_95 rfl ?_
          refine s_il dX13_list_96 rfl ?_
          refine s_iln dX13_list_98 rfl ?_
          refine k_882 dX13_list_99 rfl (Nat.le_of_ble_eq_true rfl) (Nat.le_of_ble_eq_true rfl) F (fun r3 σ2 F => ?_)
          obtain ⟨l5, hTl5, hinl5, F⟩ := F
          refine s_astb hC dX13_list_102 hTl5 hinl5 (fun σ4 eσ4 => ?_)
          replace F := F σ4 eσ4
          refine s_incb dX13_list_103 ki_1 rfl (Nat.le_of_ble_eq_true rfl) (fun v5_6 ev5_6 => ?_)
          replace F := F v5_6 ev5_6
          show wG _ _ _ _ [some (.ref (co C)), some (.ref (cad C a1)), some (.int a2), some (.int a3), some (.int a4), some (.int v5_6), some (.int a6), some (.int a7), some (.int a8)] _ _ _
          refine s_incb dX13_list_106 ki_1 rfl (Nat.le_of_ble_eq_true rfl) (fun v6_7 ev6_7 => ?_)
          replace F := F v6_7 ev6_7
          show wG _ _ _ _ [some (.ref (co C)), some (.ref (cad C a1)), some (.int a2), some (.int a3), some (.int a4), some (.int v5_6), some (.int v6_7), some (.int a7), some (.int a8)] _ _ _
          refine s_goto (t := 6) dX13_list_109 rfl ?_
          exact s_k (hB6 _ _ _ _ _ _ _ F) ⟨rfl, rfl, rfl, rfl, rfl, rfl, rfl, trivial⟩
      · replace F := F.2 hc
        refine s_il dX13_list_55 rfl ?_
        refine s_i (t := 78) (a7 = 0) dX13_list_57 rfl rfl (fun hc => ?_) (fun hc => ?_)
        · replace F := F.1 hc
          refine s_ic dX13_list_78 ki_0 ?_
          exact s_k (t_list_79 hC hB6 (fun a1' a2' a3' a4' a5' a6' a7' a8' τ hb => by obtain ⟨k, hk, hI⟩ := hb; exact ih k hk a1' a2' a3' a4' a5' a6' a7' a8' τ hI) F) ⟨rfl, rfl, rfl, rfl, rfl, rfl, rfl, rfl, trivial⟩
        · replace F := F.2 hc
          refine s_aln dX13_list_60 rfl ?_
          refine s_il dX13_list_61 rfl ?_
          obtain ⟨l8, hTl8, hinl8, F⟩ := F
          refine s_ald hC dX13_list_63 hTl8 hinl8 ?_
          refine s_aln dX13_list_64 rfl ?_
          refine s_il dX13_list_65 rfl ?_
          refine s_iln dX13_list_67 rfl ?_
          refine k_882 dX13_list_68 rfl (Nat.le_of_ble_eq_true rfl) (Nat.le_of_ble_eq_true rfl) F (fun r10 σ9 F => ?_)
          refine s_ii (t := 78) ((σ.2.2.1 a1 (a8).toNatClampNeg) = r10) dX13_list_71 rfl rfl (fun hc => ?_) (fun hc => ?_)
          · replace F := F.1 hc
            refine s_ic dX13_list_78 ki_0 ?_
            exact s_k (t_list_79 hC hB6 (fun a1' a2' a3' a4' a5' a6' a7' a8' τ hb => by obtain ⟨k, hk, hI⟩ := hb; exact ih k hk a1' a2' a3' a4' a5' a6' a7' a8' τ hI) F) ⟨rfl, rfl, rfl, rfl, rfl, rfl, rfl, rfl, trivial⟩
          · replace F := F.2 hc
            refine s_ic dX13_list_74 ki_1 ?_
            refine s_goto (t := 79) dX13_list_75 rfl ?_
            exact s_k (t_list_79 hC hB6 (fun a1' a2' a3' a4' a5' a6' a7' a8' τ hb => by obtain ⟨k, hk, hI⟩ := hb; exact ih k hk a1' a2' a3' a4' a5' a6' a7' a8' τ hI) F) ⟨rfl, rfl, rfl, rfl, rfl, rfl, rfl, rfl, trivial⟩
  exact key n0 a1 a2 a3 a4 a5 a6 a7 a8 σ hI0

def w_list_42 (C : rCx) (Q : Int32 → rS → Prop) (B6 : Nat → Int32 → Int32 → Int32 → Int32 → Int32 → rS → Prop) (a1 : Nat) (a2 : Int32) (a3 : Int32) (a4 : Int32) (a5 : Int32) (a6 : Int32) (σ : rS) : Prop :=
  w_list_48 C Q B6 a1 a2 a3 a4 a5 a6 (1 : Int32) (0 : Int32) σ
theorem t_list_42 {C : rCx} (hC : cOK C) {Q : Int32 → rS → Prop} {B6 : Nat → Int32 → Int32 → Int32 → Int32 → Int32 → rS → Prop} (hB6 : ∀ a1' a2' a3' a4' a5' a6' τ, B6 a1' a2' a3' a4' a5' a6' τ → wG C 1 m_list 6 [some (.ref (co C)), some (.ref (cad C a1')), some (.int a2'), some (.int a3'), some (.int a4'), some (.int a5'), some (.int a6'), none, none] [] τ (qI Q)) {a1 : Nat} {a2 : Int32} {a3 : Int32} {a4 : Int32} {a5 : Int32} {a6 : Int32} {σ : rS} (F : w_list_42 C Q B6 a1 a2 a3 a4 a5 a6 σ) : wG C 1 m_list 42 [some (.ref (co C)), some (.ref (cad C a1)), some (.int a2), some (.int a3), some (.int a4), some (.int a5), some (.int a6), none, none] [] σ (qI Q) := by
  unfold w_list_42 at F
  refine s_ic dX13_list_42 ki_1 ?_
  refine s_is dX13_list_43 (Nat.le_of_ble_eq_true rfl) rfl ?_
  show wG _ _ _ _ [some (.ref (co C)), some (.ref (cad C a1)), some (.int a2), some (.int a3), some (.int a4), some (.int a5), some (.int a6), some (.int (1 : Int32)), none] _ _ _
  refine s_ic dX13_list_45 ki_0 ?_
  refine s_is dX13_list_46 (Nat.le_of_ble_eq_true rfl) rfl ?_
  show wG _ _ _ _ [some (.ref (co C)), some (.ref (cad C a1)), some (.int a2), some (.int a3), some (.int a4), some (.int a5), some (.int a6), some (.int (1 : Int32)), some (.int (0 : Int32))] _ _ _
  exact s_k (t_list_48 hC hB6 F) ⟨rfl, rfl, rfl, rfl, rfl, rfl, rfl, rfl, rfl, trivial⟩

def w_list_6 (C : rCx) (Q : Int32 → rS → Prop)  (a1 : Nat) (a2 : Int32) (a3 : Int32) (a4 : Int32) (a5 : Int32) (a6 : Int32) (σ : rS) : Prop :=
  ∃ I : Nat → Nat → Int32 → Int32 → Int32 → Int32 → Int32 → rS → Prop, (∃ n, I n a1 a2 a3 a4 a5 a6 σ) ∧ ∀ n a1 a2 a3 a4 a5 a6 σ, I n a1 a2 a3 a4 a5 a6 σ →
    ((σ.1 71) ≤ a6 →
      Q a5 σ) ∧
    (¬ ((σ.1 71) ≤ a6) →
      inb a6 1000 ∧
      ((σ.2.2.1 120 (a6).toNatClampNeg) = 0 →
        ∀ v6_1 : Int32, v6_1 = a6 + (1 : Int32) →
        ∃ k < n, I k a1 a2 a3 a4 a5 v6_1 σ) ∧
      (¬ ((σ.2.2.1 120 (a6).toNatClampNeg) = 0) →
        (a3 = (-1 : Int32) →
          w_list_42 C Q (fun a1' a2' a3' a4' a5' a6' τ => ∃ k < n, I k a1' a2' a3' a4' a5' a6' τ) a1 a2 a3 a4 a5 a6 σ) ∧
        (¬ (a3 = (-1 : Int32)) →
          cI C 0 m_told [.ref (co C), .int a6, .int a3] σ (fun r3 σ2 =>
            (¬ (r3 = a4) →
              ∀ v6_4 : Int32, v6_4 = a6 + (1 : Int32) →
              ∃ k < n, I k a1 a2 a3 a4 a5 v6_4 σ2) ∧
            (r3 = a4 →
              w_list_42 C Q (fun a1' a2' a3' a4' a5' a6' τ => ∃ k < n, I k a1' a2' a3' a4' a5' a6' τ) a1 a2 a3 a4 a5 a6 σ2)))))
theorem t_list_6 {C : rCx} (hC : cOK C) {Q : Int32 → rS → Prop}   {a1 : Nat} {a2 : Int32} {a3 : Int32} {a4 : Int32} {a5 : Int32} {a6 : Int32} {σ : rS} (F : w_list_6 C Q  a1 a2 a3 a4 a5 a6 σ) : wG C 1 m_list 6 [some (.ref (co C)), some (.ref (cad C a1)), some (.int a2), some (.int a3), some (.int a4), some (.int a5), some (.int a6), none, none] [] σ (qI Q) := by
  obtain ⟨I, ⟨n0, hI0⟩, F0⟩ := F
  have key : ∀ n a1 a2 a3 a4 a5 a6 σ, I n a1 a2 a3 a4 a5 a6 σ → wG C 1 m_list 6 [some (.ref (co C)), some (.ref (cad C a1)), some (.int a2), some (.int a3), some (.int a4), some (.int a5), some (.int a6), none, none] [] σ (qI Q) := by
    intro n
    induction n using Nat.strongRecOn with
    | _ n ih =>
      intro a1 a2 a3 a4 a5 a6 σ hI
      have F := F0 n a1 a2 a3 a4 a5 a6 σ hI
      clear hI hI0
      refine s_il dX13_list_6 rfl ?_
      refine s_aln dX13_list_8 rfl ?_
      refine gf_545 dX13_list_9 rfl ?_
      refine s_ii (t := 112) ((σ.1 71) ≤ a6) dX13_list_12 rfl rfl (fun hc => ?_) (fun hc => ?_)
      · replace F := F.1 hc
        refine s_il dX13_list_112 rfl ?_
        exact s_ri dX13_list_114 rfl in_nar F
      · replace F := F.2 hc
        refine s_aln dX13_list_15 rfl ?_
        refine gf_241 dX13_list_16 rfl ?_
        refine s_il dX13_list_19 rfl ?_
        refine s_zld hC dX13_list_21 rt_120 F.1 ?_
        replace F := F.2
        refine s_i (t := 106) ((σ.2.2.1 120 (a6).toNatClampNeg) = 0) dX13_list_22 rfl rfl (fun hc => ?_) (fun hc => ?_)
        · replace F := F.1 hc
          refine s_incb dX13_list_106 ki_1 rfl (Nat.le_of_ble_eq_true rfl) (fun v6_1 ev6_1 => ?_)
          replace F := F v6_1 ev6_1
          show wG _ _ _ _ [some (.ref (co C)), some (.ref (cad C a1)), some (.int a2), some (.int a3), some (.int a4), some (.int a5), some (.int v6_1), none, none] _ _ _
          refine s_goto (t := 6) dX13_list_109 rfl ?_
          obtain ⟨k, hk, hI⟩ := F
          exact s_k (ih k hk _ _ _ _ _ _ _ hI) ⟨rfl, rfl, rfl, rfl, rfl, rfl, rfl, trivial⟩
        · replace F := F.2 hc
          refine s_iln dX13_list_25 rfl ?_
          refine s_ic dX13_list_26 ki_m1 ?_
          refine s_ii (t := 42) (a3 = (-1 : Int32)) dX13_list_27 rfl rfl (fun hc => ?_) (fun hc => ?_)
          · replace F := F.1 hc
            exact s_k (t_list_42 hC (fun a1' a2' a3' a4' a5' a6' τ hb => by obtain ⟨k, hk, hI⟩ := hb; exact ih k hk a1' a2' a3' a4' a5' a6' τ hI) F) ⟨rfl, rfl, rfl, rfl, rfl, rfl, rfl, trivial⟩
          · replace F := F.2 hc
            refine s_aln dX13_list_30 rfl ?_
            refine s_il dX13_list_31 rfl ?_
            refine s_iln dX13_list_33 rfl ?_
            refine k_882 dX13_list_34 rfl (Nat.le_of_ble_eq_true rfl) (Nat.le_of_ble_eq_true rfl) F (fun r3 σ2 F => ?_)
            refine s_il dX13_list_37 rfl ?_
            refine s_iin (t := 106) (r3 = a4) dX13_list_39 rfl rfl (fun hc => ?_) (fun hc => ?_)
            · replace F := F.1 hc
              refine s_incb dX13_list_106 ki_1 rfl (Nat.le_of_ble_eq_true rfl) (fun v6_4 ev6_4 => ?_)
              replace F := F v6_4 ev6_4
              show wG _ _ _ _ [some (.ref (co C)), some (.ref (cad C a1)), some (.int a2), some (.int a3), some (.int a4), some (.int a5), some (.int v6_4), none, none] _ _ _
              refine s_goto (t := 6) dX13_list_109 rfl ?_
              obtain ⟨k, hk, hI⟩ := F
              exact s_k (ih k hk _ _ _ _ _ _ _ hI) ⟨rfl, rfl, rfl, rfl, rfl, rfl, rfl, trivial⟩
            · replace F := F.2 hc
              exact s_k (t_list_42 hC (fun a1' a2' a3' a4' a5' a6' τ hb => by obtain ⟨k, hk, hI⟩ := hb; exact ih k hk a1' a2' a3' a4' a5' a6' τ hI) F) ⟨rfl, rfl, rfl, rfl, rfl, rfl, rfl, trivial⟩
  exact key n0 a1 a2 a3 a4 a5 a6 σ hI0

def w_list_0 (C : rCx) (Q : Int32 → rS → Prop)  (a1 : Nat) (a2 : Int32) (a3 : Int32) (a4 : Int32) (σ : rS) : Prop :=
  w_list_6 C Q  a1 a2 a3 a4 (0 : Int32) (0 : Int32) σ
theorem t_list_0 {C : rCx} (hC : cOK C) {Q : Int32 → rS → Prop}   {a1 : Nat} {a2 : Int32} {a3 : Int32} {a4 : Int32} {σ : rS} (F : w_list_0 C Q  a1 a2 a3 a4 σ) : wG C 1 m_list 0 [some (.ref (co C)), some (.ref (cad C a1)), some (.int a2), some (.int a3), some (.int a4), none, none, none, none] [] σ (qI Q) := by
  unfold w_list_0 at F
  refine s_ic dX13_list_0 ki_0 ?_
  refine s_is dX13_list_1 (Nat.le_of_ble_eq_true rfl) rfl ?_
  show wG _ _ _ _ [some (.ref (co C)), some (.ref (cad C a1)), some (.int a2), some (.int a3), some (.int a4), some (.int (0 : Int32)), none, none, none] _ _ _
  refine s_ic dX13_list_3 ki_0 ?_
  refine s_is dX13_list_4 (Nat.le_of_ble_eq_true rfl) rfl ?_
  show wG _ _ _ _ [some (.ref (co C)), some (.ref (cad C a1)), some (.int a2), some (.int a3), some (.int a4), some (.int (0 : Int32)), some (.int (0 : Int32)), none, none] _ _ _
  exact s_k (t_list_6 hC  F) ⟨rfl, rfl, rfl, rfl, rfl, rfl, rfl, trivial⟩

theorem m_list_run {C : rCx} (hC : cOK C) {Q : Int32 → rS → Prop} {a1 : Nat} {a2 : Int32} {a3 : Int32} {a4 : Int32} {σ : rS} (F : w_list_0 C Q a1 a2 a3 a4 σ) : cI C 1 m_list [.ref (co C), .ref (cad C a1), .int a2, .int a3, .int a4] σ Q := m_I (m_ent _ 4) (t_list_0 hC F)

theorem dX13_weigh_0 : decode cX13_weigh 0 = .ok (.aload_n 0, 1) := by decide +kernel
theorem dX13_weigh_1 : decode cX13_weigh 1 = .ok (.invokevirtual 762, 3) := by decide +kernel
theorem dX13_weigh_4 : decode cX13_weigh 4 = .ok (.iconst 0, 1) := by decide +kernel
theorem dX13_weigh_5 : decode cX13_weigh 5 = .ok (.istore 8, 2) := by decide +kernel
theorem dX13_weigh_7 : decode cX13_weigh 7 = .ok (.iload 8, 2) := by decide +kernel
theorem dX13_weigh_9 : decode cX13_weigh 9 = .ok (.aload_n 0, 1) := by decide +kernel
theorem dX13_weigh_10 : decode cX13_weigh 10 = .ok (.getfield 542, 3) := by decide +kernel
theorem dX13_weigh_13 : decode cX13_weigh 13 = .ok (.if_icmp .ge 140, 3) := by decide +kernel
theorem dX13_weigh_16 : decode cX13_weigh 16 = .ok (.aload_n 0, 1) := by decide +kernel
theorem dX13_weigh_17 : decode cX13_weigh 17 = .ok (.getfield 151, 3) := by decide +kernel
theorem dX13_weigh_20 : decode cX13_weigh 20 = .ok (.iload 8, 2) := by decide +kernel
theorem dX13_weigh_22 : decode cX13_weigh 22 = .ok (.iaload, 1) := by decide +kernel
theorem dX13_weigh_23 : decode cX13_weigh 23 = .ok (.istore 9, 2) := by decide +kernel
theorem dX13_weigh_25 : decode cX13_weigh 25 = .ok (.aload_n 0, 1) := by decide +kernel
theorem dX13_weigh_26 : decode cX13_weigh 26 = .ok (.iload 8, 2) := by decide +kernel
theorem dX13_weigh_28 : decode cX13_weigh 28 = .ok (.invokevirtual 793, 3) := by decide +kernel
theorem dX13_weigh_31 : decode cX13_weigh 31 = .ok (.ifCond .eq 116, 3) := by decide +kernel
theorem dX13_weigh_34 : decode cX13_weigh 34 = .ok (.iload 9, 2) := by decide +kernel
theorem dX13_weigh_36 : decode cX13_weigh 36 = .ok (.aload_n 0, 1) := by decide +kernel
theorem dX13_weigh_37 : decode cX13_weigh 37 = .ok (.getfield 151, 3) := by decide +kernel
theorem dX13_weigh_40 : decode cX13_weigh 40 = .ok (.iload 8, 2) := by decide +kernel
theorem dX13_weigh_42 : decode cX13_weigh 42 = .ok (.iconst 1, 1) := by decide +kernel
theorem dX13_weigh_43 : decode cX13_weigh 43 = .ok (.iadd, 1) := by decide +kernel
theorem dX13_weigh_44 : decode cX13_weigh 44 = .ok (.iaload, 1) := by decide +kernel
theorem dX13_weigh_45 : decode cX13_weigh 45 = .ok (.if_icmp .ge 102, 3) := by decide +kernel
theorem dX13_weigh_48 : decode cX13_weigh 48 = .ok (.aload_n 0, 1) := by decide +kernel
theorem dX13_weigh_49 : decode cX13_weigh 49 = .ok (.getfield 157, 3) := by decide +kernel
theorem dX13_weigh_52 : decode cX13_weigh 52 = .ok (.iload 9, 2) := by decide +kernel
theorem dX13_weigh_54 : decode cX13_weigh 54 = .ok (.iaload, 1) := by decide +kernel
theorem dX13_weigh_55 : decode cX13_weigh 55 = .ok (.istore 10, 2) := by decide +kernel
theorem dX13_weigh_57 : decode cX13_weigh 57 = .ok (.aload_n 0, 1) := by decide +kernel
theorem dX13_weigh_58 : decode cX13_weigh 58 = .ok (.getfield 154, 3) := by decide +kernel
theorem dX13_weigh_61 : decode cX13_weigh 61 = .ok (.iload 9, 2) := by decide +kernel
theorem dX13_weigh_63 : decode cX13_weigh 63 = .ok (.iaload, 1) := by decide +kernel
theorem dX13_weigh_64 : decode cX13_weigh 64 = .ok (.iconst 1, 1) := by decide +kernel
theorem dX13_weigh_65 : decode cX13_weigh 65 = .ok (.if_icmp .ne 76, 3) := by decide +kernel
theorem dX13_weigh_68 : decode cX13_weigh 68 = .ok (.aload_n 0, 1) := by decide +kernel
theorem dX13_weigh_69 : decode cX13_weigh 69 = .ok (.iload 8, 2) := by decide +kernel
theorem dX13_weigh_71 : decode cX13_weigh 71 = .ok (.iload 9, 2) := by decide +kernel
theorem dX13_weigh_73 : decode cX13_weigh 73 = .ok (.iconst 1, 1) := by decide +kernel
theorem dX13_weigh_74 : decode cX13_weigh 74 = .ok (.invokevirtual 640, 3) := by decide +kernel
theorem dX13_weigh_77 : decode cX13_weigh 77 = .ok (.ifCond .eq 64, 3) := by decide +kernel
theorem dX13_weigh_80 : decode cX13_weigh 80 = .ok (.iload_n 1, 1) := by decide +kernel
theorem dX13_weigh_81 : decode cX13_weigh 81 = .ok (.iconst (-1), 1) := by decide +kernel
theorem dX13_weigh_82 : decode cX13_weigh 82 = .ok (.if_icmp .eq 14, 3) := by decide +kernel
theorem dX13_weigh_85 : decode cX13_weigh 85 = .ok (.aload_n 0, 1) := by decide +kernel
theorem dX13_weigh_86 : decode cX13_weigh 86 = .ok (.iload 10, 2) := by decide +kernel
theorem dX13_weigh_88 : decode cX13_weigh 88 = .ok (.iload_n 1, 1) := by decide +kernel
theorem dX13_weigh_89 : decode cX13_weigh 89 = .ok (.invokevirtual 882, 3) := by decide +kernel
theorem dX13_weigh_92 : decode cX13_weigh 92 = .ok (.iload_n 2, 1) := by decide +kernel
theorem dX13_weigh_93 : decode cX13_weigh 93 = .ok (.if_icmp .ne 48, 3) := by decide +kernel
theorem dX13_weigh_96 : decode cX13_weigh 96 = .ok (.iload_n 3, 1) := by decide +kernel
theorem dX13_weigh_97 : decode cX13_weigh 97 = .ok (.iconst (-1), 1) := by decide +kernel
theorem dX13_weigh_98 : decode cX13_weigh 98 = .ok (.if_icmp .eq 15, 3) := by decide +kernel
theorem dX13_weigh_101 : decode cX13_weigh 101 = .ok (.aload_n 0, 1) := by decide +kernel
theorem dX13_weigh_102 : decode cX13_weigh 102 = .ok (.iload 10, 2) := by decide +kernel
theorem dX13_weigh_104 : decode cX13_weigh 104 = .ok (.iload_n 3, 1) := by decide +kernel
theorem dX13_weigh_105 : decode cX13_weigh 105 = .ok (.invokevirtual 882, 3) := by decide +kernel
theorem dX13_weigh_108 : decode cX13_weigh 108 = .ok (.iload 4, 2) := by decide +kernel
theorem dX13_weigh_110 : decode cX13_weigh 110 = .ok (.if_icmp .ne 31, 3) := by decide +kernel
theorem dX13_weigh_113 : decode cX13_weigh 113 = .ok (.iload 5, 2) := by decide +kernel
theorem dX13_weigh_115 : decode cX13_weigh 115 = .ok (.iconst (-1), 1) := by decide +kernel
theorem dX13_weigh_116 : decode cX13_weigh 116 = .ok (.if_icmp .eq 16, 3) := by decide +kernel
theorem dX13_weigh_119 : decode cX13_weigh 119 = .ok (.aload_n 0, 1) := by decide +kernel
theorem dX13_weigh_120 : decode cX13_weigh 120 = .ok (.iload 10, 2) := by decide +kernel
theorem dX13_weigh_122 : decode cX13_weigh 122 = .ok (.iload 5, 2) := by decide +kernel
theorem dX13_weigh_124 : decode cX13_weigh 124 = .ok (.invokevirtual 882, 3) := by decide +kernel
theorem dX13_weigh_127 : decode cX13_weigh 127 = .ok (.iload 6, 2) := by decide +kernel
theorem dX13_weigh_129 : decode cX13_weigh 129 = .ok (.if_icmp .ne 12, 3) := by decide +kernel
theorem dX13_weigh_132 : decode cX13_weigh 132 = .ok (.aload_n 0, 1) := by decide +kernel
theorem dX13_weigh_133 : decode cX13_weigh 133 = .ok (.iload 8, 2) := by decide +kernel
theorem dX13_weigh_135 : decode cX13_weigh 135 = .ok (.iload 9, 2) := by decide +kernel
theorem dX13_weigh_137 : decode cX13_weigh 137 = .ok (.lconst 1, 1) := by decide +kernel
theorem dX13_weigh_138 : decode cX13_weigh 138 = .ok (.invokevirtual 799, 3) := by decide +kernel
theorem dX13_weigh_141 : decode cX13_weigh 141 = .ok (.iinc 9 1, 3) := by decide +kernel
theorem dX13_weigh_144 : decode cX13_weigh 144 = .ok (.goto (-119), 3) := by decide +kernel
theorem dX13_weigh_147 : decode cX13_weigh 147 = .ok (.iinc 8 1, 3) := by decide +kernel
theorem dX13_weigh_150 : decode cX13_weigh 150 = .ok (.goto (-143), 3) := by decide +kernel
theorem dX13_weigh_153 : decode cX13_weigh 153 = .ok (.aload_n 0, 1) := by decide +kernel
theorem dX13_weigh_154 : decode cX13_weigh 154 = .ok (.iload 7, 2) := by decide +kernel
theorem dX13_weigh_156 : decode cX13_weigh 156 = .ok (.iconst 4, 1) := by decide +kernel
theorem dX13_weigh_157 : decode cX13_weigh 157 = .ok (.invokevirtual 703, 3) := by decide +kernel
theorem dX13_weigh_160 : decode cX13_weigh 160 = .ok (.aload_n 0, 1) := by decide +kernel
theorem dX13_weigh_161 : decode cX13_weigh 161 = .ok (.iload 7, 2) := by decide +kernel
theorem dX13_weigh_163 : decode cX13_weigh 163 = .ok (.iconst 1, 1) := by decide +kernel
theorem dX13_weigh_164 : decode cX13_weigh 164 = .ok (.iadd, 1) := by decide +kernel
theorem dX13_weigh_165 : decode cX13_weigh 165 = .ok (.iconst 5, 1) := by decide +kernel
theorem dX13_weigh_166 : decode cX13_weigh 166 = .ok (.invokevirtual 703, 3) := by decide +kernel
theorem dX13_weigh_169 : decode cX13_weigh 169 = .ok (.return_, 1) := by decide +kernel
def w_weigh_132 (C : rCx) (Q : rS → Prop) (B7 : Int32 → Int32 → Int32 → Int32 → Int32 → Int32 → Int32 → Int32 → rS → Prop) (B25 : Int32 → Int32 → Int32 → Int32 → Int32 → Int32 → Int32 → Int32 → Int32 → rS → Prop) (a1 : Int32) (a2 : Int32) (a3 : Int32) (a4 : Int32) (a5 : Int32) (a6 : Int32) (a7 : Int32) (a8 : Int32) (a9 : Int32) (σ : rS) : Prop :=
  cV C 5 m_addWeight [.ref (co C), .int a8, .int a9, .long (1 : Int64)] σ (fun σ1 =>
    ∀ v9_3 : Int32, v9_3 = a9 + (1 : Int32) →
    B25 a1 a2 a3 a4 a5 a6 a7 a8 v9_3 σ1)
theorem t_weigh_132 {C : rCx} (hC : cOK C) {Q : rS → Prop} {B7 : Int32 → Int32 → Int32 → Int32 → Int32 → Int32 → Int32 → Int32 → rS → Prop} {B25 : Int32 → Int32 → Int32 → Int32 → Int32 → Int32 → Int32 → Int32 → Int32 → rS → Prop} (hB7 : ∀ a1' a2' a3' a4' a5' a6' a7' a8' τ, B7 a1' a2' a3' a4' a5' a6' a7' a8' τ → wG C 6 m_weigh 7 [some (.ref (co C)), some (.int a1'), some (.int a2'), some (.int a3'), some (.int a4'), some (.int a5'), some (.int a6'), some (.int a7'), some (.int a8'), none, none] [] τ (qV Q)) (hB25 : ∀ a1' a2' a3' a4' a5' a6' a7' a8' a9' τ, B25 a1' a2' a3' a4' a5' a6' a7' a8' a9' τ → wG C 6 m_weigh 25 [some (.ref (co C)), some (.int a1'), some (.int a2'), some (.int a3'), some (.int a4'), some (.int a5'), some (.int a6'), some (.int a7'), some (.int a8'), some (.int a9'), none] [] τ (qV Q)) {a1 : Int32} {a2 : Int32} {a3 : Int32} {a4 : Int32} {a5 : Int32} {a6 : Int32} {a7 : Int32} {a8 : Int32} {a9 : Int32} {σ : rS} (F : w_weigh_132 C Q B7 B25 a1 a2 a3 a4 a5 a6 a7 a8 a9 σ) : wG C 6 m_weigh 132 [some (.ref (co C)), some (.int a1), some (.int a2), some (.int a3), some (.int a4), some (.int a5), some (.int a6), some (.int a7), some (.int a8), some (.int a9), none] [] σ (qV Q) := by
  unfold w_weigh_132 at F
  refine s_aln dX13_weigh_132 rfl ?_
  refine s_il dX13_weigh_133 rfl ?_
  refine s_il dX13_weigh_135 rfl ?_
  refine s_lc dX13_weigh_137 kl_1 ?_
  refine k_799 dX13_weigh_138 rfl (Nat.le_of_ble_eq_true rfl) (Nat.le_of_ble_eq_true rfl) F (fun σ1 F => ?_)
  refine s_incb dX13_weigh_141 ki_1 rfl (Nat.le_of_ble_eq_true rfl) (fun v9_3 ev9_3 => ?_)
  replace F := F v9_3 ev9_3
  show wG _ _ _ _ [some (.ref (co C)), some (.int a1), some (.int a2), some (.int a3), some (.int a4), some (.int a5), some (.int a6), some (.int a7), some (.int a8), some (.int v9_3), none] _ _ _
  refine s_goto (t := 25) dX13_weigh_144 rfl ?_
  exact s_k (hB25 _ _ _ _ _ _ _ _ _ _ F) ⟨rfl, rfl, rfl, rfl, rfl, rfl, rfl, rfl, rfl, rfl, trivial⟩

def w_weigh_113 (C : rCx) (Q : rS → Prop) (B7 : Int32 → Int32 → Int32 → Int32 → Int32 → Int32 → Int32 → Int32 → rS → Prop) (B25 : Int32 → Int32 → Int32 → Int32 → Int32 → Int32 → Int32 → Int32 → Int32 → rS → Prop) (a1 : Int32) (a2 : Int32) (a3 : Int32) (a4 : Int32) (a5 : Int32) (a6 : Int32) (a7 : Int32) (a8 : Int32) (a9 : Int32) (a10 : Int32) (σ : rS) : Prop :=
  (a5 = (-1 : Int32) →
    w_weigh_132 C Q B7 B25 a1 a2 a3 a4 a5 a6 a7 a8 a9 σ) ∧
  (¬ (a5 = (-1 : Int32)) →
    cI C 0 m_told [.ref (co C), .int a10, .int a5] σ (fun r2 σ1 =>
      (¬ (r2 = a6) →
        ∀ v9_3 : Int32, v9_3 = a9 + (1 : Int32) →
        B25 a1 a2 a3 a4 a5 a6 a7 a8 v9_3 σ1) ∧
      (r2 = a6 →
        w_weigh_132 C Q B7 B25 a1 a2 a3 a4 a5 a6 a7 a8 a9 σ1)))
theorem t_weigh_113 {C : rCx} (hC : cOK C) {Q : rS → Prop} {B7 : Int32 → Int32 → Int32 → Int32 → Int32 → Int32 → Int32 → Int32 → rS → Prop} {B25 : Int32 → Int32 → Int32 → Int32 → Int32 → Int32 → Int32 → Int32 → Int32 → rS → Prop} (hB7 : ∀ a1' a2' a3' a4' a5' a6' a7' a8' τ, B7 a1' a2' a3' a4' a5' a6' a7' a8' τ → wG C 6 m_weigh 7 [some (.ref (co C)), some (.int a1'), some (.int a2'), some (.int a3'), some (.int a4'), some (.int a5'), some (.int a6'), some (.int a7'), some (.int a8'), none, none] [] τ (qV Q)) (hB25 : ∀ a1' a2' a3' a4' a5' a6' a7' a8' a9' τ, B25 a1' a2' a3' a4' a5' a6' a7' a8' a9' τ → wG C 6 m_weigh 25 [some (.ref (co C)), some (.int a1'), some (.int a2'), some (.int a3'), some (.int a4'), some (.int a5'), some (.int a6'), some (.int a7'), some (.int a8'), some (.int a9'), none] [] τ (qV Q)) {a1 : Int32} {a2 : Int32} {a3 : Int32} {a4 : Int32} {a5 : Int32} {a6 : Int32} {a7 : Int32} {a8 : Int32} {a9 : Int32} {a10 : Int32} {σ : rS} (F : w_weigh_113 C Q B7 B25 a1 a2 a3 a4 a5 a6 a7 a8 a9 a10 σ) : wG C 6 m_weigh 113 [some (.ref (co C)), some (.int a1), some (.int a2), some (.int a3), some (.int a4), some (.int a5), some (.int a6), some (.int a7), some (.int a8), some (.int a9), some (.int a10)] [] σ (qV Q) := by
  unfold w_weigh_113 at F
  refine s_il dX13_weigh_113 rfl ?_
  refine s_ic dX13_weigh_115 ki_m1 ?_
  refine s_ii (t := 132) (a5 = (-1 : Int32)) dX13_weigh_116 rfl rfl (fun hc => ?_) (fun hc => ?_)
  · replace F := F.1 hc
    exact s_k (t_weigh_132 hC hB7 hB25 F) ⟨rfl, rfl, rfl, rfl, rfl, rfl, rfl, rfl, rfl, rfl, trivial⟩
  · replace F := F.2 hc
    refine s_aln dX13_weigh_119 rfl ?_
    refine s_il dX13_weigh_120 rfl ?_
    refine s_il dX13_weigh_122 rfl ?_
    refine k_882 dX13_weigh_124 rfl (Nat.le_of_ble_eq_true rfl) (Nat.le_of_ble_eq_true rfl) F (fun r2 σ1 F => ?_)
    refine s_il dX13_weigh_127 rfl ?_
    refine s_iin (t := 141) (r2 = a6) dX13_weigh_129 rfl rfl (fun hc => ?_) (fun hc => ?_)
    · replace F := F.1 hc
      refine s_incb dX13_weigh_141 ki_1 rfl (Nat.le_of_ble_eq_true rfl) (fun v9_3 ev9_3 => ?_)
      replace F := F v9_3 ev9_3
      show wG _ _ _ _ [some (.ref (co C)), some (.int a1), some (.int a2), some (.int a3), some (.int a4), some (.int a5), some (.int a6), some (.int a7), some (.int a8), some (.int v9_3), some (.int a10)] _ _ _
      refine s_goto (t := 25) dX13_weigh_144 rfl ?_
      exact s_k (hB25 _ _ _ _ _ _ _ _ _ _ F) ⟨rfl, rfl, rfl, rfl, rfl, rfl, rfl, rfl, rfl, rfl, trivial⟩
    · replace F := F.2 hc
      exact s_k (t_weigh_132 hC hB7 hB25 F) ⟨rfl, rfl, rfl, rfl, rfl, rfl, rfl, rfl, rfl, rfl, trivial⟩

def w_weigh_96 (C : rCx) (Q : rS → Prop) (B7 : Int32 → Int32 → Int32 → Int32 → Int32 → Int32 → Int32 → Int32 → rS → Prop) (B25 : Int32 → Int32 → Int32 → Int32 → Int32 → Int32 → Int32 → Int32 → Int32 → rS → Prop) (a1 : Int32) (a2 : Int32) (a3 : Int32) (a4 : Int32) (a5 : Int32) (a6 : Int32) (a7 : Int32) (a8 : Int32) (a9 : Int32) (a10 : Int32) (σ : rS) : Prop :=
  (a3 = (-1 : Int32) →
    w_weigh_113 C Q B7 B25 a1 a2 a3 a4 a5 a6 a7 a8 a9 a10 σ) ∧
  (¬ (a3 = (-1 : Int32)) →
    cI C 0 m_told [.ref (co C), .int a10, .int a3] σ (fun r2 σ1 =>
      (¬ (r2 = a4) →
        ∀ v9_3 : Int32, v9_3 = a9 + (1 : Int32) →
        B25 a1 a2 a3 a4 a5 a6 a7 a8 v9_3 σ1) ∧
      (r2 = a4 →
        w_weigh_113 C Q B7 B25 a1 a2 a3 a4 a5 a6 a7 a8 a9 a10 σ1)))
theorem t_weigh_96 {C : rCx} (hC : cOK C) {Q : rS → Prop} {B7 : Int32 → Int32 → Int32 → Int32 → Int32 → Int32 → Int32 → Int32 → rS → Prop} {B25 : Int32 → Int32 → Int32 → Int32 → Int32 → Int32 → Int32 → Int32 → Int32 → rS → Prop} (hB7 : ∀ a1' a2' a3' a4' a5' a6' a7' a8' τ, B7 a1' a2' a3' a4' a5' a6' a7' a8' τ → wG C 6 m_weigh 7 [some (.ref (co C)), some (.int a1'), some (.int a2'), some (.int a3'), some (.int a4'), some (.int a5'), some (.int a6'), some (.int a7'), some (.int a8'), none, none] [] τ (qV Q)) (hB25 : ∀ a1' a2' a3' a4' a5' a6' a7' a8' a9' τ, B25 a1' a2' a3' a4' a5' a6' a7' a8' a9' τ → wG C 6 m_weigh 25 [some (.ref (co C)), some (.int a1'), some (.int a2'), some (.int a3'), some (.int a4'), some (.int a5'), some (.int a6'), some (.int a7'), some (.int a8'), some (.int a9'), none] [] τ (qV Q)) {a1 : Int32} {a2 : Int32} {a3 : Int32} {a4 : Int32} {a5 : Int32} {a6 : Int32} {a7 : Int32} {a8 : Int32} {a9 : Int32} {a10 : Int32} {σ : rS} (F : w_weigh_96 C Q B7 B25 a1 a2 a3 a4 a5 a6 a7 a8 a9 a10 σ) : wG C 6 m_weigh 96 [some (.ref (co C)), some (.int a1), some (.int a2), some (.int a3), some (.int a4), some (.int a5), some (.int a6), some (.int a7), some (.int a8), some (.int a9), some (.int a10)] [] σ (qV Q) := by
  unfold w_weigh_96 at F
  refine s_iln dX13_weigh_96 rfl ?_
  refine s_ic dX13_weigh_97 ki_m1 ?_
  refine s_ii (t := 113) (a3 = (-1 : Int32)) dX13_weigh_98 rfl rfl (fun hc => ?_) (fun hc => ?_)
  · replace F := F.1 hc
    exact s_k (t_weigh_113 hC hB7 hB25 F) ⟨rfl, rfl, rfl, rfl, rfl, rfl, rfl, rfl, rfl, rfl, rfl, trivial⟩
  · replace F := F.2 hc
    refine s_aln dX13_weigh_101 rfl ?_
    refine s_il dX13_weigh_102 rfl ?_
    refine s_iln dX13_weigh_104 rfl ?_
    refine k_882 dX13_weigh_105 rfl (Nat.le_of_ble_eq_true rfl) (Nat.le_of_ble_eq_true rfl) F (fun r2 σ1 F => ?_)
    refine s_il dX13_weigh_108 rfl ?_
    refine s_iin (t := 141) (r2 = a4) dX13_weigh_110 rfl rfl (fun hc => ?_) (fun hc => ?_)
    · replace F := F.1 hc
      refine s_incb dX13_weigh_141 ki_1 rfl (Nat.le_of_ble_eq_true rfl) (fun v9_3 ev9_3 => ?_)
      replace F := F v9_3 ev9_3
      show wG _ _ _ _ [some (.ref (co C)), some (.int a1), some (.int a2), some (.int a3), some (.int a4), some (.int a5), some (.int a6), some (.int a7), some (.int a8), some (.int v9_3), some (.int a10)] _ _ _
      refine s_goto (t := 25) dX13_weigh_144 rfl ?_
      exact s_k (hB25 _ _ _ _ _ _ _ _ _ _ F) ⟨rfl, rfl, rfl, rfl, rfl, rfl, rfl, rfl, rfl, rfl, trivial⟩
    · replace F := F.2 hc
      exact s_k (t_weigh_113 hC hB7 hB25 F) ⟨rfl, rfl, rfl, rfl, rfl, rfl, rfl, rfl, rfl, rfl, rfl, trivial⟩

def w_weigh_25 (C : rCx) (Q : rS → Prop) (B7 : Int32 → Int32 → Int32 → Int32 → Int32 → Int32 → Int32 → Int32 → rS → Prop) (a1 : Int32) (a2 : Int32) (a3 : Int32) (a4 : Int32) (a5 : Int32) (a6 : Int32) (a7 : Int32) (a8 : Int32) (a9 : Int32) (σ : rS) : Prop :=
  ∃ I : Nat → Int32 → Int32 → Int32 → Int32 → Int32 → Int32 → Int32 → Int32 → Int32 → rS → Prop, (∃ n, I n a1 a2 a3 a4 a5 a6 a7 a8 a9 σ) ∧ ∀ n a1 a2 a3 a4 a5 a6 a7 a8 a9 σ, I n a1 a2 a3 a4 a5 a6 a7 a8 a9 σ →
    cI C 0 m_isVisited [.ref (co C), .int a8] σ (fun r2 σ1 =>
      (r2 = 0 →
        ∀ v8_3 : Int32, v8_3 = a8 + (1 : Int32) →
        B7 a1 a2 a3 a4 a5 a6 a7 v8_3 σ1) ∧
      (¬ (r2 = 0) →
        inb (a8 + (1 : Int32)) 1001 ∧
        ((σ1.2.2.1 76 ((a8 + (1 : Int32))).toNatClampNeg) ≤ a9 →
          ∀ v8_4 : Int32, v8_4 = a8 + (1 : Int32) →
          B7 a1 a2 a3 a4 a5 a6 a7 v8_4 σ1) ∧
        (¬ ((σ1.2.2.1 76 ((a8 + (1 : Int32))).toNatClampNeg) ≤ a9) →
          inb a9 20000 ∧
          ∀ v10_5 : Int32, v10_5 = (σ1.2.2.1 78 (a9).toNatClampNeg) →
          inb a9 20000 ∧
          (¬ ((σ1.2.2.1 77 (a9).toNatClampNeg) = (1 : Int32)) →
            ∀ v9_6 : Int32, v9_6 = a9 + (1 : Int32) →
            ∃ k < n, I k a1 a2 a3 a4 a5 a6 a7 a8 v9_6 σ1) ∧
          ((σ1.2.2.1 77 (a9).toNatClampNeg) = (1 : Int32) →
            cI C 0 m_isTaken [.ref (co C), .int a8, .int a9, .int (1 : Int32)] σ1 (fun r8 σ7 =>
              (r8 = 0 →
                ∀ v9_9 : Int32, v9_9 = a9 + (1 : Int32) →
                ∃ k < n, I k a1 a2 a3 a4 a5 a6 a7 a8 v9_9 σ7) ∧
              (¬ (r8 = 0) →
                (a1 = (-1 : Int32) →
                  w_weigh_96 C Q B7 (fun a1' a2' a3' a4' a5' a6' a7' a8' a9' τ => ∃ k < n, I k a1' a2' a3' a4' a5' a6' a7' a8' a9' τ) a1 a2 a3 a4 a5 a6 a7 a8 a9 v10_5 σ7) ∧
                (¬ (a1 = (-1 : Int32)) →
                  cI C 0 m_told [.ref (co C), .int v10_5, .int a1] σ7 (fun r11 σ10 =>
                    (¬ (r11 = a2) →
                      ∀ v9_12 : Int32, v9_12 = a9 + (1 : Int32) →
                      ∃ k < n, I k a1 a2 a3 a4 a5 a6 a7 a8 v9_12 σ10) ∧
                    (r11 = a2 →
                      w_weigh_96 C Q B7 (fun a1' a2' a3' a4' a5' a6' a7' a8' a9' τ => ∃ k < n, I k a1' a2' a3' a4' a5' a6' a7' a8' a9' τ) a1 a2 a3 a4 a5 a6 a7 a8 a9 v10_5 σ10)))))))))
theorem t_weigh_25 {C : rCx} (hC : cOK C) {Q : rS → Prop} {B7 : Int32 → Int32 → Int32 → Int32 → Int32 → Int32 → Int32 → Int32 → rS → Prop} (hB7 : ∀ a1' a2' a3' a4' a5' a6' a7' a8' τ, B7 a1' a2' a3' a4' a5' a6' a7' a8' τ → wG C 6 m_weigh 7 [some (.ref (co C)), some (.int a1'), some (.int a2'), some (.int a3'), some (.int a4'), some (.int a5'), some (.int a6'), some (.int a7'), some (.int a8'), none, none] [] τ (qV Q)) {a1 : Int32} {a2 : Int32} {a3 : Int32} {a4 : Int32} {a5 : Int32} {a6 : Int32} {a7 : Int32} {a8 : Int32} {a9 : Int32} {σ : rS} (F : w_weigh_25 C Q B7 a1 a2 a3 a4 a5 a6 a7 a8 a9 σ) : wG C 6 m_weigh 25 [some (.ref (co C)), some (.int a1), some (.int a2), some (.int a3), some (.int a4), some (.int a5), some (.int a6), some (.int a7), some (.int a8), some (.int a9), none] [] σ (qV Q) := by
  obtain ⟨I, ⟨n0, hI0⟩, F0⟩ := F
  have key : ∀ n a1 a2 a3 a4 a5 a6 a7 a8 a9 σ, I n a1 a2 a3 a4 a5 a6 a7 a8 a9 σ → wG C 6 m_weigh 25 [some (.ref (co C)), some (.int a1), some (.int a2), some (.int a3), some (.int a4), some (.int a5), some (.int a6), some (.int a7), some (.int a8), some (.int a9), none] [] σ (qV Q) := by
    intro n
    induction n using Nat.strongRecOn with
    | _ n ih =>
      intro a1 a2 a3 a4 a5 a6 a7 a8 a9 σ hI
      have F := F0 n a1 a2 a3 a4 a5 a6 a7 a8 a9 σ hI
      clear hI hI0
      refine s_aln dX13_weigh_25 rfl ?_
      refine s_il dX13_weigh_26 rfl ?_
      refine k_793 dX13_weigh_28 rfl (Nat.le_of_ble_eq_true rfl) (Nat.le_of_ble_eq_true rfl) F (fun r2 σ1 F => ?_)
      refine s_i (t := 147) (r2 = 0) dX13_weigh_31 rfl rfl (fun hc => ?_) (fun hc => ?_)
      · replace F := F.1 hc
        refine s_incb dX13_weigh_147 ki_1 rfl (Nat.le_of_ble_eq_true rfl) (fun v8_3 ev8_3 => ?_)
        replace F := F v8_3 ev8_3
        show wG _ _ _ _ [some (.ref (co C)), some (.int a1), some (.int a2), some (.int a3), some (.int a4), some (.int a5), some (.int a6), some (.int a7), some (.int v8_3), some (.int a9), none] _ _ _
        refine s_goto (t := 7) dX13_weigh_150 rfl ?_
        exact s_k (hB7 _ _ _ _ _ _ _ _ _ F) ⟨rfl, rfl, rfl, rfl, rfl, rfl, rfl, rfl, rfl, trivial⟩
      · replace F := F.2 hc
        refine s_il dX13_weigh_34 rfl ?_
        refine s_aln dX13_weigh_36 rfl ?_
        refine gf_151 dX13_weigh_37 rfl ?_
        refine s_il dX13_weigh_40 rfl ?_
        refine s_ic dX13_weigh_42 ki_1 ?_
        refine s_iadd dX13_weigh_43 ?_
        refine s_ald hC dX13_weigh_44 rt_76 F.1 ?_
        replace F := F.2
        refine s_ii (t := 147) ((σ1.2.2.1 76 ((a8 + (1 : Int32))).toNatClampNeg) ≤ a9) dX13_weigh_45 rfl rfl (fun hc => ?_) (fun hc => ?_)
        · replace F := F.1 hc
          refine s_incb dX13_weigh_147 ki_1 rfl (Nat.le_of_ble_eq_true rfl) (fun v8_4 ev8_4 => ?_)
          replace F := F v8_4 ev8_4
          show wG _ _ _ _ [some (.ref (co C)), some (.int a1), some (.int a2), some (.int a3), some (.int a4), some (.int a5), some (.int a6), some (.int a7), some (.int v8_4), some (.int a9), none] _ _ _
          refine s_goto (t := 7) dX13_weigh_150 rfl ?_
          exact s_k (hB7 _ _ _ _ _ _ _ _ _ F) ⟨rfl, rfl, rfl, rfl, rfl, rfl, rfl, rfl, rfl, trivial⟩
        · replace F := F.2 hc
          refine s_aln dX13_weigh_48 rfl ?_
          refine gf_157 dX13_weigh_49 rfl ?_
          refine s_il dX13_weigh_52 rfl ?_
          refine s_ald hC dX13_weigh_54 rt_78 F.1 ?_
          replace F := F.2
          refine s_isb dX13_weigh_55 (Nat.le_of_ble_eq_true rfl) (fun v10_5 ev10_5 => ?_)
          replace F := F v10_5 ev10_5
          show wG _ _ _ _ [some (.ref (co C)), some (.int a1), some (.int a2), some (.int a3), some (.int a4), some (.int a5), some (.int a6), some (.int a7), some (.int a8), some (.int a9), some (.int v10_5)] _ _ _
          refine s_aln dX13_weigh_57 rfl ?_
          refine gf_154 dX13_weigh_58 rfl ?_
          refine s_il dX13_weigh_61 rfl ?_
          refine s_ald hC dX13_weigh_63 rt_77 F.1 ?_
          replace F := F.2
          refine s_ic dX13_weigh_64 ki_1 ?_
          refine s_iin (t := 141) ((σ1.2.2.1 77 (a9).toNatClampNeg) = (1 : Int32)) dX13_weigh_65 rfl rfl (fun hc => ?_) (fun hc => ?_)
          · replace F := F.1 hc
            refine s_incb dX13_weigh_141 ki_1 rfl (Nat.le_of_ble_eq_true rfl) (fun v9_6 ev9_6 => ?_)
            replace F := F v9_6 ev9_6
            show wG _ _ _ _ [some (.ref (co C)), some (.int a1), some (.int a2), some (.int a3), some (.int a4), some (.int a5), some (.int a6), some (.int a7), some (.int a8), some (.int v9_6), some (.int v10_5)] _ _ _
            refine s_goto (t := 25) dX13_weigh_144 rfl ?_
            obtain ⟨k, hk, hI⟩ := F
            exact s_k (ih k hk _ _ _ _ _ _ _ _ _ _ hI) ⟨rfl, rfl, rfl, rfl, rfl, rfl, rfl, rfl, rfl, rfl, trivial⟩
          · replace F := F.2 hc
            refine s_aln dX13_weigh_68 rfl ?_
            refine s_il dX13_weigh_69 rfl ?_
            refine s_il dX13_weigh_71 rfl ?_
            refine s_ic dX13_weigh_73 ki_1 ?_
            refine k_640 dX13_weigh_74 rfl (Nat.le_of_ble_eq_true rfl) (Nat.le_of_ble_eq_true rfl) F (fun r8 σ7 F => ?_)
            refine s_i (t := 141) (r8 = 0) dX13_weigh_77 rfl rfl (fun hc => ?_) (fun hc => ?_)
            · replace F := F.1 hc
              refine s_incb dX13_weigh_141 ki_1 rfl (Nat.le_of_ble_eq_true rfl) (fun v9_9 ev9_9 => ?_)
              replace F := F v9_9 ev9_9
              show wG _ _ _ _ [some (.ref (co C)), some (.int a1), some (.int a2), some (.int a3), some (.int a4), some (.int a5), some (.int a6), some (.int a7), some (.int a8), some (.int v9_9), some (.int v10_5)] _ _ _
              refine s_goto (t := 25) dX13_weigh_144 rfl ?_
              obtain ⟨k, hk, hI⟩ := F
              exact s_k (ih k hk _ _ _ _ _ _ _ _ _ _ hI) ⟨rfl, rfl, rfl, rfl, rfl, rfl, rfl, rfl, rfl, rfl, trivial⟩
            · replace F := F.2 hc
              refine s_iln dX13_weigh_80 rfl ?_
              refine s_ic dX13_weigh_81 ki_m1 ?_
              refine s_ii (t := 96) (a1 = (-1 : Int32)) dX13_weigh_82 rfl rfl (fun hc => ?_) (fun hc => ?_)
              · replace F := F.1 hc
                exact s_k (t_weigh_96 hC hB7 (fun a1' a2' a3' a4' a5' a6' a7' a8' a9' τ hb => by obtain ⟨k, hk, hI⟩ := hb; exact ih k hk a1' a2' a3' a4' a5' a6' a7' a8' a9' τ hI) F) ⟨rfl, rfl, rfl, rfl, rfl, rfl, rfl, rfl, rfl, rfl, rfl, trivial⟩
              · replace F := F.2 hc
                refine s_aln dX13_weigh_85 rfl ?_
                refine s_il dX13_weigh_86 rfl ?_
                refine s_iln dX13_weigh_88 rfl ?_
                refine k_882 dX13_weigh_89 rfl (Nat.le_of_ble_eq_true rfl) (Nat.le_of_ble_eq_true rfl) F (fun r11 σ10 F => ?_)
                refine s_iln dX13_weigh_92 rfl ?_
                refine s_iin (t := 141) (r11 = a2) dX13_weigh_93 rfl rfl (fun hc => ?_) (fun hc => ?_)
                · replace F := F.1 hc
                  refine s_incb dX13_weigh_141 ki_1 rfl (Nat.le_of_ble_eq_true rfl) (fun v9_12 ev9_12 => ?_)
                  replace F := F v9_12 ev9_12
                  show wG _ _ _ _ [some (.ref (co C)), some (.int a1), some (.int a2), some (.int a3), some (.int a4), some (.int a5), some (.int a6), some (.int a7), some (.int a8), some (.int v9_12), some (.int v10_5)] _ _ _
                  refine s_goto (t := 25) dX13_weigh_144 rfl ?_
                  obtain ⟨k, hk, hI⟩ := F
                  exact s_k (ih k hk _ _ _ _ _ _ _ _ _ _ hI) ⟨rfl, rfl, rfl, rfl, rfl, rfl, rfl, rfl, rfl, rfl, trivial⟩
                · replace F := F.2 hc
                  exact s_k (t_weigh_96 hC hB7 (fun a1' a2' a3' a4' a5' a6' a7' a8' a9' τ hb => by obtain ⟨k, hk, hI⟩ := hb; exact ih k hk a1' a2' a3' a4' a5' a6' a7' a8' a9' τ hI) F) ⟨rfl, rfl, rfl, rfl, rfl, rfl, rfl, rfl, rfl, rfl, rfl, trivial⟩
  exact key n0 a1 a2 a3 a4 a5 a6 a7 a8 a9 σ hI0

def w_weigh_7 (C : rCx) (Q : rS → Prop)  (a1 : Int32) (a2 : Int32) (a3 : Int32) (a4 : Int32) (a5 : Int32) (a6 : Int32) (a7 : Int32) (a8 : Int32) (σ : rS) : Prop :=
  ∃ I : Nat → Int32 → Int32 → Int32 → Int32 → Int32 → Int32 → Int32 → Int32 → rS → Prop, (∃ n, I n a1 a2 a3 a4 a5 a6 a7 a8 σ) ∧ ∀ n a1 a2 a3 a4 a5 a6 a7 a8 σ, I n a1 a2 a3 a4 a5 a6 a7 a8 σ →
    ((σ.1 70) ≤ a8 →
      cV C 0 m_copy [.ref (co C), .int a7, .int (4 : Int32)] σ (fun σ1 =>
        cV C 0 m_copy [.ref (co C), .int (a7 + (1 : Int32)), .int (5 : Int32)] σ1 (fun σ3 =>
          Q σ3))) ∧
    (¬ ((σ.1 70) ≤ a8) →
      inb a8 1001 ∧
      ∀ v9_5 : Int32, v9_5 = (σ.2.2.1 76 (a8).toNatClampNeg) →
      w_weigh_25 C Q (fun a1' a2' a3' a4' a5' a6' a7' a8' τ => ∃ k < n, I k a1' a2' a3' a4' a5' a6' a7' a8' τ) a1 a2 a3 a4 a5 a6 a7 a8 v9_5 σ)
theorem t_weigh_7 {C : rCx} (hC : cOK C) {Q : rS → Prop}   {a1 : Int32} {a2 : Int32} {a3 : Int32} {a4 : Int32} {a5 : Int32} {a6 : Int32} {a7 : Int32} {a8 : Int32} {σ : rS} (F : w_weigh_7 C Q  a1 a2 a3 a4 a5 a6 a7 a8 σ) : wG C 6 m_weigh 7 [some (.ref (co C)), some (.int a1), some (.int a2), some (.int a3), some (.int a4), some (.int a5), some (.int a6), some (.int a7), some (.int a8), none, none] [] σ (qV Q) := by
  obtain ⟨I, ⟨n0, hI0⟩, F0⟩ := F
  have key : ∀ n a1 a2 a3 a4 a5 a6 a7 a8 σ, I n a1 a2 a3 a4 a5 a6 a7 a8 σ → wG C 6 m_weigh 7 [some (.ref (co C)), some (.int a1), some (.int a2), some (.int a3), some (.int a4), some (.int a5), some (.int a6), some (.int a7), some (.int a8), none, none] [] σ (qV Q) := by
    intro n
    induction n using Nat.strongRecOn with
    | _ n ih =>
      intro a1 a2 a3 a4 a5 a6 a7 a8 σ hI
      have F := F0 n a1 a2 a3 a4 a5 a6 a7 a8 σ hI
      clear hI hI0
      refine s_il dX13_weigh_7 rfl ?_
      refine s_aln dX13_weigh_9 rfl ?_
      refine gf_542 dX13_weigh_10 rfl ?_
      refine s_ii (t := 153) ((σ.1 70) ≤ a8) dX13_weigh_13 rfl rfl (fun hc => ?_) (fun hc => ?_)
      · replace F := F.1 hc
        refine s_aln dX13_weigh_153 rfl ?_
        refine s_il dX13_weigh_154 rfl ?_
        refine s_ic dX13_weigh_156 ki_4 ?_
        refine k_703 dX13_weigh_157 rfl (Nat.le_of_ble_eq_true rfl) (Nat.le_of_ble_eq_true rfl) F (fun σ1 F => ?_)
        refine s_aln dX13_weigh_160 rfl ?_
        refine s_il dX13_weigh_161 rfl ?_
        refine s_ic dX13_weigh_163 ki_1 ?_
        refine s_iadd dX13_weigh_164 ?_
        refine s_ic dX13_weigh_165 ki_5 ?_
        refine k_703 dX13_weigh_166 rfl (Nat.le_of_ble_eq_true rfl) (Nat.le_of_ble_eq_true rfl) F (fun σ3 F => ?_)
        exact s_rv dX13_weigh_169 rfl F
      · replace F := F.2 hc
        refine s_aln dX13_weigh_16 rfl ?_
        refine gf_151 dX13_weigh_17 rfl ?_
        refine s_il dX13_weigh_20 rfl ?_
        refine s_ald hC dX13_weigh_22 rt_76 F.1 ?_
        replace F := F.2
        refine s_isb dX13_weigh_23 (Nat.le_of_ble_eq_true rfl) (fun v9_5 ev9_5 => ?_)
        replace F := F v9_5 ev9_5
        show wG _ _ _ _ [some (.ref (co C)), some (.int a1), some (.int a2), some (.int a3), some (.int a4), some (.int a5), some (.int a6), some (.int a7), some (.int a8), some (.int v9_5), none] _ _ _
        exact s_k (t_weigh_25 hC (fun a1' a2' a3' a4' a5' a6' a7' a8' τ hb => by obtain ⟨k, hk, hI⟩ := hb; exact ih k hk a1' a2' a3' a4' a5' a6' a7' a8' τ hI) F) ⟨rfl, rfl, rfl, rfl, rfl, rfl, rfl, rfl, rfl, rfl, trivial⟩
  exact key n0 a1 a2 a3 a4 a5 a6 a7 a8 σ hI0

def w_weigh_0 (C : rCx) (Q : rS → Prop)  (a1 : Int32) (a2 : Int32) (a3 : Int32) (a4 : Int32) (a5 : Int32) (a6 : Int32) (a7 : Int32) (σ : rS) : Prop :=
  cV C 1 m_clearSum [.ref (co C)] σ (fun σ1 =>
    w_weigh_7 C Q  a1 a2 a3 a4 a5 a6 a7 (0 : Int32) σ1)
theorem t_weigh_0 {C : rCx} (hC : cOK C) {Q : rS → Prop}   {a1 : Int32} {a2 : Int32} {a3 : Int32} {a4 : Int32} {a5 : Int32} {a6 : Int32} {a7 : Int32} {σ : rS} (F : w_weigh_0 C Q  a1 a2 a3 a4 a5 a6 a7 σ) : wG C 6 m_weigh 0 [some (.ref (co C)), some (.int a1), some (.int a2), some (.int a3), some (.int a4), some (.int a5), some (.int a6), some (.int a7), none, none, none] [] σ (qV Q) := by
  unfold w_weigh_0 at F
  refine s_aln dX13_weigh_0 rfl ?_
  refine k_762 dX13_weigh_1 rfl (Nat.le_of_ble_eq_true rfl) (Nat.le_of_ble_eq_true rfl) F (fun σ1 F => ?_)
  refine s_ic dX13_weigh_4 ki_0 ?_
  refine s_is dX13_weigh_5 (Nat.le_of_ble_eq_true rfl) rfl ?_
  show wG _ _ _ _ [some (.ref (co C)), some (.int a1), some (.int a2), some (.int a3), some (.int a4), some (.int a5), some (.int a6), some (.int a7), some (.int (0 : Int32)), none, none] _ _ _
  exact s_k (t_weigh_7 hC  F) ⟨rfl, rfl, rfl, rfl, rfl, rfl, rfl, rfl, rfl, trivial⟩

theorem m_weigh_run {C : rCx} (hC : cOK C) {Q : rS → Prop} {a1 : Int32} {a2 : Int32} {a3 : Int32} {a4 : Int32} {a5 : Int32} {a6 : Int32} {a7 : Int32} {σ : rS} (F : w_weigh_0 C Q a1 a2 a3 a4 a5 a6 a7 σ) : cV C 6 m_weigh [.ref (co C), .int a1, .int a2, .int a3, .int a4, .int a5, .int a6, .int a7] σ Q := m_V (m_ent _ 3) (t_weigh_0 hC F)

theorem dX13_product_0 : decode cX13_product 0 = .ok (.aload_n 0, 1) := by decide +kernel
theorem dX13_product_1 : decode cX13_product 1 = .ok (.iload_n 3, 1) := by decide +kernel
theorem dX13_product_2 : decode cX13_product 2 = .ok (.iload_n 1, 1) := by decide +kernel
theorem dX13_product_3 : decode cX13_product 3 = .ok (.iload_n 2, 1) := by decide +kernel
theorem dX13_product_4 : decode cX13_product 4 = .ok (.invokevirtual 712, 3) := by decide +kernel
theorem dX13_product_7 : decode cX13_product 7 = .ok (.aload_n 0, 1) := by decide +kernel
theorem dX13_product_8 : decode cX13_product 8 = .ok (.iload_n 3, 1) := by decide +kernel
theorem dX13_product_9 : decode cX13_product 9 = .ok (.iconst 1, 1) := by decide +kernel
theorem dX13_product_10 : decode cX13_product 10 = .ok (.iadd, 1) := by decide +kernel
theorem dX13_product_11 : decode cX13_product 11 = .ok (.iload_n 1, 1) := by decide +kernel
theorem dX13_product_12 : decode cX13_product 12 = .ok (.iconst 1, 1) := by decide +kernel
theorem dX13_product_13 : decode cX13_product 13 = .ok (.iadd, 1) := by decide +kernel
theorem dX13_product_14 : decode cX13_product 14 = .ok (.iload_n 2, 1) := by decide +kernel
theorem dX13_product_15 : decode cX13_product 15 = .ok (.iconst 1, 1) := by decide +kernel
theorem dX13_product_16 : decode cX13_product 16 = .ok (.iadd, 1) := by decide +kernel
theorem dX13_product_17 : decode cX13_product 17 = .ok (.invokevirtual 712, 3) := by decide +kernel
theorem dX13_product_20 : decode cX13_product 20 = .ok (.aload_n 0, 1) := by decide +kernel
theorem dX13_product_21 : decode cX13_product 21 = .ok (.iload_n 3, 1) := by decide +kernel
theorem dX13_product_22 : decode cX13_product 22 = .ok (.iload_n 3, 1) := by decide +kernel
theorem dX13_product_23 : decode cX13_product 23 = .ok (.iconst 1, 1) := by decide +kernel
theorem dX13_product_24 : decode cX13_product 24 = .ok (.iadd, 1) := by decide +kernel
theorem dX13_product_25 : decode cX13_product 25 = .ok (.invokevirtual 721, 3) := by decide +kernel
theorem dX13_product_28 : decode cX13_product 28 = .ok (.return_, 1) := by decide +kernel
def w_product_0 (C : rCx) (Q : rS → Prop)  (a1 : Int32) (a2 : Int32) (a3 : Int32) (σ : rS) : Prop :=
  cV C 1 m_times [.ref (co C), .int a3, .int a1, .int a2] σ (fun σ1 =>
    cV C 1 m_times [.ref (co C), .int (a3 + (1 : Int32)), .int (a1 + (1 : Int32)), .int (a2 + (1 : Int32))] σ1 (fun σ3 =>
      cV C 3 m_reduce [.ref (co C), .int a3, .int (a3 + (1 : Int32))] σ3 (fun σ5 =>
        Q σ5)))
theorem t_product_0 {C : rCx} (hC : cOK C) {Q : rS → Prop}   {a1 : Int32} {a2 : Int32} {a3 : Int32} {σ : rS} (F : w_product_0 C Q  a1 a2 a3 σ) : wG C 4 m_product 0 [some (.ref (co C)), some (.int a1), some (.int a2), some (.int a3)] [] σ (qV Q) := by
  unfold w_product_0 at F
  refine s_aln dX13_product_0 rfl ?_
  refine s_iln dX13_product_1 rfl ?_
  refine s_iln dX13_product_2 rfl ?_
  refine s_iln dX13_product_3 rfl ?_
  refine k_712 dX13_product_4 rfl (Nat.le_of_ble_eq_true rfl) (Nat.le_of_ble_eq_true rfl) F (fun σ1 F => ?_)
  refine s_aln dX13_product_7 rfl ?_
  refine s_iln dX13_product_8 rfl ?_
  refine s_ic dX13_product_9 ki_1 ?_
  refine s_iadd dX13_product_10 ?_
  refine s_iln dX13_product_11 rfl ?_
  refine s_ic dX13_product_12 ki_1 ?_
  refine s_iadd dX13_product_13 ?_
  refine s_iln dX13_product_14 rfl ?_
  refine s_ic dX13_product_15 ki_1 ?_
  refine s_iadd dX13_product_16 ?_
  refine k_712 dX13_product_17 rfl (Nat.le_of_ble_eq_true rfl) (Nat.le_of_ble_eq_true rfl) F (fun σ3 F => ?_)
  refine s_aln dX13_product_20 rfl ?_
  refine s_iln dX13_product_21 rfl ?_
  refine s_iln dX13_product_22 rfl ?_
  refine s_ic dX13_product_23 ki_1 ?_
  refine s_iadd dX13_product_24 ?_
  refine k_721 dX13_product_25 rfl (Nat.le_of_ble_eq_true rfl) (Nat.le_of_ble_eq_true rfl) F (fun σ5 F => ?_)
  exact s_rv dX13_product_28 rfl F

theorem m_product_run {C : rCx} (hC : cOK C) {Q : rS → Prop} {a1 : Int32} {a2 : Int32} {a3 : Int32} {σ : rS} (F : w_product_0 C Q a1 a2 a3 σ) : cV C 4 m_product [.ref (co C), .int a1, .int a2, .int a3] σ Q := m_V (m_ent _ 0) (t_product_0 hC F)

theorem dX13_isPairFree_0 : decode cX13_isPairFree 0 = .ok (.aload_n 0, 1) := by decide +kernel
theorem dX13_isPairFree_1 : decode cX13_isPairFree 1 = .ok (.iload_n 1, 1) := by decide +kernel
theorem dX13_isPairFree_2 : decode cX13_isPairFree 2 = .ok (.iload_n 2, 1) := by decide +kernel
theorem dX13_isPairFree_3 : decode cX13_isPairFree 3 = .ok (.iload_n 3, 1) := by decide +kernel
theorem dX13_isPairFree_4 : decode cX13_isPairFree 4 = .ok (.iload 4, 2) := by decide +kernel
theorem dX13_isPairFree_6 : decode cX13_isPairFree 6 = .ok (.iload 5, 2) := by decide +kernel
theorem dX13_isPairFree_8 : decode cX13_isPairFree 8 = .ok (.iload 6, 2) := by decide +kernel
theorem dX13_isPairFree_10 : decode cX13_isPairFree 10 = .ok (.bipush 19, 2) := by decide +kernel
theorem dX13_isPairFree_12 : decode cX13_isPairFree 12 = .ok (.invokevirtual 885, 3) := by decide +kernel
theorem dX13_isPairFree_15 : decode cX13_isPairFree 15 = .ok (.aload_n 0, 1) := by decide +kernel
theorem dX13_isPairFree_16 : decode cX13_isPairFree 16 = .ok (.iconst (-1), 1) := by decide +kernel
theorem dX13_isPairFree_17 : decode cX13_isPairFree 17 = .ok (.iconst 0, 1) := by decide +kernel
theorem dX13_isPairFree_18 : decode cX13_isPairFree 18 = .ok (.iconst (-1), 1) := by decide +kernel
theorem dX13_isPairFree_19 : decode cX13_isPairFree 19 = .ok (.iconst 0, 1) := by decide +kernel
theorem dX13_isPairFree_20 : decode cX13_isPairFree 20 = .ok (.iload 5, 2) := by decide +kernel
theorem dX13_isPairFree_22 : decode cX13_isPairFree 22 = .ok (.iload 6, 2) := by decide +kernel
theorem dX13_isPairFree_24 : decode cX13_isPairFree 24 = .ok (.bipush 21, 2) := by decide +kernel
theorem dX13_isPairFree_26 : decode cX13_isPairFree 26 = .ok (.invokevirtual 885, 3) := by decide +kernel
theorem dX13_isPairFree_29 : decode cX13_isPairFree 29 = .ok (.aload_n 0, 1) := by decide +kernel
theorem dX13_isPairFree_30 : decode cX13_isPairFree 30 = .ok (.bipush 19, 2) := by decide +kernel
theorem dX13_isPairFree_32 : decode cX13_isPairFree 32 = .ok (.bipush 21, 2) := by decide +kernel
theorem dX13_isPairFree_34 : decode cX13_isPairFree 34 = .ok (.bipush 23, 2) := by decide +kernel
theorem dX13_isPairFree_36 : decode cX13_isPairFree 36 = .ok (.invokevirtual 889, 3) := by decide +kernel
theorem dX13_isPairFree_39 : decode cX13_isPairFree 39 = .ok (.aload_n 0, 1) := by decide +kernel
theorem dX13_isPairFree_40 : decode cX13_isPairFree 40 = .ok (.iload_n 1, 1) := by decide +kernel
theorem dX13_isPairFree_41 : decode cX13_isPairFree 41 = .ok (.iload_n 2, 1) := by decide +kernel
theorem dX13_isPairFree_42 : decode cX13_isPairFree 42 = .ok (.iconst (-1), 1) := by decide +kernel
theorem dX13_isPairFree_43 : decode cX13_isPairFree 43 = .ok (.iconst 0, 1) := by decide +kernel
theorem dX13_isPairFree_44 : decode cX13_isPairFree 44 = .ok (.iload 5, 2) := by decide +kernel
theorem dX13_isPairFree_46 : decode cX13_isPairFree 46 = .ok (.iload 6, 2) := by decide +kernel
theorem dX13_isPairFree_48 : decode cX13_isPairFree 48 = .ok (.bipush 19, 2) := by decide +kernel
theorem dX13_isPairFree_50 : decode cX13_isPairFree 50 = .ok (.invokevirtual 885, 3) := by decide +kernel
theorem dX13_isPairFree_53 : decode cX13_isPairFree 53 = .ok (.aload_n 0, 1) := by decide +kernel
theorem dX13_isPairFree_54 : decode cX13_isPairFree 54 = .ok (.iconst (-1), 1) := by decide +kernel
theorem dX13_isPairFree_55 : decode cX13_isPairFree 55 = .ok (.iconst 0, 1) := by decide +kernel
theorem dX13_isPairFree_56 : decode cX13_isPairFree 56 = .ok (.iload_n 3, 1) := by decide +kernel
theorem dX13_isPairFree_57 : decode cX13_isPairFree 57 = .ok (.iload 4, 2) := by decide +kernel
theorem dX13_isPairFree_59 : decode cX13_isPairFree 59 = .ok (.iload 5, 2) := by decide +kernel
theorem dX13_isPairFree_61 : decode cX13_isPairFree 61 = .ok (.iload 6, 2) := by decide +kernel
theorem dX13_isPairFree_63 : decode cX13_isPairFree 63 = .ok (.bipush 21, 2) := by decide +kernel
theorem dX13_isPairFree_65 : decode cX13_isPairFree 65 = .ok (.invokevirtual 885, 3) := by decide +kernel
theorem dX13_isPairFree_68 : decode cX13_isPairFree 68 = .ok (.aload_n 0, 1) := by decide +kernel
theorem dX13_isPairFree_69 : decode cX13_isPairFree 69 = .ok (.bipush 19, 2) := by decide +kernel
theorem dX13_isPairFree_71 : decode cX13_isPairFree 71 = .ok (.bipush 21, 2) := by decide +kernel
theorem dX13_isPairFree_73 : decode cX13_isPairFree 73 = .ok (.bipush 25, 2) := by decide +kernel
theorem dX13_isPairFree_75 : decode cX13_isPairFree 75 = .ok (.invokevirtual 889, 3) := by decide +kernel
theorem dX13_isPairFree_78 : decode cX13_isPairFree 78 = .ok (.aload_n 0, 1) := by decide +kernel
theorem dX13_isPairFree_79 : decode cX13_isPairFree 79 = .ok (.bipush 23, 2) := by decide +kernel
theorem dX13_isPairFree_81 : decode cX13_isPairFree 81 = .ok (.bipush 25, 2) := by decide +kernel
theorem dX13_isPairFree_83 : decode cX13_isPairFree 83 = .ok (.invokevirtual 683, 3) := by decide +kernel
theorem dX13_isPairFree_86 : decode cX13_isPairFree 86 = .ok (.ifCond .ne 18, 3) := by decide +kernel
theorem dX13_isPairFree_89 : decode cX13_isPairFree 89 = .ok (.aload_n 0, 1) := by decide +kernel
theorem dX13_isPairFree_90 : decode cX13_isPairFree 90 = .ok (.bipush 24, 2) := by decide +kernel
theorem dX13_isPairFree_92 : decode cX13_isPairFree 92 = .ok (.bipush 26, 2) := by decide +kernel
theorem dX13_isPairFree_94 : decode cX13_isPairFree 94 = .ok (.invokevirtual 683, 3) := by decide +kernel
theorem dX13_isPairFree_97 : decode cX13_isPairFree 97 = .ok (.ifCond .ne 7, 3) := by decide +kernel
theorem dX13_isPairFree_100 : decode cX13_isPairFree 100 = .ok (.iconst 1, 1) := by decide +kernel
theorem dX13_isPairFree_101 : decode cX13_isPairFree 101 = .ok (.goto 4, 3) := by decide +kernel
theorem dX13_isPairFree_104 : decode cX13_isPairFree 104 = .ok (.iconst 0, 1) := by decide +kernel
theorem dX13_isPairFree_105 : decode cX13_isPairFree 105 = .ok (.ireturn, 1) := by decide +kernel
def w_isPairFree_0 (C : rCx) (Q : Int32 → rS → Prop)  (a1 : Int32) (a2 : Int32) (a3 : Int32) (a4 : Int32) (a5 : Int32) (a6 : Int32) (σ : rS) : Prop :=
  cV C 6 m_weigh [.ref (co C), .int a1, .int a2, .int a3, .int a4, .int a5, .int a6, .int (19 : Int32)] σ (fun σ1 =>
    cV C 6 m_weigh [.ref (co C), .int (-1 : Int32), .int (0 : Int32), .int (-1 : Int32), .int (0 : Int32), .int a5, .int a6, .int (21 : Int32)] σ1 (fun σ3 =>
      cV C 4 m_product [.ref (co C), .int (19 : Int32), .int (21 : Int32), .int (23 : Int32)] σ3 (fun σ5 =>
        cV C 6 m_weigh [.ref (co C), .int a1, .int a2, .int (-1 : Int32), .int (0 : Int32), .int a5, .int a6, .int (19 : Int32)] σ5 (fun σ7 =>
          cV C 6 m_weigh [.ref (co C), .int (-1 : Int32), .int (0 : Int32), .int a3, .int a4, .int a5, .int a6, .int (21 : Int32)] σ7 (fun σ9 =>
            cV C 4 m_product [.ref (co C), .int (19 : Int32), .int (21 : Int32), .int (25 : Int32)] σ9 (fun σ11 =>
              cI C 0 m_compare [.ref (co C), .int (23 : Int32), .int (25 : Int32)] σ11 (fun r14 σ13 =>
                (¬ (r14 = 0) →
                  Q (0 : Int32) σ13) ∧
                (r14 = 0 →
                  cI C 0 m_compare [.ref (co C), .int (24 : Int32), .int (26 : Int32)] σ13 (fun r16 σ15 =>
                    (¬ (r16 = 0) →
                      Q (0 : Int32) σ15) ∧
                    (r16 = 0 →
                      Q (1 : Int32) σ15))))))))))
theorem t_isPairFree_0 {C : rCx} (hC : cOK C) {Q : Int32 → rS → Prop}   {a1 : Int32} {a2 : Int32} {a3 : Int32} {a4 : Int32} {a5 : Int32} {a6 : Int32} {σ : rS} (F : w_isPairFree_0 C Q  a1 a2 a3 a4 a5 a6 σ) : wG C 7 m_isPairFree 0 [some (.ref (co C)), some (.int a1), some (.int a2), some (.int a3), some (.int a4), some (.int a5), some (.int a6)] [] σ (qI Q) := by
  unfold w_isPairFree_0 at F
  refine s_aln dX13_isPairFree_0 rfl ?_
  refine s_iln dX13_isPairFree_1 rfl ?_
  refine s_iln dX13_isPairFree_2 rfl ?_
  refine s_iln dX13_isPairFree_3 rfl ?_
  refine s_il dX13_isPairFree_4 rfl ?_
  refine s_il dX13_isPairFree_6 rfl ?_
  refine s_il dX13_isPairFree_8 rfl ?_
  refine s_bi dX13_isPairFree_10 kb_19 ?_
  refine k_885 dX13_isPairFree_12 rfl (Nat.le_of_ble_eq_true rfl) (Nat.le_of_ble_eq_true rfl) F (fun σ1 F => ?_)
  refine s_aln dX13_isPairFree_15 rfl ?_
  refine s_ic dX13_isPairFree_16 ki_m1 ?_
  refine s_ic dX13_isPairFree_17 ki_0 ?_
  refine s_ic dX13_isPairFree_18 ki_m1 ?_
  refine s_ic dX13_isPairFree_19 ki_0 ?_
  refine s_il dX13_isPairFree_20 rfl ?_
  refine s_il dX13_isPairFree_22 rfl ?_
  refine s_bi dX13_isPairFree_24 kb_21 ?_
  refine k_885 dX13_isPairFree_26 rfl (Nat.le_of_ble_eq_true rfl) (Nat.le_of_ble_eq_true rfl) F (fun σ3 F => ?_)
  refine s_aln dX13_isPairFree_29 rfl ?_
  refine s_bi dX13_isPairFree_30 kb_19 ?_
  refine s_bi dX13_isPairFree_32 kb_21 ?_
  refine s_bi dX13_isPairFree_34 kb_23 ?_
  refine k_889 dX13_isPairFree_36 rfl (Nat.le_of_ble_eq_true rfl) (Nat.le_of_ble_eq_true rfl) F (fun σ5 F => ?_)
  refine s_aln dX13_isPairFree_39 rfl ?_
  refine s_iln dX13_isPairFree_40 rfl ?_
  refine s_iln dX13_isPairFree_41 rfl ?_
  refine s_ic dX13_isPairFree_42 ki_m1 ?_
  refine s_ic dX13_isPairFree_43 ki_0 ?_
  refine s_il dX13_isPairFree_44 rfl ?_
  refine s_il dX13_isPairFree_46 rfl ?_
  refine s_bi dX13_isPairFree_48 kb_19 ?_
  refine k_885 dX13_isPairFree_50 rfl (Nat.le_of_ble_eq_true rfl) (Nat.le_of_ble_eq_true rfl) F (fun σ7 F => ?_)
  refine s_aln dX13_isPairFree_53 rfl ?_
  refine s_ic dX13_isPairFree_54 ki_m1 ?_
  refine s_ic dX13_isPairFree_55 ki_0 ?_
  refine s_iln dX13_isPairFree_56 rfl ?_
  refine s_il dX13_isPairFree_57 rfl ?_
  refine s_il dX13_isPairFree_59 rfl ?_
  refine s_il dX13_isPairFree_61 rfl ?_
  refine s_bi dX13_isPairFree_63 kb_21 ?_
  refine k_885 dX13_isPairFree_65 rfl (Nat.le_of_ble_eq_true rfl) (Nat.le_of_ble_eq_true rfl) F (fun σ9 F => ?_)
  refine s_aln dX13_isPairFree_68 rfl ?_
  refine s_bi dX13_isPairFree_69 kb_19 ?_
  refine s_bi dX13_isPairFree_71 kb_21 ?_
  refine s_bi dX13_isPairFree_73 kb_25 ?_
  refine k_889 dX13_isPairFree_75 rfl (Nat.le_of_ble_eq_true rfl) (Nat.le_of_ble_eq_true rfl) F (fun σ11 F => ?_)
  refine s_aln dX13_isPairFree_78 rfl ?_
  refine s_bi dX13_isPairFree_79 kb_23 ?_
  refine s_bi dX13_isPairFree_81 kb_25 ?_
  refine k_683 dX13_isPairFree_83 rfl (Nat.le_of_ble_eq_true rfl) (Nat.le_of_ble_eq_true rfl) F (fun r14 σ13 F => ?_)
  refine s_in (t := 104) (r14 = 0) dX13_isPairFree_86 rfl rfl (fun hc => ?_) (fun hc => ?_)
  · replace F := F.1 hc
    refine s_ic dX13_isPairFree_104 ki_0 ?_
    exact s_ri dX13_isPairFree_105 rfl (nb_nar nb_0) F
  · replace F := F.2 hc
    refine s_aln dX13_isPairFree_89 rfl ?_
    refine s_bi dX13_isPairFree_90 kb_24 ?_
    refine s_bi dX13_isPairFree_92 kb_26 ?_
    refine k_683 dX13_isPairFree_94 rfl (Nat.le_of_ble_eq_true rfl) (Nat.le_of_ble_eq_true rfl) F (fun r16 σ15 F => ?_)
    refine s_in (t := 104) (r16 = 0) dX13_isPairFree_97 rfl rfl (fun hc => ?_) (fun hc => ?_)
    · replace F := F.1 hc
      refine s_ic dX13_isPairFree_104 ki_0 ?_
      exact s_ri dX13_isPairFree_105 rfl (nb_nar nb_0) F
    · replace F := F.2 hc
      refine s_ic dX13_isPairFree_100 ki_1 ?_
      refine s_goto (t := 105) dX13_isPairFree_101 rfl ?_
      exact s_ri dX13_isPairFree_105 rfl (nb_nar nb_1) F

theorem m_isPairFree_run {C : rCx} (hC : cOK C) {Q : Int32 → rS → Prop} {a1 : Int32} {a2 : Int32} {a3 : Int32} {a4 : Int32} {a5 : Int32} {a6 : Int32} {σ : rS} (F : w_isPairFree_0 C Q a1 a2 a3 a4 a5 a6 σ) : cI C 7 m_isPairFree [.ref (co C), .int a1, .int a2, .int a3, .int a4, .int a5, .int a6] σ Q := m_I (m_ent _ 0) (t_isPairFree_0 hC F)

