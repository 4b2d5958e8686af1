/-! methods of the reference: minus, times, shiftUp, shiftDown, oneDigit -/
theorem dX13_minus_0 : decode cX13_minus 0 = .ok (.iconst 0, 1) := by decide +kernel
theorem dX13_minus_1 : decode cX13_minus 1 = .ok (.istore_n 3, 1) := by decide +kernel
theorem dX13_minus_2 : decode cX13_minus 2 = .ok (.iconst 0, 1) := by decide +kernel
theorem dX13_minus_3 : decode cX13_minus 3 = .ok (.istore 4, 2) := by decide +kernel
theorem dX13_minus_5 : decode cX13_minus 5 = .ok (.iload 4, 2) := by decide +kernel
theorem dX13_minus_7 : decode cX13_minus 7 = .ok (.aload_n 0, 1) := by decide +kernel
theorem dX13_minus_8 : decode cX13_minus 8 = .ok (.getfield 188, 3) := by decide +kernel
theorem dX13_minus_11 : decode cX13_minus 11 = .ok (.iload_n 1, 1) := by decide +kernel
theorem dX13_minus_12 : decode cX13_minus 12 = .ok (.iaload, 1) := by decide +kernel
theorem dX13_minus_13 : decode cX13_minus 13 = .ok (.if_icmp .ge 85, 3) := by decide +kernel
theorem dX13_minus_16 : decode cX13_minus 16 = .ok (.aload_n 0, 1) := by decide +kernel
theorem dX13_minus_17 : decode cX13_minus 17 = .ok (.getfield 185, 3) := by decide +kernel
theorem dX13_minus_20 : decode cX13_minus 20 = .ok (.ldc_w 676, 3) := by decide +kernel
theorem dX13_minus_23 : decode cX13_minus 23 = .ok (.iload_n 1, 1) := by decide +kernel
theorem dX13_minus_24 : decode cX13_minus 24 = .ok (.imul, 1) := by decide +kernel
theorem dX13_minus_25 : decode cX13_minus 25 = .ok (.iload 4, 2) := by decide +kernel
theorem dX13_minus_27 : decode cX13_minus 27 = .ok (.iadd, 1) := by decide +kernel
theorem dX13_minus_28 : decode cX13_minus 28 = .ok (.iaload, 1) := by decide +kernel
theorem dX13_minus_29 : decode cX13_minus 29 = .ok (.iload 4, 2) := by decide +kernel
theorem dX13_minus_31 : decode cX13_minus 31 = .ok (.aload_n 0, 1) := by decide +kernel
theorem dX13_minus_32 : decode cX13_minus 32 = .ok (.getfield 188, 3) := by decide +kernel
theorem dX13_minus_35 : decode cX13_minus 35 = .ok (.iload_n 2, 1) := by decide +kernel
theorem dX13_minus_36 : decode cX13_minus 36 = .ok (.iaload, 1) := by decide +kernel
theorem dX13_minus_37 : decode cX13_minus 37 = .ok (.if_icmp .ge 19, 3) := by decide +kernel
theorem dX13_minus_40 : decode cX13_minus 40 = .ok (.aload_n 0, 1) := by decide +kernel
theorem dX13_minus_41 : decode cX13_minus 41 = .ok (.getfield 185, 3) := by decide +kernel
theorem dX13_minus_44 : decode cX13_minus 44 = .ok (.ldc_w 676, 3) := by decide +kernel
theorem dX13_minus_47 : decode cX13_minus 47 = .ok (.iload_n 2, 1) := by decide +kernel
theorem dX13_minus_48 : decode cX13_minus 48 = .ok (.imul, 1) := by decide +kernel
theorem dX13_minus_49 : decode cX13_minus 49 = .ok (.iload 4, 2) := by decide +kernel
theorem dX13_minus_51 : decode cX13_minus 51 = .ok (.iadd, 1) := by decide +kernel
theorem dX13_minus_52 : decode cX13_minus 52 = .ok (.iaload, 1) := by decide +kernel
theorem dX13_minus_53 : decode cX13_minus 53 = .ok (.goto 4, 3) := by decide +kernel
theorem dX13_minus_56 : decode cX13_minus 56 = .ok (.iconst 0, 1) := by decide +kernel
theorem dX13_minus_57 : decode cX13_minus 57 = .ok (.isub, 1) := by decide +kernel
theorem dX13_minus_58 : decode cX13_minus 58 = .ok (.iload_n 3, 1) := by decide +kernel
theorem dX13_minus_59 : decode cX13_minus 59 = .ok (.isub, 1) := by decide +kernel
theorem dX13_minus_60 : decode cX13_minus 60 = .ok (.istore 5, 2) := by decide +kernel
theorem dX13_minus_62 : decode cX13_minus 62 = .ok (.iload 5, 2) := by decide +kernel
theorem dX13_minus_64 : decode cX13_minus 64 = .ok (.ifCond .ge 7, 3) := by decide +kernel
theorem dX13_minus_67 : decode cX13_minus 67 = .ok (.iconst 1, 1) := by decide +kernel
theorem dX13_minus_68 : decode cX13_minus 68 = .ok (.goto 4, 3) := by decide +kernel
theorem dX13_minus_71 : decode cX13_minus 71 = .ok (.iconst 0, 1) := by decide +kernel
theorem dX13_minus_72 : decode cX13_minus 72 = .ok (.istore_n 3, 1) := by decide +kernel
theorem dX13_minus_73 : decode cX13_minus 73 = .ok (.aload_n 0, 1) := by decide +kernel
theorem dX13_minus_74 : decode cX13_minus 74 = .ok (.getfield 185, 3) := by decide +kernel
theorem dX13_minus_77 : decode cX13_minus 77 = .ok (.ldc_w 676, 3) := by decide +kernel
theorem dX13_minus_80 : decode cX13_minus 80 = .ok (.iload_n 1, 1) := by decide +kernel
theorem dX13_minus_81 : decode cX13_minus 81 = .ok (.imul, 1) := by decide +kernel
theorem dX13_minus_82 : decode cX13_minus 82 = .ok (.iload 4, 2) := by decide +kernel
theorem dX13_minus_84 : decode cX13_minus 84 = .ok (.iadd, 1) := by decide +kernel
theorem dX13_minus_85 : decode cX13_minus 85 = .ok (.iload 5, 2) := by decide +kernel
theorem dX13_minus_87 : decode cX13_minus 87 = .ok (.ldc_w 679, 3) := by decide +kernel
theorem dX13_minus_90 : decode cX13_minus 90 = .ok (.iand, 1) := by decide +kernel
theorem dX13_minus_91 : decode cX13_minus 91 = .ok (.iastore, 1) := by decide +kernel
theorem dX13_minus_92 : decode cX13_minus 92 = .ok (.iinc 4 1, 3) := by decide +kernel
theorem dX13_minus_95 : decode cX13_minus 95 = .ok (.goto (-90), 3) := by decide +kernel
theorem dX13_minus_98 : decode cX13_minus 98 = .ok (.aload_n 0, 1) := by decide +kernel
theorem dX13_minus_99 : decode cX13_minus 99 = .ok (.iload_n 1, 1) := by decide +kernel
theorem dX13_minus_100 : decode cX13_minus 100 = .ok (.invokevirtual 680, 3) := by decide +kernel
theorem dX13_minus_103 : decode cX13_minus 103 = .ok (.return_, 1) := by decide +kernel
def w_minus_72 (C : rCx) (Q : rS → Prop) (B5 : Int32 → Int32 → Int32 → Int32 → rS → Prop) (a1 : Int32) (a2 : Int32) (a4 : Int32) (a5 : Int32) (s0 : Int32) (σ : rS) : Prop :=
  inb (((40000 : Int32) * a1) + a4) 1200000 ∧
  ∀ σ1, σ1 = riU σ 90 ((((40000 : Int32) * a1) + a4)).toNatClampNeg (a5 &&& (65535 : Int32)) →
  ∀ v4_2 : Int32, v4_2 = a4 + (1 : Int32) →
  B5 a1 a2 s0 v4_2 σ1
theorem t_minus_72 {C : rCx} (hC : cOK C) {Q : rS → Prop} {B5 : Int32 → Int32 → Int32 → Int32 → rS → Prop} (hB5 : ∀ a1' a2' a3' a4' τ, B5 a1' a2' a3' a4' τ → wG C 1 m_minus 5 [some (.ref (co C)), some (.int a1'), some (.int a2'), some (.int a3'), some (.int a4'), none] [] τ (qV Q)) {a1 : Int32} {a2 : Int32} {a4 : Int32} {a5 : Int32} {s0 : Int32} {σ : rS} (F : w_minus_72 C Q B5 a1 a2 a4 a5 s0 σ) : wG C 1 m_minus 72 [some (.ref (co C)), some (.int a1), some (.int a2), none, some (.int a4), some (.int a5)] [.int s0] σ (qV Q) := by
  unfold w_minus_72 at F
  refine s_isn dX13_minus_72 (Nat.le_of_ble_eq_true rfl) rfl ?_
  show wG _ _ _ _ [some (.ref (co C)), some (.int a1), some (.int a2), some (.int s0), some (.int a4), some (.int a5)] _ _ _
  refine s_aln dX13_minus_73 rfl ?_
  refine gf_185 dX13_minus_74 rfl ?_
  refine s_ldcw dX13_minus_77 rfl cn_676 ?_
  refine s_iln dX13_minus_80 rfl ?_
  refine s_imul dX13_minus_81 ?_
  refine s_il dX13_minus_82 rfl ?_
  refine s_iadd dX13_minus_84 ?_
  refine s_il dX13_minus_85 rfl ?_
  refine s_ldcw dX13_minus_87 rfl cn_679 ?_
  refine s_iand dX13_minus_90 ?_
  refine s_astb hC dX13_minus_91 rt_90 F.1 (fun σ1 eσ1 => ?_)
  replace F := F.2 σ1 eσ1
  refine s_incb dX13_minus_92 ki_1 rfl (Nat.le_of_ble_eq_true rfl) (fun v4_2 ev4_2 => ?_)
  replace F := F v4_2 ev4_2
  show wG _ _ _ _ [some (.ref (co C)), some (.int a1), some (.int a2), some (.int s0), some (.int v4_2), some (.int a5)] _ _ _
  refine s_goto (t := 5) dX13_minus_95 rfl ?_
  exact s_k (hB5 _ _ _ _ _ F) ⟨rfl, rfl, rfl, rfl, rfl, trivial⟩

def w_minus_57 (C : rCx) (Q : rS → Prop) (B5 : Int32 → Int32 → Int32 → Int32 → rS → Prop) (a1 : Int32) (a2 : Int32) (a3 : Int32) (a4 : Int32) (s0 : Int32) (s1 : Int32) (σ : rS) : Prop :=
  ∀ v5_1 : Int32, v5_1 = ((s0 - s1) - a3) →
  (0 ≤ v5_1 →
    w_minus_72 C Q B5 a1 a2 a4 v5_1 (0 : Int32) σ) ∧
  (¬ (0 ≤ v5_1) →
    w_minus_72 C Q B5 a1 a2 a4 v5_1 (1 : Int32) σ)
theorem t_minus_57 {C : rCx} (hC : cOK C) {Q : rS → Prop} {B5 : Int32 → Int32 → Int32 → Int32 → rS → Prop} (hB5 : ∀ a1' a2' a3' a4' τ, B5 a1' a2' a3' a4' τ → wG C 1 m_minus 5 [some (.ref (co C)), some (.int a1'), some (.int a2'), some (.int a3'), some (.int a4'), none] [] τ (qV Q)) {a1 : Int32} {a2 : Int32} {a3 : Int32} {a4 : Int32} {s0 : Int32} {s1 : Int32} {σ : rS} (F : w_minus_57 C Q B5 a1 a2 a3 a4 s0 s1 σ) : wG C 1 m_minus 57 [some (.ref (co C)), some (.int a1), some (.int a2), some (.int a3), some (.int a4), none] [.int s1, .int s0] σ (qV Q) := by
  unfold w_minus_57 at F
  refine s_isub dX13_minus_57 ?_
  refine s_iln dX13_minus_58 rfl ?_
  refine s_isub dX13_minus_59 ?_
  refine s_isb dX13_minus_60 (Nat.le_of_ble_eq_true rfl) (fun v5_1 ev5_1 => ?_)
  replace F := F v5_1 ev5_1
  show wG _ _ _ _ [some (.ref (co C)), some (.int a1), some (.int a2), some (.int a3), some (.int a4), some (.int v5_1)] _ _ _
  refine s_il dX13_minus_62 rfl ?_
  refine s_i (t := 71) (0 ≤ v5_1) dX13_minus_64 rfl rfl (fun hc => ?_) (fun hc => ?_)
  · replace F := F.1 hc
    refine s_ic dX13_minus_71 ki_0 ?_
    exact s_k (t_minus_72 hC hB5 F) ⟨rfl, rfl, rfl, rfl, rfl, trivial⟩
  · replace F := F.2 hc
    refine s_ic dX13_minus_67 ki_1 ?_
    refine s_goto (t := 72) dX13_minus_68 rfl ?_
    exact s_k (t_minus_72 hC hB5 F) ⟨rfl, rfl, rfl, rfl, rfl, trivial⟩

def w_minus_5 (C : rCx) (Q : rS → Prop)  (a1 : Int32) (a2 : Int32) (a3 : Int32) (a4 : Int32) (σ : rS) : Prop :=
  ∃ I : Nat → Int32 → Int32 → Int32 → Int32 → rS → Prop, (∃ n, I n a1 a2 a3 a4 σ) ∧ ∀ n a1 a2 a3 a4 σ, I n a1 a2 a3 a4 σ →
    inb a1 30 ∧
    ((σ.2.2.1 91 (a1).toNatClampNeg) ≤ a4 →
      cV C 0 m_trim [.ref (co C), .int a1] σ (fun σ1 =>
        Q σ1)) ∧
    (¬ ((σ.2.2.1 91 (a1).toNatClampNeg) ≤ a4) →
      inb (((40000 : Int32) * a1) + a4) 1200000 ∧
      inb a2 30 ∧
      ((σ.2.2.1 91 (a2).toNatClampNeg) ≤ a4 →
        w_minus_57 C Q (fun a1' a2' a3' a4' τ => ∃ k < n, I k a1' a2' a3' a4' τ) a1 a2 a3 a4 (σ.2.2.1 90 ((((40000 : Int32) * a1) + a4)).toNatClampNeg) (0 : Int32) σ) ∧
      (¬ ((σ.2.2.1 91 (a2).toNatClampNeg) ≤ a4) →
        inb (((40000 : Int32) * a2) + a4) 1200000 ∧
        w_minus_57 C Q (fun a1' a2' a3' a4' τ => ∃ k < n, I k a1' a2' a3' a4' τ) a1 a2 a3 a4 (σ.2.2.1 90 ((((40000 : Int32) * a1) + a4)).toNatClampNeg) (σ.2.2.1 90 ((((40000 : Int32) * a2) + a4)).toNatClampNeg) σ))
theorem t_minus_5 {C : rCx} (hC : cOK C) {Q : rS → Prop}   {a1 : Int32} {a2 : Int32} {a3 : Int32} {a4 : Int32} {σ : rS} (F : w_minus_5 C Q  a1 a2 a3 a4 σ) : wG C 1 m_minus 5 [some (.ref (co C)), some (.int a1), some (.int a2), some (.int a3), some (.int a4), none] [] σ (qV Q) := by
  obtain ⟨I, ⟨n0, hI0⟩, F0⟩ := F
  have key : ∀ n a1 a2 a3 a4 σ, I n a1 a2 a3 a4 σ → wG C 1 m_minus 5 [some (.ref (co C)), some (.int a1), some (.int a2), some (.int a3), some (.int a4), none] [] σ (qV Q) := by
    intro n
    induction n using Nat.strongRecOn with
    | _ n ih =>
      intro a1 a2 a3 a4 σ hI
      have F := F0 n a1 a2 a3 a4 σ hI
      clear hI hI0
      refine s_il dX13_minus_5 rfl ?_
      refine s_aln dX13_minus_7 rfl ?_
      refine gf_188 dX13_minus_8 rfl ?_
      refine s_iln dX13_minus_11 rfl ?_
      refine s_ald hC dX13_minus_12 rt_91 F.1 ?_
      replace F := F.2
      refine s_ii (t := 98) ((σ.2.2.1 91 (a1).toNatClampNeg) ≤ a4) dX13_minus_13 rfl rfl (fun hc => ?_) (fun hc => ?_)
      · replace F := F.1 hc
        refine s_aln dX13_minus_98 rfl ?_
        refine s_iln dX13_minus_99 rfl ?_
        refine k_680 dX13_minus_100 rfl (Nat.le_of_ble_eq_true rfl) (Nat.le_of_ble_eq_true rfl) F (fun σ1 F => ?_)
        exact s_rv dX13_minus_103 rfl F
      · replace F := F.2 hc
        refine s_aln dX13_minus_16 rfl ?_
        refine gf_185 dX13_minus_17 rfl ?_
        refine s_ldcw dX13_minus_20 rfl cn_676 ?_
        refine s_iln dX13_minus_23 rfl ?_
        refine s_imul dX13_minus_24 ?_
        refine s_il dX13_minus_25 rfl ?_
        refine s_iadd dX13_minus_27 ?_
        refine s_ald hC dX13_minus_28 rt_90 F.1 ?_
        replace F := F.2
        refine s_il dX13_minus_29 rfl ?_
        refine s_aln dX13_minus_31 rfl ?_
        refine gf_188 dX13_minus_32 rfl ?_
        refine s_iln dX13_minus_35 rfl ?_
        refine s_ald hC dX13_minus_36 rt_91 F.1 ?_
        replace F := F.2
        refine s_ii (t := 56) ((σ.2.2.1 91 (a2).toNatClampNeg) ≤ a4) dX13_minus_37 rfl rfl (fun hc => ?_) (fun hc => ?_)
        · replace F := F.1 hc
          refine s_ic dX13_minus_56 ki_0 ?_
          exact s_k (t_minus_57 hC (fun a1' a2' a3' a4' τ hb => by obtain ⟨k, hk, hI⟩ := hb; exact ih k hk a1' a2' a3' a4' τ hI) F) ⟨rfl, rfl, rfl, rfl, rfl, trivial⟩
        · replace F := F.2 hc
          refine s_aln dX13_minus_40 rfl ?_
          refine gf_185 dX13_minus_41 rfl ?_
          refine s_ldcw dX13_minus_44 rfl cn_676 ?_
          refine s_iln dX13_minus_47 rfl ?_
          refine s_imul dX13_minus_48 ?_
          refine s_il dX13_minus_49 rfl ?_
          refine s_iadd dX13_minus_51 ?_
          refine s_ald hC dX13_minus_52 rt_90 F.1 ?_
          replace F := F.2
          refine s_goto (t := 57) dX13_minus_53 rfl ?_
          exact s_k (t_minus_57 hC (fun a1' a2' a3' a4' τ hb => by obtain ⟨k, hk, hI⟩ := hb; exact ih k hk a1' a2' a3' a4' τ hI) F) ⟨rfl, rfl, rfl, rfl, rfl, trivial⟩
  exact key n0 a1 a2 a3 a4 σ hI0

def w_minus_0 (C : rCx) (Q : rS → Prop)  (a1 : Int32) (a2 : Int32) (σ : rS) : Prop :=
  w_minus_5 C Q  a1 a2 (0 : Int32) (0 : Int32) σ
theorem t_minus_0 {C : rCx} (hC : cOK C) {Q : rS → Prop}   {a1 : Int32} {a2 : Int32} {σ : rS} (F : w_minus_0 C Q  a1 a2 σ) : wG C 1 m_minus 0 [some (.ref (co C)), some (.int a1), some (.int a2), none, none, none] [] σ (qV Q) := by
  unfold w_minus_0 at F
  refine s_ic dX13_minus_0 ki_0 ?_
  refine s_isn dX13_minus_1 (Nat.le_of_ble_eq_true rfl) rfl ?_
  show wG _ _ _ _ [some (.ref (co C)), some (.int a1), some (.int a2), some (.int (0 : Int32)), none, none] _ _ _
  refine s_ic dX13_minus_2 ki_0 ?_
  refine s_is dX13_minus_3 (Nat.le_of_ble_eq_true rfl) rfl ?_
  show wG _ _ _ _ [some (.ref (co C)), some (.int a1), some (.int a2), some (.int (0 : Int32)), some (.int (0 : Int32)), none] _ _ _
  exact s_k (t_minus_5 hC  F) ⟨rfl, rfl, rfl, rfl, rfl, trivial⟩

theorem m_minus_run {C : rCx} (hC : cOK C) {Q : rS → Prop} {a1 : Int32} {a2 : Int32} {σ : rS} (F : w_minus_0 C Q a1 a2 σ) : cV C 1 m_minus [.ref (co C), .int a1, .int a2] σ Q := m_V (m_ent _ 3) (t_minus_0 hC F)

theorem dX13_times_0 : decode cX13_times 0 = .ok (.aload_n 0, 1) := by decide +kernel
theorem dX13_times_1 : decode cX13_times 1 = .ok (.getfield 188, 3) := by decide +kernel
theorem dX13_times_4 : decode cX13_times 4 = .ok (.iload_n 2, 1) := by decide +kernel
theorem dX13_times_5 : decode cX13_times 5 = .ok (.iaload, 1) := by decide +kernel
theorem dX13_times_6 : decode cX13_times 6 = .ok (.aload_n 0, 1) := by decide +kernel
theorem dX13_times_7 : decode cX13_times 7 = .ok (.getfield 188, 3) := by decide +kernel
theorem dX13_times_10 : decode cX13_times 10 = .ok (.iload_n 3, 1) := by decide +kernel
theorem dX13_times_11 : decode cX13_times 11 = .ok (.iaload, 1) := by decide +kernel
theorem dX13_times_12 : decode cX13_times 12 = .ok (.iadd, 1) := by decide +kernel
theorem dX13_times_13 : decode cX13_times 13 = .ok (.istore 4, 2) := by decide +kernel
theorem dX13_times_15 : decode cX13_times 15 = .ok (.iconst 0, 1) := by decide +kernel
theorem dX13_times_16 : decode cX13_times 16 = .ok (.istore 5, 2) := by decide +kernel
theorem dX13_times_18 : decode cX13_times 18 = .ok (.iload 5, 2) := by decide +kernel
theorem dX13_times_20 : decode cX13_times 20 = .ok (.iload 4, 2) := by decide +kernel
theorem dX13_times_22 : decode cX13_times 22 = .ok (.if_icmp .ge 23, 3) := by decide +kernel
theorem dX13_times_25 : decode cX13_times 25 = .ok (.aload_n 0, 1) := by decide +kernel
theorem dX13_times_26 : decode cX13_times 26 = .ok (.getfield 185, 3) := by decide +kernel
theorem dX13_times_29 : decode cX13_times 29 = .ok (.ldc_w 676, 3) := by decide +kernel
theorem dX13_times_32 : decode cX13_times 32 = .ok (.iload_n 1, 1) := by decide +kernel
theorem dX13_times_33 : decode cX13_times 33 = .ok (.imul, 1) := by decide +kernel
theorem dX13_times_34 : decode cX13_times 34 = .ok (.iload 5, 2) := by decide +kernel
theorem dX13_times_36 : decode cX13_times 36 = .ok (.iadd, 1) := by decide +kernel
theorem dX13_times_37 : decode cX13_times 37 = .ok (.iconst 0, 1) := by decide +kernel
theorem dX13_times_38 : decode cX13_times 38 = .ok (.iastore, 1) := by decide +kernel
theorem dX13_times_39 : decode cX13_times 39 = .ok (.iinc 5 1, 3) := by decide +kernel
theorem dX13_times_42 : decode cX13_times 42 = .ok (.goto (-24), 3) := by decide +kernel
theorem dX13_times_45 : decode cX13_times 45 = .ok (.iconst 0, 1) := by decide +kernel
theorem dX13_times_46 : decode cX13_times 46 = .ok (.istore 5, 2) := by decide +kernel
theorem dX13_times_48 : decode cX13_times 48 = .ok (.iload 5, 2) := by decide +kernel
theorem dX13_times_50 : decode cX13_times 50 = .ok (.aload_n 0, 1) := by decide +kernel
theorem dX13_times_51 : decode cX13_times 51 = .ok (.getfield 188, 3) := by decide +kernel
theorem dX13_times_54 : decode cX13_times 54 = .ok (.iload_n 2, 1) := by decide +kernel
theorem dX13_times_55 : decode cX13_times 55 = .ok (.iaload, 1) := by decide +kernel
theorem dX13_times_56 : decode cX13_times 56 = .ok (.if_icmp .ge 133, 3) := by decide +kernel
theorem dX13_times_59 : decode cX13_times 59 = .ok (.aload_n 0, 1) := by decide +kernel
theorem dX13_times_60 : decode cX13_times 60 = .ok (.getfield 185, 3) := by decide +kernel
theorem dX13_times_63 : decode cX13_times 63 = .ok (.ldc_w 676, 3) := by decide +kernel
theorem dX13_times_66 : decode cX13_times 66 = .ok (.iload_n 2, 1) := by decide +kernel
theorem dX13_times_67 : decode cX13_times 67 = .ok (.imul, 1) := by decide +kernel
theorem dX13_times_68 : decode cX13_times 68 = .ok (.iload 5, 2) := by decide +kernel
theorem dX13_times_70 : decode cX13_times 70 = .ok (.iadd, 1) := by decide +kernel
theorem dX13_times_71 : decode cX13_times 71 = .ok (.iaload, 1) := by decide +kernel
theorem dX13_times_72 : decode cX13_times 72 = .ok (.i2l, 1) := by decide +kernel
theorem dX13_times_73 : decode cX13_times 73 = .ok (.lstore 6, 2) := by decide +kernel
theorem dX13_times_75 : decode cX13_times 75 = .ok (.lconst 0, 1) := by decide +kernel
theorem dX13_times_76 : decode cX13_times 76 = .ok (.lstore 8, 2) := by decide +kernel
theorem dX13_times_78 : decode cX13_times 78 = .ok (.ldc_w 676, 3) := by decide +kernel
theorem dX13_times_81 : decode cX13_times 81 = .ok (.iload_n 1, 1) := by decide +kernel
theorem dX13_times_82 : decode cX13_times 82 = .ok (.imul, 1) := by decide +kernel
theorem dX13_times_83 : decode cX13_times 83 = .ok (.iload 5, 2) := by decide +kernel
theorem dX13_times_85 : decode cX13_times 85 = .ok (.iadd, 1) := by decide +kernel
theorem dX13_times_86 : decode cX13_times 86 = .ok (.istore 10, 2) := by decide +kernel
theorem dX13_times_88 : decode cX13_times 88 = .ok (.iconst 0, 1) := by decide +kernel
theorem dX13_times_89 : decode cX13_times 89 = .ok (.istore 11, 2) := by decide +kernel
theorem dX13_times_91 : decode cX13_times 91 = .ok (.iload 11, 2) := by decide +kernel
theorem dX13_times_93 : decode cX13_times 93 = .ok (.aload_n 0, 1) := by decide +kernel
theorem dX13_times_94 : decode cX13_times 94 = .ok (.getfield 188, 3) := by decide +kernel
theorem dX13_times_97 : decode cX13_times 97 = .ok (.iload_n 3, 1) := by decide +kernel
theorem dX13_times_98 : decode cX13_times 98 = .ok (.iaload, 1) := by decide +kernel
theorem dX13_times_99 : decode cX13_times 99 = .ok (.if_icmp .ge 67, 3) := by decide +kernel
theorem dX13_times_102 : decode cX13_times 102 = .ok (.aload_n 0, 1) := by decide +kernel
theorem dX13_times_103 : decode cX13_times 103 = .ok (.getfield 185, 3) := by decide +kernel
theorem dX13_times_106 : decode cX13_times 106 = .ok (.iload 10, 2) := by decide +kernel
theorem dX13_times_108 : decode cX13_times 108 = .ok (.iload 11, 2) := by decide +kernel
theorem dX13_times_110 : decode cX13_times 110 = .ok (.iadd, 1) := by decide +kernel
theorem dX13_times_111 : decode cX13_times 111 = .ok (.iaload, 1) := by decide +kernel
theorem dX13_times_112 : decode cX13_times 112 = .ok (.i2l, 1) := by decide +kernel
theorem dX13_times_113 : decode cX13_times 113 = .ok (.lload 6, 2) := by decide +kernel
theorem dX13_times_115 : decode cX13_times 115 = .ok (.aload_n 0, 1) := by decide +kernel
theorem dX13_times_116 : decode cX13_times 116 = .ok (.getfield 185, 3) := by decide +kernel
theorem dX13_times_119 : decode cX13_times 119 = .ok (.ldc_w 676, 3) := by decide +kernel
theorem dX13_times_122 : decode cX13_times 122 = .ok (.iload_n 3, 1) := by decide +kernel
theorem dX13_times_123 : decode cX13_times 123 = .ok (.imul, 1) := by decide +kernel
theorem dX13_times_124 : decode cX13_times 124 = .ok (.iload 11, 2) := by decide +kernel
theorem dX13_times_126 : decode cX13_times 126 = .ok (.iadd, 1) := by decide +kernel
theorem dX13_times_127 : decode cX13_times 127 = .ok (.iaload, 1) := by decide +kernel
theorem dX13_times_128 : decode cX13_times 128 = .ok (.i2l, 1) := by decide +kernel
theorem dX13_times_129 : decode cX13_times 129 = .ok (.lmul, 1) := by decide +kernel
theorem dX13_times_130 : decode cX13_times 130 = .ok (.ladd, 1) := by decide +kernel
theorem dX13_times_131 : decode cX13_times 131 = .ok (.lload 8, 2) := by decide +kernel
theorem dX13_times_133 : decode cX13_times 133 = .ok (.ladd, 1) := by decide +kernel
theorem dX13_times_134 : decode cX13_times 134 = .ok (.lstore 12, 2) := by decide +kernel
theorem dX13_times_136 : decode cX13_times 136 = .ok (.aload_n 0, 1) := by decide +kernel
theorem dX13_times_137 : decode cX13_times 137 = .ok (.getfield 185, 3) := by decide +kernel
theorem dX13_times_140 : decode cX13_times 140 = .ok (.iload 10, 2) := by decide +kernel
theorem dX13_times_142 : decode cX13_times 142 = .ok (.iload 11, 2) := by decide +kernel
theorem dX13_times_144 : decode cX13_times 144 = .ok (.iadd, 1) := by decide +kernel
theorem dX13_times_145 : decode cX13_times 145 = .ok (.lload 12, 2) := by decide +kernel
theorem dX13_times_147 : decode cX13_times 147 = .ok (.ldc2_w 677, 3) := by decide +kernel
theorem dX13_times_150 : decode cX13_times 150 = .ok (.land, 1) := by decide +kernel
theorem dX13_times_151 : decode cX13_times 151 = .ok (.l2i, 1) := by decide +kernel
theorem dX13_times_152 : decode cX13_times 152 = .ok (.iastore, 1) := by decide +kernel
theorem dX13_times_153 : decode cX13_times 153 = .ok (.lload 12, 2) := by decide +kernel
theorem dX13_times_155 : decode cX13_times 155 = .ok (.bipush 16, 2) := by decide +kernel
theorem dX13_times_157 : decode cX13_times 157 = .ok (.lushr, 1) := by decide +kernel
theorem dX13_times_158 : decode cX13_times 158 = .ok (.lstore 8, 2) := by decide +kernel
theorem dX13_times_160 : decode cX13_times 160 = .ok (.iinc 11 1, 3) := by decide +kernel
theorem dX13_times_163 : decode cX13_times 163 = .ok (.goto (-72), 3) := by decide +kernel
theorem dX13_times_166 : decode cX13_times 166 = .ok (.aload_n 0, 1) := by decide +kernel
theorem dX13_times_167 : decode cX13_times 167 = .ok (.getfield 185, 3) := by decide +kernel
theorem dX13_times_170 : decode cX13_times 170 = .ok (.iload 10, 2) := by decide +kernel
theorem dX13_times_172 : decode cX13_times 172 = .ok (.aload_n 0, 1) := by decide +kernel
theorem dX13_times_173 : decode cX13_times 173 = .ok (.getfield 188, 3) := by decide +kernel
theorem dX13_times_176 : decode cX13_times 176 = .ok (.iload_n 3, 1) := by decide +kernel
theorem dX13_times_177 : decode cX13_times 177 = .ok (.iaload, 1) := by decide +kernel
theorem dX13_times_178 : decode cX13_times 178 = .ok (.iadd, 1) := by decide +kernel
theorem dX13_times_179 : decode cX13_times 179 = .ok (.lload 8, 2) := by decide +kernel
theorem dX13_times_181 : decode cX13_times 181 = .ok (.l2i, 1) := by decide +kernel
theorem dX13_times_182 : decode cX13_times 182 = .ok (.iastore, 1) := by decide +kernel
theorem dX13_times_183 : decode cX13_times 183 = .ok (.iinc 5 1, 3) := by decide +kernel
theorem dX13_times_186 : decode cX13_times 186 = .ok (.goto (-138), 3) := by decide +kernel
theorem dX13_times_189 : decode cX13_times 189 = .ok (.aload_n 0, 1) := by decide +kernel
theorem dX13_times_190 : decode cX13_times 190 = .ok (.getfield 188, 3) := by decide +kernel
theorem dX13_times_193 : decode cX13_times 193 = .ok (.iload_n 1, 1) := by decide +kernel
theorem dX13_times_194 : decode cX13_times 194 = .ok (.iload 4, 2) := by decide +kernel
theorem dX13_times_196 : decode cX13_times 196 = .ok (.iastore, 1) := by decide +kernel
theorem dX13_times_197 : decode cX13_times 197 = .ok (.aload_n 0, 1) := by decide +kernel
theorem dX13_times_198 : decode cX13_times 198 = .ok (.iload_n 1, 1) := by decide +kernel
theorem dX13_times_199 : decode cX13_times 199 = .ok (.invokevirtual 680, 3) := by decide +kernel
theorem dX13_times_202 : decode cX13_times 202 = .ok (.return_, 1) := by decide +kernel
def w_times_91 (C : rCx) (Q : rS → Prop) (B48 : Int32 → Int32 → Int32 → Int32 → Int32 → rS → Prop) (a1 : Int32) (a2 : Int32) (a3 : Int32) (a4 : Int32) (a5 : Int32) (a6 : Int64) (a8 : Int64) (a10 : Int32) (a11 : Int32) (σ : rS) : Prop :=
  ∃ I : Nat → Int32 → Int32 → Int32 → Int32 → Int32 → Int64 → Int64 → Int32 → Int32 → rS → Prop, (∃ n, I n a1 a2 a3 a4 a5 a6 a8 a10 a11 σ) ∧ ∀ n a1 a2 a3 a4 a5 a6 a8 a10 a11 σ, I n a1 a2 a3 a4 a5 a6 a8 a10 a11 σ →
    inb a3 30 ∧
    ((σ.2.2.1 91 (a3).toNatClampNeg) ≤ a11 →
      inb a3 30 ∧
      inb (a10 + (σ.2.2.1 91 (a3).toNatClampNeg)) 1200000 ∧
      ∀ σ1, σ1 = riU σ 90 ((a10 + (σ.2.2.1 91 (a3).toNatClampNeg))).toNatClampNeg (a8).toInt32 →
      ∀ v5_2 : Int32, v5_2 = a5 + (1 : Int32) →
      B48 a1 a2 a3 a4 v5_2 σ1) ∧
    (¬ ((σ.2.2.1 91 (a3).toNatClampNeg) ≤ a11) →
      inb (a10 + a11) 1200000 ∧
      inb (((40000 : Int32) * a3) + a11) 1200000 ∧
      ∀ v12_3 : Int64, v12_3 = ((((σ.2.2.1 90 ((a10 + a11)).toNatClampNeg)).toInt64 + (a6 * ((σ.2.2.1 90 ((((40000 : Int32) * a3) + a11)).toNatClampNeg)).toInt64)) + a8) →
      inb (a10 + a11) 1200000 ∧
      ∀ σ4, σ4 = riU σ 90 ((a10 + a11)).toNatClampNeg ((v12_3 &&& (65535 : Int64))).toInt32 →
      ∀ v8_5 : Int64, v8_5 = ((v12_3).toUInt64 >>> (((16 : Int32)).toInt64.toUInt64 &&& Int64.toUInt64 63)).toInt64 →
      ∀ v11_6 : Int32, v11_6 = a11 + (1 : Int32) →
      ∃ k < n, I k a1 a2 a3 a4 a5 a6 v8_5 a10 v11_6 σ4)
theorem t_times_91 {C : rCx} (hC : cOK C) {Q : rS → Prop} {B48 : Int32 → Int32 → Int32 → Int32 → Int32 → rS → Prop} (hB48 : ∀ a1' a2' a3' a4' a5' τ, B48 a1' a2' a3' a4' a5' τ → wG C 1 m_times 48 [some (.ref (co C)), some (.int a1'), some (.int a2'), some (.int a3'), some (.int a4'), some (.int a5'), none, none, none, none, none, none, none, none] [] τ (qV Q)) {a1 : Int32} {a2 : Int32} {a3 : Int32} {a4 : Int32} {a5 : Int32} {a6 : Int64} {a8 : Int64} {a10 : Int32} {a11 : Int32} {σ : rS} (F : w_times_91 C Q B48 a1 a2 a3 a4 a5 a6 a8 a10 a11 σ) : wG C 1 m_times 91 [some (.ref (co C)), some (.int a1), some (.int a2), some (.int a3), some (.int a4), some (.int a5), some (.long a6), none, some (.long a8), none, some (.int a10), some (.int a11), none, none] [] σ (qV Q) := by
  obtain ⟨I, ⟨n0, hI0⟩, F0⟩ := F
  have key : ∀ n a1 a2 a3 a4 a5 a6 a8 a10 a11 σ, I n a1 a2 a3 a4 a5 a6 a8 a10 a11 σ → wG C 1 m_times 91 [some (.ref (co C)), some (.int a1), some (.int a2), some (.int a3), some (.int a4), some (.int a5), some (.long a6), none, some (.long a8), none, some (.int a10), some (.int a11), none, none] [] σ (qV Q) := by
    intro n
    induction n using Nat.strongRecOn with
    | _ n ih =>
      intro a1 a2 a3 a4 a5 a6 a8 a10 a11 σ hI
      have F := F0 n a1 a2 a3 a4 a5 a6 a8 a10 a11 σ hI
      clear hI hI0
      refine s_il dX13_times_91 rfl ?_
      refine s_aln dX13_times_93 rfl ?_
      refine gf_188 dX13_times_94 rfl ?_
      refine s_iln dX13_times_97 rfl ?_
      refine s_ald hC dX13_times_98 rt_91 F.1 ?_
      replace F := F.2
      refine s_ii (t := 166) ((σ.2.2.1 91 (a3).toNatClampNeg) ≤ a11) dX13_times_99 rfl rfl (fun hc => ?_) (fun hc => ?_)
      · replace F := F.1 hc
        refine s_aln dX13_times_166 rfl ?_
        refine gf_185 dX13_times_167 rfl ?_
        refine s_il dX13_times_170 rfl ?_
        refine s_aln dX13_times_172 rfl ?_
        refine gf_188 dX13_times_173 rfl ?_
        refine s_iln dX13_times_176 rfl ?_
        refine s_ald hC dX13_times_177 rt_91 F.1 ?_
        replace F := F.2
        refine s_iadd dX13_times_178 ?_
        refine s_ll dX13_times_179 rfl ?_
        refine s_l2i dX13_times_181 ?_
        refine s_astb hC dX13_times_182 rt_90 F.1 (fun σ1 eσ1 => ?_)
        replace F := F.2 σ1 eσ1
        refine s_incb dX13_times_183 ki_1 rfl (Nat.le_of_ble_eq_true rfl) (fun v5_2 ev5_2 => ?_)
        replace F := F v5_2 ev5_2
        show wG _ _ _ _ [some (.ref (co C)), some (.int a1), some (.int a2), some (.int a3), some (.int a4), some (.int v5_2), some (.long a6), none, some (.long a8), none, some (.int a10), some (.int a11), none, none] _ _ _
        refine s_goto (t := 48) dX13_times_186 rfl ?_
        exact s_k (hB48 _ _ _ _ _ _ F) ⟨rfl, rfl, rfl, rfl, rfl, rfl, trivial⟩
      · replace F := F.2 hc
        refine s_aln dX13_times_102 rfl ?_
        refine gf_185 dX13_times_103 rfl ?_
        refine s_il dX13_times_106 rfl ?_
        refine s_il dX13_times_108 rfl ?_
        refine s_iadd dX13_times_110 ?_
        refine s_ald hC dX13_times_111 rt_90 F.1 ?_
        replace F := F.2
        refine s_i2l dX13_times_112 ?_
        refine s_ll dX13_times_113 rfl ?_
        refine s_aln dX13_times_115 rfl ?_
        refine gf_185 dX13_times_116 rfl ?_
        refine s_ldcw dX13_times_119 rfl cn_676 ?_
        refine s_iln dX13_times_122 rfl ?_
        refine s_imul dX13_times_123 ?_
        refine s_il dX13_times_124 rfl ?_
        refine s_iadd dX13_times_126 ?_
        refine s_ald hC dX13_times_127 rt_90 F.1 ?_
        replace F := F.2
        refine s_i2l dX13_times_128 ?_
        refine s_lmul dX13_times_129 ?_
        refine s_ladd dX13_times_130 ?_
        refine s_ll dX13_times_131 rfl ?_
        refine s_ladd dX13_times_133 ?_
        refine s_lsb dX13_times_134 (Nat.le_of_ble_eq_true rfl) (fun v12_3 ev12_3 => ?_)
        replace F := F v12_3 ev12_3
        show wG _ _ _ _ [some (.ref (co C)), some (.int a1), some (.int a2), some (.int a3), some (.int a4), some (.int a5), some (.long a6), none, some (.long a8), none, some (.int a10), some (.int a11), some (.long v12_3), none] _ _ _
        refine s_aln dX13_times_136 rfl ?_
        refine gf_185 dX13_times_137 rfl ?_
        refine s_il dX13_times_140 rfl ?_
        refine s_il dX13_times_142 rfl ?_
        refine s_iadd dX13_times_144 ?_
        refine s_ll dX13_times_145 rfl ?_
        refine s_ldcl dX13_times_147 rfl cl_677 ?_
        refine s_land dX13_times_150 ?_
        refine s_l2i dX13_times_151 ?_
        refine s_astb hC dX13_times_152 rt_90 F.1 (fun σ4 eσ4 => ?_)
        replace F := F.2 σ4 eσ4
        refine s_ll dX13_times_153 rfl ?_
        refine s_bi dX13_times_155 kb_16 ?_
        refine s_lushr dX13_times_157 ?_
        refine s_lsb dX13_times_158 (Nat.le_of_ble_eq_true rfl) (fun v8_5 ev8_5 => ?_)
        replace F := F v8_5 ev8_5
        show wG _ _ _ _ [some (.ref (co C)), some (.int a1), some (.int a2), some (.int a3), some (.int a4), some (.int a5), some (.long a6), none, some (.long v8_5), none, some (.int a10), some (.int a11), some (.long v12_3), none] _ _ _
        refine s_incb dX13_times_160 ki_1 rfl (Nat.le_of_ble_eq_true rfl) (fun v11_6 ev11_6 => ?_)
        replace F := F v11_6 ev11_6
        show wG _ _ _ _ [some (.ref (co C)), some (.int a1), some (.int a2), some (.int a3), some (.int a4), some (.int a5), some (.long a6), none, some (.long v8_5), none, some (.int a10), some (.int v11_6), some (.long v12_3), none] _ _ _
        refine s_goto (t := 91) dX13_times_163 rfl ?_
        obtain ⟨k, hk, hI⟩ := F
        exact s_k (ih k hk _ _ _ _ _ _ _ _ _ _ hI) ⟨rfl, rfl, rfl, rfl, rfl, rfl, rfl, rfl, rfl, rfl, trivial⟩
  exact key n0 a1 a2 a3 a4 a5 a6 a8 a10 a11 σ hI0

def w_times_48 (C : rCx) (Q : rS → Prop)  (a1 : Int32) (a2 : Int32) (a3 : Int32) (a4 : Int32) (a5 : Int32) (σ : rS) : Prop :=
  ∃ I : Nat → Int32 → Int32 → Int32 → Int32 → Int32 → rS → Prop, (∃ n, I n a1 a2 a3 a4 a5 σ) ∧ ∀ n a1 a2 a3 a4 a5 σ, I n a1 a2 a3 a4 a5 σ →
    inb a2 30 ∧
    ((σ.2.2.1 91 (a2).toNatClampNeg) ≤ a5 →
      inb a1 30 ∧
      ∀ σ1, σ1 = riU σ 91 (a1).toNatClampNeg a4 →
      cV C 0 m_trim [.ref (co C), .int a1] σ1 (fun σ2 =>
        Q σ2)) ∧
    (¬ ((σ.2.2.1 91 (a2).toNatClampNeg) ≤ a5) →
      inb (((40000 : Int32) * a2) + a5) 1200000 ∧
      ∀ v6_4 : Int64, v6_4 = ((σ.2.2.1 90 ((((40000 : Int32) * a2) + a5)).toNatClampNeg)).toInt64 →
      ∀ v10_5 : Int32, v10_5 = (((40000 : Int32) * a1) + a5) →
      w_times_91 C Q (fun a1' a2' a3' a4' a5' τ => ∃ k < n, I k a1' a2' a3' a4' a5' τ) a1 a2 a3 a4 a5 v6_4 (0 : Int64) v10_5 (0 : Int32) σ)
theorem t_times_48 {C : rCx} (hC : cOK C) {Q : rS → Prop}   {a1 : Int32} {a2 : Int32} {a3 : Int32} {a4 : Int32} {a5 : Int32} {σ : rS} (F : w_times_48 C Q  a1 a2 a3 a4 a5 σ) : wG C 1 m_times 48 [some (.ref (co C)), some (.int a1), some (.int a2), some (.int a3), some (.int a4), some (.int a5), none, none, none, none, none, none, none, none] [] σ (qV Q) := by
  obtain ⟨I, ⟨n0, hI0⟩, F0⟩ := F
  have key : ∀ n a1 a2 a3 a4 a5 σ, I n a1 a2 a3 a4 a5 σ → wG C 1 m_times 48 [some (.ref (co C)), some (.int a1), some (.int a2), some (.int a3), some (.int a4), some (.int a5), none, none, none, none, none, none, none, none] [] σ (qV Q) := by
    intro n
    induction n using Nat.strongRecOn with
    | _ n ih =>
      intro a1 a2 a3 a4 a5 σ hI
      have F := F0 n a1 a2 a3 a4 a5 σ hI
      clear hI hI0
      refine s_il dX13_times_48 rfl ?_
      refine s_aln dX13_times_50 rfl ?_
      refine gf_188 dX13_times_51 rfl ?_
      refine s_iln dX13_times_54 rfl ?_
      refine s_ald hC dX13_times_55 rt_91 F.1 ?_
      replace F := F.2
      refine s_ii (t := 189) ((σ.2.2.1 91 (a2).toNatClampNeg) ≤ a5) dX13_times_56 rfl rfl (fun hc => ?_) (fun hc => ?_)
      · replace F := F.1 hc
        refine s_aln dX13_times_189 rfl ?_
        refine gf_188 dX13_times_190 rfl ?_
        refine s_iln dX13_times_193 rfl ?_
        refine s_il dX13_times_194 rfl ?_
        refine s_astb hC dX13_times_196 rt_91 F.1 (fun σ1 eσ1 => ?_)
        replace F := F.2 σ1 eσ1
        refine s_aln dX13_times_197 rfl ?_
        refine s_iln dX13_times_198 rfl ?_
        refine k_680 dX13_times_199 rfl (Nat.le_of_ble_eq_true rfl) (Nat.le_of_ble_eq_true rfl) F (fun σ2 F => ?_)
        exact s_rv dX13_times_202 rfl F
      · replace F := F.2 hc
        refine s_aln dX13_times_59 rfl ?_
        refine gf_185 dX13_times_60 rfl ?_
        refine s_ldcw dX13_times_63 rfl cn_676 ?_
        refine s_iln dX13_times_66 rfl ?_
        refine s_imul dX13_times_67 ?_
        refine s_il dX13_times_68 rfl ?_
        refine s_iadd dX13_times_70 ?_
        refine s_ald hC dX13_times_71 rt_90 F.1 ?_
        replace F := F.2
        refine s_i2l dX13_times_72 ?_
        refine s_lsb dX13_times_73 (Nat.le_of_ble_eq_true rfl) (fun v6_4 ev6_4 => ?_)
        replace F := F v6_4 ev6_4
        show wG _ _ _ _ [some (.ref (co C)), some (.int a1), some (.int a2), some (.int a3), some (.int a4), some (.int a5), some (.long v6_4), none, none, none, none, none, none, none] _ _ _
        refine s_lc dX13_times_75 kl_0 ?_
        refine s_ls dX13_times_76 (Nat.le_of_ble_eq_true rfl) rfl ?_
        show wG _ _ _ _ [some (.ref (co C)), some (.int a1), some (.int a2), some (.int a3), some (.int a4), some (.int a5), some (.long v6_4), none, some (.long (0 : Int64)), none, none, none, none, none] _ _ _
        refine s_ldcw dX13_times_78 rfl cn_676 ?_
        refine s_iln dX13_times_81 rfl ?_
        refine s_imul dX13_times_82 ?_
        refine s_il dX13_times_83 rfl ?_
        refine s_iadd dX13_times_85 ?_
        refine s_isb dX13_times_86 (Nat.le_of_ble_eq_true rfl) (fun v10_5 ev10_5 => ?_)
        replace F := F v10_5 ev10_5
        show wG _ _ _ _ [some (.ref (co C)), some (.int a1), some (.int a2), some (.int a3), some (.int a4), some (.int a5), some (.long v6_4), none, some (.long (0 : Int64)), none, some (.int v10_5), none, none, none] _ _ _
        refine s_ic dX13_times_88 ki_0 ?_
        refine s_is dX13_times_89 (Nat.le_of_ble_eq_true rfl) rfl ?_
        show wG _ _ _ _ [some (.ref (co C)), some (.int a1), some (.int a2), some (.int a3), some (.int a4), some (.int a5), some (.long v6_4), none, some (.long (0 : Int64)), none, some (.int v10_5), some (.int (0 : Int32)), none, none] _ _ _
        exact s_k (t_times_91 hC (fun a1' a2' a3' a4' a5' τ hb => by obtain ⟨k, hk, hI⟩ := hb; exact ih k hk a1' a2' a3' a4' a5' τ hI) F) ⟨rfl, rfl, rfl, rfl, rfl, rfl, rfl, rfl, rfl, rfl, trivial⟩
  exact key n0 a1 a2 a3 a4 a5 σ hI0

def w_times_18 (C : rCx) (Q : rS → Prop)  (a1 : Int32) (a2 : Int32) (a3 : Int32) (a4 : Int32) (a5 : Int32) (σ : rS) : Prop :=
  ∃ I : Nat → Int32 → Int32 → Int32 → Int32 → Int32 → rS → Prop, (∃ n, I n a1 a2 a3 a4 a5 σ) ∧ ∀ n a1 a2 a3 a4 a5 σ, I n a1 a2 a3 a4 a5 σ →
    (a4 ≤ a5 →
      w_times_48 C Q  a1 a2 a3 a4 (0 : Int32) σ) ∧
    (¬ (a4 ≤ a5) →
      inb (((40000 : Int32) * a1) + a5) 1200000 ∧
      ∀ σ1, σ1 = riU σ 90 ((((40000 : Int32) * a1) + a5)).toNatClampNeg (0 : Int32) →
      ∀ v5_2 : Int32, v5_2 = a5 + (1 : Int32) →
      ∃ k < n, I k a1 a2 a3 a4 v5_2 σ1)
theorem t_times_18 {C : rCx} (hC : cOK C) {Q : rS → Prop}   {a1 : Int32} {a2 : Int32} {a3 : Int32} {a4 : Int32} {a5 : Int32} {σ : rS} (F : w_times_18 C Q  a1 a2 a3 a4 a5 σ) : wG C 1 m_times 18 [some (.ref (co C)), some (.int a1), some (.int a2), some (.int a3), some (.int a4), some (.int a5), none, none, none, none, none, none, none, none] [] σ (qV Q) := by
  obtain ⟨I, ⟨n0, hI0⟩, F0⟩ := F
  have key : ∀ n a1 a2 a3 a4 a5 σ, I n a1 a2 a3 a4 a5 σ → wG C 1 m_times 18 [some (.ref (co C)), some (.int a1), some (.int a2), some (.int a3), some (.int a4), some (.int a5), none, none, none, none, none, none, none, none] [] σ (qV Q) := by
    intro n
    induction n using Nat.strongRecOn with
    | _ n ih =>
      intro a1 a2 a3 a4 a5 σ hI
      have F := F0 n a1 a2 a3 a4 a5 σ hI
      clear hI hI0
      refine s_il dX13_times_18 rfl ?_
      refine s_il dX13_times_20 rfl ?_
      refine s_ii (t := 45) (a4 ≤ a5) dX13_times_22 rfl rfl (fun hc => ?_) (fun hc => ?_)
      · replace F := F.1 hc
        refine s_ic dX13_times_45 ki_0 ?_
        refine s_is dX13_times_46 (Nat.le_of_ble_eq_true rfl) rfl ?_
        show wG _ _ _ _ [some (.ref (co C)), some (.int a1), some (.int a2), some (.int a3), some (.int a4), some (.int (0 : Int32)), none, none, none, none, none, none, none, none] _ _ _
        exact s_k (t_times_48 hC  F) ⟨rfl, rfl, rfl, rfl, rfl, rfl, trivial⟩
      · replace F := F.2 hc
        refine s_aln dX13_times_25 rfl ?_
        refine gf_185 dX13_times_26 rfl ?_
        refine s_ldcw dX13_times_29 rfl cn_676 ?_
        refine s_iln dX13_times_32 rfl ?_
        refine s_imul dX13_times_33 ?_
        refine s_il dX13_times_34 rfl ?_
        refine s_iadd dX13_times_36 ?_
        refine s_ic dX13_times_37 ki_0 ?_
        refine s_astb hC dX13_times_38 rt_90 F.1 (fun σ1 eσ1 => ?_)
        replace F := F.2 σ1 eσ1
        refine s_incb dX13_times_39 ki_1 rfl (Nat.le_of_ble_eq_true rfl) (fun v5_2 ev5_2 => ?_)
        replace F := F v5_2 ev5_2
        show wG _ _ _ _ [some (.ref (co C)), some (.int a1), some (.int a2), some (.int a3), some (.int a4), some (.int v5_2), none, none, none, none, none, none, none, none] _ _ _
        refine s_goto (t := 18) dX13_times_42 rfl ?_
        obtain ⟨k, hk, hI⟩ := F
        exact s_k (ih k hk _ _ _ _ _ _ hI) ⟨rfl, rfl, rfl, rfl, rfl, rfl, trivial⟩
  exact key n0 a1 a2 a3 a4 a5 σ hI0

def w_times_0 (C : rCx) (Q : rS → Prop)  (a1 : Int32) (a2 : Int32) (a3 : Int32) (σ : rS) : Prop :=
  inb a2 30 ∧
  inb a3 30 ∧
  ∀ v4_1 : Int32, v4_1 = ((σ.2.2.1 91 (a2).toNatClampNeg) + (σ.2.2.1 91 (a3).toNatClampNeg)) →
  w_times_18 C Q  a1 a2 a3 v4_1 (0 : Int32) σ
theorem t_times_0 {C : rCx} (hC : cOK C) {Q : rS → Prop}   {a1 : Int32} {a2 : Int32} {a3 : Int32} {σ : rS} (F : w_times_0 C Q  a1 a2 a3 σ) : wG C 1 m_times 0 [some (.ref (co C)), some (.int a1), some (.int a2), some (.int a3), none, none, none, none, none, none, none, none, none, none] [] σ (qV Q) := by
  unfold w_times_0 at F
  refine s_aln dX13_times_0 rfl ?_
  refine gf_188 dX13_times_1 rfl ?_
  refine s_iln dX13_times_4 rfl ?_
  refine s_ald hC dX13_times_5 rt_91 F.1 ?_
  replace F := F.2
  refine s_aln dX13_times_6 rfl ?_
  refine gf_188 dX13_times_7 rfl ?_
  refine s_iln dX13_times_10 rfl ?_
  refine s_ald hC dX13_times_11 rt_91 F.1 ?_
  replace F := F.2
  refine s_iadd dX13_times_12 ?_
  refine s_isb dX13_times_13 (Nat.le_of_ble_eq_true rfl) (fun v4_1 ev4_1 => ?_)
  replace F := F v4_1 ev4_1
  show wG _ _ _ _ [some (.ref (co C)), some (.int a1), some (.int a2), some (.int a3), some (.int v4_1), none, none, none, none, none, none, none, none, none] _ _ _
  refine s_ic dX13_times_15 ki_0 ?_
  refine s_is dX13_times_16 (Nat.le_of_ble_eq_true rfl) rfl ?_
  show wG _ _ _ _ [some (.ref (co C)), some (.int a1), some (.int a2), some (.int a3), some (.int v4_1), some (.int (0 : Int32)), none, none, none, none, none, none, none, none] _ _ _
  exact s_k (t_times_18 hC  F) ⟨rfl, rfl, rfl, rfl, rfl, rfl, trivial⟩

theorem m_times_run {C : rCx} (hC : cOK C) {Q : rS → Prop} {a1 : Int32} {a2 : Int32} {a3 : Int32} {σ : rS} (F : w_times_0 C Q a1 a2 a3 σ) : cV C 1 m_times [.ref (co C), .int a1, .int a2, .int a3] σ Q := m_V (m_ent _ 10) (t_times_0 hC F)

theorem dX13_shiftUp_0 : decode cX13_shiftUp 0 = .ok (.iconst 0, 1) := by decide +kernel
theorem dX13_shiftUp_1 : decode cX13_shiftUp 1 = .ok (.istore_n 3, 1) := by decide +kernel
theorem dX13_shiftUp_2 : decode cX13_shiftUp 2 = .ok (.iconst 0, 1) := by decide +kernel
theorem dX13_shiftUp_3 : decode cX13_shiftUp 3 = .ok (.istore 4, 2) := by decide +kernel
theorem dX13_shiftUp_5 : decode cX13_shiftUp 5 = .ok (.iload 4, 2) := by decide +kernel
theorem dX13_shiftUp_7 : decode cX13_shiftUp 7 = .ok (.aload_n 0, 1) := by decide +kernel
theorem dX13_shiftUp_8 : decode cX13_shiftUp 8 = .ok (.getfield 188, 3) := by decide +kernel
theorem dX13_shiftUp_11 : decode cX13_shiftUp 11 = .ok (.iload_n 1, 1) := by decide +kernel
theorem dX13_shiftUp_12 : decode cX13_shiftUp 12 = .ok (.iaload, 1) := by decide +kernel
theorem dX13_shiftUp_13 : decode cX13_shiftUp 13 = .ok (.if_icmp .ge 53, 3) := by decide +kernel
theorem dX13_shiftUp_16 : decode cX13_shiftUp 16 = .ok (.aload_n 0, 1) := by decide +kernel
theorem dX13_shiftUp_17 : decode cX13_shiftUp 17 = .ok (.getfield 185, 3) := by decide +kernel
theorem dX13_shiftUp_20 : decode cX13_shiftUp 20 = .ok (.ldc_w 676, 3) := by decide +kernel
theorem dX13_shiftUp_23 : decode cX13_shiftUp 23 = .ok (.iload_n 1, 1) := by decide +kernel
theorem dX13_shiftUp_24 : decode cX13_shiftUp 24 = .ok (.imul, 1) := by decide +kernel
theorem dX13_shiftUp_25 : decode cX13_shiftUp 25 = .ok (.iload 4, 2) := by decide +kernel
theorem dX13_shiftUp_27 : decode cX13_shiftUp 27 = .ok (.iadd, 1) := by decide +kernel
theorem dX13_shiftUp_28 : decode cX13_shiftUp 28 = .ok (.iaload, 1) := by decide +kernel
theorem dX13_shiftUp_29 : decode cX13_shiftUp 29 = .ok (.iload_n 2, 1) := by decide +kernel
theorem dX13_shiftUp_30 : decode cX13_shiftUp 30 = .ok (.ishl, 1) := by decide +kernel
theorem dX13_shiftUp_31 : decode cX13_shiftUp 31 = .ok (.iload_n 3, 1) := by decide +kernel
theorem dX13_shiftUp_32 : decode cX13_shiftUp 32 = .ok (.ior, 1) := by decide +kernel
theorem dX13_shiftUp_33 : decode cX13_shiftUp 33 = .ok (.istore 5, 2) := by decide +kernel
theorem dX13_shiftUp_35 : decode cX13_shiftUp 35 = .ok (.aload_n 0, 1) := by decide +kernel
theorem dX13_shiftUp_36 : decode cX13_shiftUp 36 = .ok (.getfield 185, 3) := by decide +kernel
theorem dX13_shiftUp_39 : decode cX13_shiftUp 39 = .ok (.ldc_w 676, 3) := by decide +kernel
theorem dX13_shiftUp_42 : decode cX13_shiftUp 42 = .ok (.iload_n 1, 1) := by decide +kernel
theorem dX13_shiftUp_43 : decode cX13_shiftUp 43 = .ok (.imul, 1) := by decide +kernel
theorem dX13_shiftUp_44 : decode cX13_shiftUp 44 = .ok (.iload 4, 2) := by decide +kernel
theorem dX13_shiftUp_46 : decode cX13_shiftUp 46 = .ok (.iadd, 1) := by decide +kernel
theorem dX13_shiftUp_47 : decode cX13_shiftUp 47 = .ok (.iload 5, 2) := by decide +kernel
theorem dX13_shiftUp_49 : decode cX13_shiftUp 49 = .ok (.ldc_w 679, 3) := by decide +kernel
theorem dX13_shiftUp_52 : decode cX13_shiftUp 52 = .ok (.iand, 1) := by decide +kernel
theorem dX13_shiftUp_53 : decode cX13_shiftUp 53 = .ok (.iastore, 1) := by decide +kernel
theorem dX13_shiftUp_54 : decode cX13_shiftUp 54 = .ok (.iload 5, 2) := by decide +kernel
theorem dX13_shiftUp_56 : decode cX13_shiftUp 56 = .ok (.bipush 16, 2) := by decide +kernel
theorem dX13_shiftUp_58 : decode cX13_shiftUp 58 = .ok (.iushr, 1) := by decide +kernel
theorem dX13_shiftUp_59 : decode cX13_shiftUp 59 = .ok (.istore_n 3, 1) := by decide +kernel
theorem dX13_shiftUp_60 : decode cX13_shiftUp 60 = .ok (.iinc 4 1, 3) := by decide +kernel
theorem dX13_shiftUp_63 : decode cX13_shiftUp 63 = .ok (.goto (-58), 3) := by decide +kernel
theorem dX13_shiftUp_66 : decode cX13_shiftUp 66 = .ok (.aload_n 0, 1) := by decide +kernel
theorem dX13_shiftUp_67 : decode cX13_shiftUp 67 = .ok (.getfield 185, 3) := by decide +kernel
theorem dX13_shiftUp_70 : decode cX13_shiftUp 70 = .ok (.ldc_w 676, 3) := by decide +kernel
theorem dX13_shiftUp_73 : decode cX13_shiftUp 73 = .ok (.iload_n 1, 1) := by decide +kernel
theorem dX13_shiftUp_74 : decode cX13_shiftUp 74 = .ok (.imul, 1) := by decide +kernel
theorem dX13_shiftUp_75 : decode cX13_shiftUp 75 = .ok (.aload_n 0, 1) := by decide +kernel
theorem dX13_shiftUp_76 : decode cX13_shiftUp 76 = .ok (.getfield 188, 3) := by decide +kernel
theorem dX13_shiftUp_79 : decode cX13_shiftUp 79 = .ok (.iload_n 1, 1) := by decide +kernel
theorem dX13_shiftUp_80 : decode cX13_shiftUp 80 = .ok (.iaload, 1) := by decide +kernel
theorem dX13_shiftUp_81 : decode cX13_shiftUp 81 = .ok (.iadd, 1) := by decide +kernel
theorem dX13_shiftUp_82 : decode cX13_shiftUp 82 = .ok (.iload_n 3, 1) := by decide +kernel
theorem dX13_shiftUp_83 : decode cX13_shiftUp 83 = .ok (.iastore, 1) := by decide +kernel
theorem dX13_shiftUp_84 : decode cX13_shiftUp 84 = .ok (.aload_n 0, 1) := by decide +kernel
theorem dX13_shiftUp_85 : decode cX13_shiftUp 85 = .ok (.getfield 188, 3) := by decide +kernel
theorem dX13_shiftUp_88 : decode cX13_shiftUp 88 = .ok (.iload_n 1, 1) := by decide +kernel
theorem dX13_shiftUp_89 : decode cX13_shiftUp 89 = .ok (.dup2, 1) := by decide +kernel
theorem dX13_shiftUp_90 : decode cX13_shiftUp 90 = .ok (.iaload, 1) := by decide +kernel
theorem dX13_shiftUp_91 : decode cX13_shiftUp 91 = .ok (.iconst 1, 1) := by decide +kernel
theorem dX13_shiftUp_92 : decode cX13_shiftUp 92 = .ok (.iadd, 1) := by decide +kernel
theorem dX13_shiftUp_93 : decode cX13_shiftUp 93 = .ok (.iastore, 1) := by decide +kernel
theorem dX13_shiftUp_94 : decode cX13_shiftUp 94 = .ok (.aload_n 0, 1) := by decide +kernel
theorem dX13_shiftUp_95 : decode cX13_shiftUp 95 = .ok (.iload_n 1, 1) := by decide +kernel
theorem dX13_shiftUp_96 : decode cX13_shiftUp 96 = .ok (.invokevirtual 680, 3) := by decide +kernel
theorem dX13_shiftUp_99 : decode cX13_shiftUp 99 = .ok (.return_, 1) := by decide +kernel
def w_shiftUp_5 (C : rCx) (Q : rS → Prop)  (a1 : Int32) (a2 : Int32) (a3 : Int32) (a4 : Int32) (σ : rS) : Prop :=
  ∃ I : Nat → Int32 → Int32 → Int32 → Int32 → rS → Prop, (∃ n, I n a1 a2 a3 a4 σ) ∧ ∀ n a1 a2 a3 a4 σ, I n a1 a2 a3 a4 σ →
    inb a1 30 ∧
    ((σ.2.2.1 91 (a1).toNatClampNeg) ≤ a4 →
      inb a1 30 ∧
      inb (((40000 : Int32) * a1) + (σ.2.2.1 91 (a1).toNatClampNeg)) 1200000 ∧
      ∀ σ1, σ1 = riU σ 90 ((((40000 : Int32) * a1) + (σ.2.2.1 91 (a1).toNatClampNeg))).toNatClampNeg a3 →
      inb a1 30 ∧
      inb a1 30 ∧
      ∀ σ2, σ2 = riU σ1 91 (a1).toNatClampNeg ((σ1.2.2.1 91 (a1).toNatClampNeg) + (1 : Int32)) →
      cV C 0 m_trim [.ref (co C), .int a1] σ2 (fun σ3 =>
        Q σ3)) ∧
    (¬ ((σ.2.2.1 91 (a1).toNatClampNeg) ≤ a4) →
      inb (((40000 : Int32) * a1) + a4) 1200000 ∧
      ∀ v5_5 : Int32, v5_5 = (((σ.2.2.1 90 ((((40000 : Int32) * a1) + a4)).toNatClampNeg) <<< (a2 &&& 31)) ||| a3) →
      inb (((40000 : Int32) * a1) + a4) 1200000 ∧
      ∀ σ6, σ6 = riU σ 90 ((((40000 : Int32) * a1) + a4)).toNatClampNeg (v5_5 &&& (65535 : Int32)) →
      ∀ v3_7 : Int32, v3_7 = ((v5_5).toUInt32 >>> (((16 : Int32)).toUInt32 &&& Int32.toUInt32 31)).toInt32 →
      ∀ v4_8 : Int32, v4_8 = a4 + (1 : Int32) →
      ∃ k < n, I k a1 a2 v3_7 v4_8 σ6)
theorem t_shiftUp_5 {C : rCx} (hC : cOK C) {Q : rS → Prop}   {a1 : Int32} {a2 : Int32} {a3 : Int32} {a4 : Int32} {σ : rS} (F : w_shiftUp_5 C Q  a1 a2 a3 a4 σ) : wG C 1 m_shiftUp 5 [some (.ref (co C)), some (.int a1), some (.int a2), some (.int a3), some (.int a4), none] [] σ (qV Q) := by
  obtain ⟨I, ⟨n0, hI0⟩, F0⟩ := F
  have key : ∀ n a1 a2 a3 a4 σ, I n a1 a2 a3 a4 σ → wG C 1 m_shiftUp 5 [some (.ref (co C)), some (.int a1), some (.int a2), some (.int a3), some (.int a4), none] [] σ (qV Q) := by
    intro n
    induction n using Nat.strongRecOn with
    | _ n ih =>
      intro a1 a2 a3 a4 σ hI
      have F := F0 n a1 a2 a3 a4 σ hI
      clear hI hI0
      refine s_il dX13_shiftUp_5 rfl ?_
      refine s_aln dX13_shiftUp_7 rfl ?_
      refine gf_188 dX13_shiftUp_8 rfl ?_
      refine s_iln dX13_shiftUp_11 rfl ?_
      refine s_ald hC dX13_shiftUp_12 rt_91 F.1 ?_
      replace F := F.2
      refine s_ii (t := 66) ((σ.2.2.1 91 (a1).toNatClampNeg) ≤ a4) dX13_shiftUp_13 rfl rfl (fun hc => ?_) (fun hc => ?_)
      · replace F := F.1 hc
        refine s_aln dX13_shiftUp_66 rfl ?_
        refine gf_185 dX13_shiftUp_67 rfl ?_
        refine s_ldcw dX13_shiftUp_70 rfl cn_676 ?_
        refine s_iln dX13_shiftUp_73 rfl ?_
        refine s_imul dX13_shiftUp_74 ?_
        refine s_aln dX13_shiftUp_75 rfl ?_
        refine gf_188 dX13_shiftUp_76 rfl ?_
        refine s_iln dX13_shiftUp_79 rfl ?_
        refine s_ald hC dX13_shiftUp_80 rt_91 F.1 ?_
        replace F := F.2
        refine s_iadd dX13_shiftUp_81 ?_
        refine s_iln dX13_shiftUp_82 rfl ?_
        refine s_astb hC dX13_shiftUp_83 rt_90 F.1 (fun σ1 eσ1 => ?_)
        replace F := F.2 σ1 eσ1
        refine s_aln dX13_shiftUp_84 rfl ?_
        refine gf_188 dX13_shiftUp_85 rfl ?_
        refine s_iln dX13_shiftUp_88 rfl ?_
        refine s_dup2 dX13_shiftUp_89 rfl rfl ?_
        refine s_ald hC dX13_shiftUp_90 rt_91 F.1 ?_
        replace F := F.2
        refine s_ic dX13_shiftUp_91 ki_1 ?_
        refine s_iadd dX13_shiftUp_92 ?_
        refine s_astb hC dX13_shiftUp_93 rt_91 F.1 (fun σ2 eσ2 => ?_)
        replace F := F.2 σ2 eσ2
        refine s_aln dX13_shiftUp_94 rfl ?_
        refine s_iln dX13_shiftUp_95 rfl ?_
        refine k_680 dX13_shiftUp_96 rfl (Nat.le_of_ble_eq_true rfl) (Nat.le_of_ble_eq_true rfl) F (fun σ3 F => ?_)
        exact s_rv dX13_shiftUp_99 rfl F
      · replace F := F.2 hc
        refine s_aln dX13_shiftUp_16 rfl ?_
        refine gf_185 dX13_shiftUp_17 rfl ?_
        refine s_ldcw dX13_shiftUp_20 rfl cn_676 ?_
        refine s_iln dX13_shiftUp_23 rfl ?_
        refine s_imul dX13_shiftUp_24 ?_
        refine s_il dX13_shiftUp_25 rfl ?_
        refine s_iadd dX13_shiftUp_27 ?_
        refine s_ald hC dX13_shiftUp_28 rt_90 F.1 ?_
        replace F := F.2
        refine s_iln dX13_shiftUp_29 rfl ?_
        refine s_ishl dX13_shiftUp_30 ?_
        refine s_iln dX13_shiftUp_31 rfl ?_
        refine s_ior dX13_shiftUp_32 ?_
        refine s_isb dX13_shiftUp_33 (Nat.le_of_ble_eq_true rfl) (fun v5_5 ev5_5 => ?_)
        replace F := F v5_5 ev5_5
        show wG _ _ _ _ [some (.ref (co C)), some (.int a1), some (.int a2), some (.int a3), some (.int a4), some (.int v5_5)] _ _ _
        refine s_aln dX13_shiftUp_35 rfl ?_
        refine gf_185 dX13_shiftUp_36 rfl ?_
        refine s_ldcw dX13_shiftUp_39 rfl cn_676 ?_
        refine s_iln dX13_shiftUp_42 rfl ?_
        refine s_imul dX13_shiftUp_43 ?_
        refine s_il dX13_shiftUp_44 rfl ?_
        refine s_iadd dX13_shiftUp_46 ?_
        refine s_il dX13_shiftUp_47 rfl ?_
        refine s_ldcw dX13_shiftUp_49 rfl cn_679 ?_
        refine s_iand dX13_shiftUp_52 ?_
        refine s_astb hC dX13_shiftUp_53 rt_90 F.1 (fun σ6 eσ6 => ?_)
        replace F := F.2 σ6 eσ6
        refine s_il dX13_shiftUp_54 rfl ?_
        refine s_bi dX13_shiftUp_56 kb_16 ?_
        refine s_iushr dX13_shiftUp_58 ?_
        refine s_isnb dX13_shiftUp_59 (Nat.le_of_ble_eq_true rfl) (fun v3_7 ev3_7 => ?_)
        replace F := F v3_7 ev3_7
        show wG _ _ _ _ [some (.ref (co C)), some (.int a1), some (.int a2), some (.int v3_7), some (.int a4), some (.int v5_5)] _ _ _
        refine s_incb dX13_shiftUp_60 ki_1 rfl (Nat.le_of_ble_eq_true rfl) (fun v4_8 ev4_8 => ?_)
        replace F := F v4_8 ev4_8
        show wG _ _ _ _ [some (.ref (co C)), some (.int a1), some (.int a2), some (.int v3_7), some (.int v4_8), some (.int v5_5)] _ _ _
        refine s_goto (t := 5) dX13_shiftUp_63 rfl ?_
        obtain ⟨k, hk, hI⟩ := F
        exact s_k (ih k hk _ _ _ _ _ hI) ⟨rfl, rfl, rfl, rfl, rfl, trivial⟩
  exact key n0 a1 a2 a3 a4 σ hI0

def w_shiftUp_0 (C : rCx) (Q : rS → Prop)  (a1 : Int32) (a2 : Int32) (σ : rS) : Prop :=
  w_shiftUp_5 C Q  a1 a2 (0 : Int32) (0 : Int32) σ
theorem t_shiftUp_0 {C : rCx} (hC : cOK C) {Q : rS → Prop}   {a1 : Int32} {a2 : Int32} {σ : rS} (F : w_shiftUp_0 C Q  a1 a2 σ) : wG C 1 m_shiftUp 0 [some (.ref (co C)), some (.int a1), some (.int a2), none, none, none] [] σ (qV Q) := by
  unfold w_shiftUp_0 at F
  refine s_ic dX13_shiftUp_0 ki_0 ?_
  refine s_isn dX13_shiftUp_1 (Nat.le_of_ble_eq_true rfl) rfl ?_
  show wG _ _ _ _ [some (.ref (co C)), some (.int a1), some (.int a2), some (.int (0 : Int32)), none, none] _ _ _
  refine s_ic dX13_shiftUp_2 ki_0 ?_
  refine s_is dX13_shiftUp_3 (Nat.le_of_ble_eq_true rfl) rfl ?_
  show wG _ _ _ _ [some (.ref (co C)), some (.int a1), some (.int a2), some (.int (0 : Int32)), some (.int (0 : Int32)), none] _ _ _
  exact s_k (t_shiftUp_5 hC  F) ⟨rfl, rfl, rfl, rfl, rfl, trivial⟩

theorem m_shiftUp_run {C : rCx} (hC : cOK C) {Q : rS → Prop} {a1 : Int32} {a2 : Int32} {σ : rS} (F : w_shiftUp_0 C Q a1 a2 σ) : cV C 1 m_shiftUp [.ref (co C), .int a1, .int a2] σ Q := m_V (m_ent _ 3) (t_shiftUp_0 hC F)

theorem dX13_shiftDown_0 : decode cX13_shiftDown 0 = .ok (.iconst 0, 1) := by decide +kernel
theorem dX13_shiftDown_1 : decode cX13_shiftDown 1 = .ok (.istore_n 3, 1) := by decide +kernel
theorem dX13_shiftDown_2 : decode cX13_shiftDown 2 = .ok (.iload_n 3, 1) := by decide +kernel
theorem dX13_shiftDown_3 : decode cX13_shiftDown 3 = .ok (.aload_n 0, 1) := by decide +kernel
theorem dX13_shiftDown_4 : decode cX13_shiftDown 4 = .ok (.getfield 188, 3) := by decide +kernel
theorem dX13_shiftDown_7 : decode cX13_shiftDown 7 = .ok (.iload_n 1, 1) := by decide +kernel
theorem dX13_shiftDown_8 : decode cX13_shiftDown 8 = .ok (.iaload, 1) := by decide +kernel
theorem dX13_shiftDown_9 : decode cX13_shiftDown 9 = .ok (.if_icmp .ge 79, 3) := by decide +kernel
theorem dX13_shiftDown_12 : decode cX13_shiftDown 12 = .ok (.iload_n 3, 1) := by decide +kernel
theorem dX13_shiftDown_13 : decode cX13_shiftDown 13 = .ok (.iconst 1, 1) := by decide +kernel
theorem dX13_shiftDown_14 : decode cX13_shiftDown 14 = .ok (.iadd, 1) := by decide +kernel
theorem dX13_shiftDown_15 : decode cX13_shiftDown 15 = .ok (.aload_n 0, 1) := by decide +kernel
theorem dX13_shiftDown_16 : decode cX13_shiftDown 16 = .ok (.getfield 188, 3) := by decide +kernel
theorem dX13_shiftDown_19 : decode cX13_shiftDown 19 = .ok (.iload_n 1, 1) := by decide +kernel
theorem dX13_shiftDown_20 : decode cX13_shiftDown 20 = .ok (.iaload, 1) := by decide +kernel
theorem dX13_shiftDown_21 : decode cX13_shiftDown 21 = .ok (.if_icmp .ge 20, 3) := by decide +kernel
theorem dX13_shiftDown_24 : decode cX13_shiftDown 24 = .ok (.aload_n 0, 1) := by decide +kernel
theorem dX13_shiftDown_25 : decode cX13_shiftDown 25 = .ok (.getfield 185, 3) := by decide +kernel
theorem dX13_shiftDown_28 : decode cX13_shiftDown 28 = .ok (.ldc_w 676, 3) := by decide +kernel
theorem dX13_shiftDown_31 : decode cX13_shiftDown 31 = .ok (.iload_n 1, 1) := by decide +kernel
theorem dX13_shiftDown_32 : decode cX13_shiftDown 32 = .ok (.imul, 1) := by decide +kernel
theorem dX13_shiftDown_33 : decode cX13_shiftDown 33 = .ok (.iload_n 3, 1) := by decide +kernel
theorem dX13_shiftDown_34 : decode cX13_shiftDown 34 = .ok (.iadd, 1) := by decide +kernel
theorem dX13_shiftDown_35 : decode cX13_shiftDown 35 = .ok (.iconst 1, 1) := by decide +kernel
theorem dX13_shiftDown_36 : decode cX13_shiftDown 36 = .ok (.iadd, 1) := by decide +kernel
theorem dX13_shiftDown_37 : decode cX13_shiftDown 37 = .ok (.iaload, 1) := by decide +kernel
theorem dX13_shiftDown_38 : decode cX13_shiftDown 38 = .ok (.goto 4, 3) := by decide +kernel
theorem dX13_shiftDown_41 : decode cX13_shiftDown 41 = .ok (.iconst 0, 1) := by decide +kernel
theorem dX13_shiftDown_42 : decode cX13_shiftDown 42 = .ok (.istore 4, 2) := by decide +kernel
theorem dX13_shiftDown_44 : decode cX13_shiftDown 44 = .ok (.aload_n 0, 1) := by decide +kernel
theorem dX13_shiftDown_45 : decode cX13_shiftDown 45 = .ok (.getfield 185, 3) := by decide +kernel
theorem dX13_shiftDown_48 : decode cX13_shiftDown 48 = .ok (.ldc_w 676, 3) := by decide +kernel
theorem dX13_shiftDown_51 : decode cX13_shiftDown 51 = .ok (.iload_n 1, 1) := by decide +kernel
theorem dX13_shiftDown_52 : decode cX13_shiftDown 52 = .ok (.imul, 1) := by decide +kernel
theorem dX13_shiftDown_53 : decode cX13_shiftDown 53 = .ok (.iload_n 3, 1) := by decide +kernel
theorem dX13_shiftDown_54 : decode cX13_shiftDown 54 = .ok (.iadd, 1) := by decide +kernel
theorem dX13_shiftDown_55 : decode cX13_shiftDown 55 = .ok (.aload_n 0, 1) := by decide +kernel
theorem dX13_shiftDown_56 : decode cX13_shiftDown 56 = .ok (.getfield 185, 3) := by decide +kernel
theorem dX13_shiftDown_59 : decode cX13_shiftDown 59 = .ok (.ldc_w 676, 3) := by decide +kernel
theorem dX13_shiftDown_62 : decode cX13_shiftDown 62 = .ok (.iload_n 1, 1) := by decide +kernel
theorem dX13_shiftDown_63 : decode cX13_shiftDown 63 = .ok (.imul, 1) := by decide +kernel
theorem dX13_shiftDown_64 : decode cX13_shiftDown 64 = .ok (.iload_n 3, 1) := by decide +kernel
theorem dX13_shiftDown_65 : decode cX13_shiftDown 65 = .ok (.iadd, 1) := by decide +kernel
theorem dX13_shiftDown_66 : decode cX13_shiftDown 66 = .ok (.iaload, 1) := by decide +kernel
theorem dX13_shiftDown_67 : decode cX13_shiftDown 67 = .ok (.iload_n 2, 1) := by decide +kernel
theorem dX13_shiftDown_68 : decode cX13_shiftDown 68 = .ok (.ishr, 1) := by decide +kernel
theorem dX13_shiftDown_69 : decode cX13_shiftDown 69 = .ok (.iload 4, 2) := by decide +kernel
theorem dX13_shiftDown_71 : decode cX13_shiftDown 71 = .ok (.bipush 16, 2) := by decide +kernel
theorem dX13_shiftDown_73 : decode cX13_shiftDown 73 = .ok (.iload_n 2, 1) := by decide +kernel
theorem dX13_shiftDown_74 : decode cX13_shiftDown 74 = .ok (.isub, 1) := by decide +kernel
theorem dX13_shiftDown_75 : decode cX13_shiftDown 75 = .ok (.ishl, 1) := by decide +kernel
theorem dX13_shiftDown_76 : decode cX13_shiftDown 76 = .ok (.ior, 1) := by decide +kernel
theorem dX13_shiftDown_77 : decode cX13_shiftDown 77 = .ok (.ldc_w 679, 3) := by decide +kernel
theorem dX13_shiftDown_80 : decode cX13_shiftDown 80 = .ok (.iand, 1) := by decide +kernel
theorem dX13_shiftDown_81 : decode cX13_shiftDown 81 = .ok (.iastore, 1) := by decide +kernel
theorem dX13_shiftDown_82 : decode cX13_shiftDown 82 = .ok (.iinc 3 1, 3) := by decide +kernel
theorem dX13_shiftDown_85 : decode cX13_shiftDown 85 = .ok (.goto (-83), 3) := by decide +kernel
theorem dX13_shiftDown_88 : decode cX13_shiftDown 88 = .ok (.aload_n 0, 1) := by decide +kernel
theorem dX13_shiftDown_89 : decode cX13_shiftDown 89 = .ok (.iload_n 1, 1) := by decide +kernel
theorem dX13_shiftDown_90 : decode cX13_shiftDown 90 = .ok (.invokevirtual 680, 3) := by decide +kernel
theorem dX13_shiftDown_93 : decode cX13_shiftDown 93 = .ok (.return_, 1) := by decide +kernel
def w_shiftDown_42 (C : rCx) (Q : rS → Prop) (B2 : Int32 → Int32 → Int32 → rS → Prop) (a1 : Int32) (a2 : Int32) (a3 : Int32) (s0 : Int32) (σ : rS) : Prop :=
  inb (((40000 : Int32) * a1) + a3) 1200000 ∧
  inb (((40000 : Int32) * a1) + a3) 1200000 ∧
  ∀ σ1, σ1 = riU σ 90 ((((40000 : Int32) * a1) + a3)).toNatClampNeg ((((σ.2.2.1 90 ((((40000 : Int32) * a1) + a3)).toNatClampNeg) >>> (a2 &&& 31)) ||| (s0 <<< (((16 : Int32) - a2) &&& 31))) &&& (65535 : Int32)) →
  ∀ v3_2 : Int32, v3_2 = a3 + (1 : Int32) →
  B2 a1 a2 v3_2 σ1
theorem t_shiftDown_42 {C : rCx} (hC : cOK C) {Q : rS → Prop} {B2 : Int32 → Int32 → Int32 → rS → Prop} (hB2 : ∀ a1' a2' a3' τ, B2 a1' a2' a3' τ → wG C 1 m_shiftDown 2 [some (.ref (co C)), some (.int a1'), some (.int a2'), some (.int a3'), none] [] τ (qV Q)) {a1 : Int32} {a2 : Int32} {a3 : Int32} {s0 : Int32} {σ : rS} (F : w_shiftDown_42 C Q B2 a1 a2 a3 s0 σ) : wG C 1 m_shiftDown 42 [some (.ref (co C)), some (.int a1), some (.int a2), some (.int a3), none] [.int s0] σ (qV Q) := by
  unfold w_shiftDown_42 at F
  refine s_is dX13_shiftDown_42 (Nat.le_of_ble_eq_true rfl) rfl ?_
  show wG _ _ _ _ [some (.ref (co C)), some (.int a1), some (.int a2), some (.int a3), some (.int s0)] _ _ _
  refine s_aln dX13_shiftDown_44 rfl ?_
  refine gf_185 dX13_shiftDown_45 rfl ?_
  refine s_ldcw dX13_shiftDown_48 rfl cn_676 ?_
  refine s_iln dX13_shiftDown_51 rfl ?_
  refine s_imul dX13_shiftDown_52 ?_
  refine s_iln dX13_shiftDown_53 rfl ?_
  refine s_iadd dX13_shiftDown_54 ?_
  refine s_aln dX13_shiftDown_55 rfl ?_
  refine gf_185 dX13_shiftDown_56 rfl ?_
  refine s_ldcw dX13_shiftDown_59 rfl cn_676 ?_
  refine s_iln dX13_shiftDown_62 rfl ?_
  refine s_imul dX13_shiftDown_63 ?_
  refine s_iln dX13_shiftDown_64 rfl ?_
  refine s_iadd dX13_shiftDown_65 ?_
  refine s_ald hC dX13_shiftDown_66 rt_90 F.1 ?_
  replace F := F.2
  refine s_iln dX13_shiftDown_67 rfl ?_
  refine s_ishr dX13_shiftDown_68 ?_
  refine s_il dX13_shiftDown_69 rfl ?_
  refine s_bi dX13_shiftDown_71 kb_16 ?_
  refine s_iln dX13_shiftDown_73 rfl ?_
  refine s_isub dX13_shiftDown_74 ?_
  refine s_ishl dX13_shiftDown_75 ?_
  refine s_ior dX13_shiftDown_76 ?_
  refine s_ldcw dX13_shiftDown_77 rfl cn_679 ?_
  refine s_iand dX13_shiftDown_80 ?_
  refine s_astb hC dX13_shiftDown_81 rt_90 F.1 (fun σ1 eσ1 => ?_)
  replace F := F.2 σ1 eσ1
  refine s_incb dX13_shiftDown_82 ki_1 rfl (Nat.le_of_ble_eq_true rfl) (fun v3_2 ev3_2 => ?_)
  replace F := F v3_2 ev3_2
  show wG _ _ _ _ [some (.ref (co C)), some (.int a1), some (.int a2), some (.int v3_2), some (.int s0)] _ _ _
  refine s_goto (t := 2) dX13_shiftDown_85 rfl ?_
  exact s_k (hB2 _ _ _ _ F) ⟨rfl, rfl, rfl, rfl, trivial⟩

def w_shiftDown_2 (C : rCx) (Q : rS → Prop)  (a1 : Int32) (a2 : Int32) (a3 : Int32) (σ : rS) : Prop :=
  ∃ I : Nat → Int32 → Int32 → Int32 → rS → Prop, (∃ n, I n a1 a2 a3 σ) ∧ ∀ n a1 a2 a3 σ, I n a1 a2 a3 σ →
    inb a1 30 ∧
    ((σ.2.2.1 91 (a1).toNatClampNeg) ≤ a3 →
      cV C 0 m_trim [.ref (co C), .int a1] σ (fun σ1 =>
        Q σ1)) ∧
    (¬ ((σ.2.2.1 91 (a1).toNatClampNeg) ≤ a3) →
      inb a1 30 ∧
      ((σ.2.2.1 91 (a1).toNatClampNeg) ≤ (a3 + (1 : Int32)) →
        w_shiftDown_42 C Q (fun a1' a2' a3' τ => ∃ k < n, I k a1' a2' a3' τ) a1 a2 a3 (0 : Int32) σ) ∧
      (¬ ((σ.2.2.1 91 (a1).toNatClampNeg) ≤ (a3 + (1 : Int32))) →
        inb ((((40000 : Int32) * a1) + a3) + (1 : Int32)) 1200000 ∧
        w_shiftDown_42 C Q (fun a1' a2' a3' τ => ∃ k < n, I k a1' a2' a3' τ) a1 a2 a3 (σ.2.2.1 90 (((((40000 : Int32) * a1) + a3) + (1 : Int32))).toNatClampNeg) σ))
theorem t_shiftDown_2 {C : rCx} (hC : cOK C) {Q : rS → Prop}   {a1 : Int32} {a2 : Int32} {a3 : Int32} {σ : rS} (F : w_shiftDown_2 C Q  a1 a2 a3 σ) : wG C 1 m_shiftDown 2 [some (.ref (co C)), some (.int a1), some (.int a2), some (.int a3), none] [] σ (qV Q) := by
  obtain ⟨I, ⟨n0, hI0⟩, F0⟩ := F
  have key : ∀ n a1 a2 a3 σ, I n a1 a2 a3 σ → wG C 1 m_shiftDown 2 [some (.ref (co C)), some (.int a1), some (.int a2), some (.int a3), none] [] σ (qV Q) := by
    intro n
    induction n using Nat.strongRecOn with
    | _ n ih =>
      intro a1 a2 a3 σ hI
      have F := F0 n a1 a2 a3 σ hI
      clear hI hI0
      refine s_iln dX13_shiftDown_2 rfl ?_
      refine s_aln dX13_shiftDown_3 rfl ?_
      refine gf_188 dX13_shiftDown_4 rfl ?_
      refine s_iln dX13_shiftDown_7 rfl ?_
      refine s_ald hC dX13_shiftDown_8 rt_91 F.1 ?_
      replace F := F.2
      refine s_ii (t := 88) ((σ.2.2.1 91 (a1).toNatClampNeg) ≤ a3) dX13_shiftDown_9 rfl rfl (fun hc => ?_) (fun hc => ?_)
      · replace F := F.1 hc
        refine s_aln dX13_shiftDown_88 rfl ?_
        refine s_iln dX13_shiftDown_89 rfl ?_
        refine k_680 dX13_shiftDown_90 rfl (Nat.le_of_ble_eq_true rfl) (Nat.le_of_ble_eq_true rfl) F (fun σ1 F => ?_)
        exact s_rv dX13_shiftDown_93 rfl F
      · replace F := F.2 hc
        refine s_iln dX13_shiftDown_12 rfl ?_
        refine s_ic dX13_shiftDown_13 ki_1 ?_
        refine s_iadd dX13_shiftDown_14 ?_
        refine s_aln dX13_shiftDown_15 rfl ?_
        refine gf_188 dX13_shiftDown_16 rfl ?_
        refine s_iln dX13_shiftDown_19 rfl ?_
        refine s_ald hC dX13_shiftDown_20 rt_91 F.1 ?_
        replace F := F.2
        refine s_ii (t := 41) ((σ.2.2.1 91 (a1).toNatClampNeg) ≤ (a3 + (1 : Int32))) dX13_shiftDown_21 rfl rfl (fun hc => ?_) (fun hc => ?_)
        · replace F := F.1 hc
          refine s_ic dX13_shiftDown_41 ki_0 ?_
          exact s_k (t_shiftDown_42 hC (fun a1' a2' a3' τ hb => by obtain ⟨k, hk, hI⟩ := hb; exact ih k hk a1' a2' a3' τ hI) F) ⟨rfl, rfl, rfl, rfl, trivial⟩
        · replace F := F.2 hc
          refine s_aln dX13_shiftDown_24 rfl ?_
          refine gf_185 dX13_shiftDown_25 rfl ?_
          refine s_ldcw dX13_shiftDown_28 rfl cn_676 ?_
          refine s_iln dX13_shiftDown_31 rfl ?_
          refine s_imul dX13_shiftDown_32 ?_
          refine s_iln dX13_shiftDown_33 rfl ?_
          refine s_iadd dX13_shiftDown_34 ?_
          refine s_ic dX13_shiftDown_35 ki_1 ?_
          refine s_iadd dX13_shiftDown_36 ?_
          refine s_ald hC dX13_shiftDown_37 rt_90 F.1 ?_
          replace F := F.2
          refine s_goto (t := 42) dX13_shiftDown_38 rfl ?_
          exact s_k (t_shiftDown_42 hC (fun a1' a2' a3' τ hb => by obtain ⟨k, hk, hI⟩ := hb; exact ih k hk a1' a2' a3' τ hI) F) ⟨rfl, rfl, rfl, rfl, trivial⟩
  exact key n0 a1 a2 a3 σ hI0

def w_shiftDown_0 (C : rCx) (Q : rS → Prop)  (a1 : Int32) (a2 : Int32) (σ : rS) : Prop :=
  w_shiftDown_2 C Q  a1 a2 (0 : Int32) σ
theorem t_shiftDown_0 {C : rCx} (hC : cOK C) {Q : rS → Prop}   {a1 : Int32} {a2 : Int32} {σ : rS} (F : w_shiftDown_0 C Q  a1 a2 σ) : wG C 1 m_shiftDown 0 [some (.ref (co C)), some (.int a1), some (.int a2), none, none] [] σ (qV Q) := by
  unfold w_shiftDown_0 at F
  refine s_ic dX13_shiftDown_0 ki_0 ?_
  refine s_isn dX13_shiftDown_1 (Nat.le_of_ble_eq_true rfl) rfl ?_
  show wG _ _ _ _ [some (.ref (co C)), some (.int a1), some (.int a2), some (.int (0 : Int32)), none] _ _ _
  exact s_k (t_shiftDown_2 hC  F) ⟨rfl, rfl, rfl, rfl, trivial⟩

theorem m_shiftDown_run {C : rCx} (hC : cOK C) {Q : rS → Prop} {a1 : Int32} {a2 : Int32} {σ : rS} (F : w_shiftDown_0 C Q a1 a2 σ) : cV C 1 m_shiftDown [.ref (co C), .int a1, .int a2] σ Q := m_V (m_ent _ 2) (t_shiftDown_0 hC F)

theorem dX13_oneDigit_0 : decode cX13_oneDigit 0 = .ok (.aload_n 0, 1) := by decide +kernel
theorem dX13_oneDigit_1 : decode cX13_oneDigit 1 = .ok (.getfield 188, 3) := by decide +kernel
theorem dX13_oneDigit_4 : decode cX13_oneDigit 4 = .ok (.iload_n 3, 1) := by decide +kernel
theorem dX13_oneDigit_5 : decode cX13_oneDigit 5 = .ok (.iaload, 1) := by decide +kernel
theorem dX13_oneDigit_6 : decode cX13_oneDigit 6 = .ok (.istore 4, 2) := by decide +kernel
theorem dX13_oneDigit_8 : decode cX13_oneDigit 8 = .ok (.ldc_w 676, 3) := by decide +kernel
theorem dX13_oneDigit_11 : decode cX13_oneDigit 11 = .ok (.iload_n 1, 1) := by decide +kernel
theorem dX13_oneDigit_12 : decode cX13_oneDigit 12 = .ok (.imul, 1) := by decide +kernel
theorem dX13_oneDigit_13 : decode cX13_oneDigit 13 = .ok (.iload_n 2, 1) := by decide +kernel
theorem dX13_oneDigit_14 : decode cX13_oneDigit 14 = .ok (.iadd, 1) := by decide +kernel
theorem dX13_oneDigit_15 : decode cX13_oneDigit 15 = .ok (.istore 5, 2) := by decide +kernel
theorem dX13_oneDigit_17 : decode cX13_oneDigit 17 = .ok (.aload_n 0, 1) := by decide +kernel
theorem dX13_oneDigit_18 : decode cX13_oneDigit 18 = .ok (.getfield 185, 3) := by decide +kernel
theorem dX13_oneDigit_21 : decode cX13_oneDigit 21 = .ok (.iload 5, 2) := by decide +kernel
theorem dX13_oneDigit_23 : decode cX13_oneDigit 23 = .ok (.iload 4, 2) := by decide +kernel
theorem dX13_oneDigit_25 : decode cX13_oneDigit 25 = .ok (.iadd, 1) := by decide +kernel
theorem dX13_oneDigit_26 : decode cX13_oneDigit 26 = .ok (.iaload, 1) := by decide +kernel
theorem dX13_oneDigit_27 : decode cX13_oneDigit 27 = .ok (.i2l, 1) := by decide +kernel
theorem dX13_oneDigit_28 : decode cX13_oneDigit 28 = .ok (.bipush 16, 2) := by decide +kernel
theorem dX13_oneDigit_30 : decode cX13_oneDigit 30 = .ok (.lshl, 1) := by decide +kernel
theorem dX13_oneDigit_31 : decode cX13_oneDigit 31 = .ok (.aload_n 0, 1) := by decide +kernel
theorem dX13_oneDigit_32 : decode cX13_oneDigit 32 = .ok (.getfield 185, 3) := by decide +kernel
theorem dX13_oneDigit_35 : decode cX13_oneDigit 35 = .ok (.iload 5, 2) := by decide +kernel
theorem dX13_oneDigit_37 : decode cX13_oneDigit 37 = .ok (.iload 4, 2) := by decide +kernel
theorem dX13_oneDigit_39 : decode cX13_oneDigit 39 = .ok (.iadd, 1) := by decide +kernel
theorem dX13_oneDigit_40 : decode cX13_oneDigit 40 = .ok (.iconst 1, 1) := by decide +kernel
theorem dX13_oneDigit_41 : decode cX13_oneDigit 41 = .ok (.isub, 1) := by decide +kernel
theorem dX13_oneDigit_42 : decode cX13_oneDigit 42 = .ok (.iaload, 1) := by decide +kernel
theorem dX13_oneDigit_43 : decode cX13_oneDigit 43 = .ok (.i2l, 1) := by decide +kernel
theorem dX13_oneDigit_44 : decode cX13_oneDigit 44 = .ok (.lor, 1) := by decide +kernel
theorem dX13_oneDigit_45 : decode cX13_oneDigit 45 = .ok (.lstore 6, 2) := by decide +kernel
theorem dX13_oneDigit_47 : decode cX13_oneDigit 47 = .ok (.aload_n 0, 1) := by decide +kernel
theorem dX13_oneDigit_48 : decode cX13_oneDigit 48 = .ok (.getfield 185, 3) := by decide +kernel
theorem dX13_oneDigit_51 : decode cX13_oneDigit 51 = .ok (.ldc_w 676, 3) := by decide +kernel
theorem dX13_oneDigit_54 : decode cX13_oneDigit 54 = .ok (.iload_n 3, 1) := by decide +kernel
theorem dX13_oneDigit_55 : decode cX13_oneDigit 55 = .ok (.imul, 1) := by decide +kernel
theorem dX13_oneDigit_56 : decode cX13_oneDigit 56 = .ok (.iload 4, 2) := by decide +kernel
theorem dX13_oneDigit_58 : decode cX13_oneDigit 58 = .ok (.iadd, 1) := by decide +kernel
theorem dX13_oneDigit_59 : decode cX13_oneDigit 59 = .ok (.iconst 1, 1) := by decide +kernel
theorem dX13_oneDigit_60 : decode cX13_oneDigit 60 = .ok (.isub, 1) := by decide +kernel
theorem dX13_oneDigit_61 : decode cX13_oneDigit 61 = .ok (.iaload, 1) := by decide +kernel
theorem dX13_oneDigit_62 : decode cX13_oneDigit 62 = .ok (.i2l, 1) := by decide +kernel
theorem dX13_oneDigit_63 : decode cX13_oneDigit 63 = .ok (.lstore 8, 2) := by decide +kernel
theorem dX13_oneDigit_65 : decode cX13_oneDigit 65 = .ok (.lload 6, 2) := by decide +kernel
theorem dX13_oneDigit_67 : decode cX13_oneDigit 67 = .ok (.lload 8, 2) := by decide +kernel
theorem dX13_oneDigit_69 : decode cX13_oneDigit 69 = .ok (.ldiv, 1) := by decide +kernel
theorem dX13_oneDigit_70 : decode cX13_oneDigit 70 = .ok (.lstore 10, 2) := by decide +kernel
theorem dX13_oneDigit_72 : decode cX13_oneDigit 72 = .ok (.lload 10, 2) := by decide +kernel
theorem dX13_oneDigit_74 : decode cX13_oneDigit 74 = .ok (.ldc2_w 677, 3) := by decide +kernel
theorem dX13_oneDigit_77 : decode cX13_oneDigit 77 = .ok (.lcmp, 1) := by decide +kernel
theorem dX13_oneDigit_78 : decode cX13_oneDigit 78 = .ok (.ifCond .le 9, 3) := by decide +kernel
theorem dX13_oneDigit_81 : decode cX13_oneDigit 81 = .ok (.ldc2_w 677, 3) := by decide +kernel
theorem dX13_oneDigit_84 : decode cX13_oneDigit 84 = .ok (.goto 5, 3) := by decide +kernel
theorem dX13_oneDigit_87 : decode cX13_oneDigit 87 = .ok (.lload 10, 2) := by decide +kernel
theorem dX13_oneDigit_89 : decode cX13_oneDigit 89 = .ok (.lstore 10, 2) := by decide +kernel
theorem dX13_oneDigit_91 : decode cX13_oneDigit 91 = .ok (.lconst 0, 1) := by decide +kernel
theorem dX13_oneDigit_92 : decode cX13_oneDigit 92 = .ok (.lstore 12, 2) := by decide +kernel
theorem dX13_oneDigit_94 : decode cX13_oneDigit 94 = .ok (.lconst 0, 1) := by decide +kernel
theorem dX13_oneDigit_95 : decode cX13_oneDigit 95 = .ok (.lstore 14, 2) := by decide +kernel
theorem dX13_oneDigit_97 : decode cX13_oneDigit 97 = .ok (.iconst 0, 1) := by decide +kernel
theorem dX13_oneDigit_98 : decode cX13_oneDigit 98 = .ok (.istore 16, 2) := by decide +kernel
theorem dX13_oneDigit_100 : decode cX13_oneDigit 100 = .ok (.iload 16, 2) := by decide +kernel
theorem dX13_oneDigit_102 : decode cX13_oneDigit 102 = .ok (.iload 4, 2) := by decide +kernel
theorem dX13_oneDigit_104 : decode cX13_oneDigit 104 = .ok (.if_icmp .ge 92, 3) := by decide +kernel
theorem dX13_oneDigit_107 : decode cX13_oneDigit 107 = .ok (.lload 12, 2) := by decide +kernel
theorem dX13_oneDigit_109 : decode cX13_oneDigit 109 = .ok (.lload 10, 2) := by decide +kernel
theorem dX13_oneDigit_111 : decode cX13_oneDigit 111 = .ok (.aload_n 0, 1) := by decide +kernel
theorem dX13_oneDigit_112 : decode cX13_oneDigit 112 = .ok (.getfield 185, 3) := by decide +kernel
theorem dX13_oneDigit_115 : decode cX13_oneDigit 115 = .ok (.ldc_w 676, 3) := by decide +kernel
theorem dX13_oneDigit_118 : decode cX13_oneDigit 118 = .ok (.iload_n 3, 1) := by decide +kernel
theorem dX13_oneDigit_119 : decode cX13_oneDigit 119 = .ok (.imul, 1) := by decide +kernel
theorem dX13_oneDigit_120 : decode cX13_oneDigit 120 = .ok (.iload 16, 2) := by decide +kernel
theorem dX13_oneDigit_122 : decode cX13_oneDigit 122 = .ok (.iadd, 1) := by decide +kernel
theorem dX13_oneDigit_123 : decode cX13_oneDigit 123 = .ok (.iaload, 1) := by decide +kernel
theorem dX13_oneDigit_124 : decode cX13_oneDigit 124 = .ok (.i2l, 1) := by decide +kernel
theorem dX13_oneDigit_125 : decode cX13_oneDigit 125 = .ok (.lmul, 1) := by decide +kernel
theorem dX13_oneDigit_126 : decode cX13_oneDigit 126 = .ok (.ladd, 1) := by decide +kernel
theorem dX13_oneDigit_127 : decode cX13_oneDigit 127 = .ok (.lstore 12, 2) := by decide +kernel
theorem dX13_oneDigit_129 : decode cX13_oneDigit 129 = .ok (.aload_n 0, 1) := by decide +kernel
theorem dX13_oneDigit_130 : decode cX13_oneDigit 130 = .ok (.getfield 185, 3) := by decide +kernel
theorem dX13_oneDigit_133 : decode cX13_oneDigit 133 = .ok (.iload 5, 2) := by decide +kernel
theorem dX13_oneDigit_135 : decode cX13_oneDigit 135 = .ok (.iload 16, 2) := by decide +kernel
theorem dX13_oneDigit_137 : decode cX13_oneDigit 137 = .ok (.iadd, 1) := by decide +kernel
theorem dX13_oneDigit_138 : decode cX13_oneDigit 138 = .ok (.iaload, 1) := by decide +kernel
theorem dX13_oneDigit_139 : decode cX13_oneDigit 139 = .ok (.i2l, 1) := by decide +kernel
theorem dX13_oneDigit_140 : decode cX13_oneDigit 140 = .ok (.lload 12, 2) := by decide +kernel
theorem dX13_oneDigit_142 : decode cX13_oneDigit 142 = .ok (.ldc2_w 677, 3) := by decide +kernel
theorem dX13_oneDigit_145 : decode cX13_oneDigit 145 = .ok (.land, 1) := by decide +kernel
theorem dX13_oneDigit_146 : decode cX13_oneDigit 146 = .ok (.lsub, 1) := by decide +kernel
theorem dX13_oneDigit_147 : decode cX13_oneDigit 147 = .ok (.lload 14, 2) := by decide +kernel
theorem dX13_oneDigit_149 : decode cX13_oneDigit 149 = .ok (.lsub, 1) := by decide +kernel
theorem dX13_oneDigit_150 : decode cX13_oneDigit 150 = .ok (.lstore 17, 2) := by decide +kernel
theorem dX13_oneDigit_152 : decode cX13_oneDigit 152 = .ok (.lload 17, 2) := by decide +kernel
theorem dX13_oneDigit_154 : decode cX13_oneDigit 154 = .ok (.lconst 0, 1) := by decide +kernel
theorem dX13_oneDigit_155 : decode cX13_oneDigit 155 = .ok (.lcmp, 1) := by decide +kernel
theorem dX13_oneDigit_156 : decode cX13_oneDigit 156 = .ok (.ifCond .ge 7, 3) := by decide +kernel
theorem dX13_oneDigit_159 : decode cX13_oneDigit 159 = .ok (.lconst 1, 1) := by decide +kernel
theorem dX13_oneDigit_160 : decode cX13_oneDigit 160 = .ok (.goto 4, 3) := by decide +kernel
theorem dX13_oneDigit_163 : decode cX13_oneDigit 163 = .ok (.lconst 0, 1) := by decide +kernel
theorem dX13_oneDigit_164 : decode cX13_oneDigit 164 = .ok (.lstore 14, 2) := by decide +kernel
theorem dX13_oneDigit_166 : decode cX13_oneDigit 166 = .ok (.aload_n 0, 1) := by decide +kernel
theorem dX13_oneDigit_167 : decode cX13_oneDigit 167 = .ok (.getfield 185, 3) := by decide +kernel
theorem dX13_oneDigit_170 : decode cX13_oneDigit 170 = .ok (.iload 5, 2) := by decide +kernel
theorem dX13_oneDigit_172 : decode cX13_oneDigit 172 = .ok (.iload 16, 2) := by decide +kernel
theorem dX13_oneDigit_174 : decode cX13_oneDigit 174 = .ok (.iadd, 1) := by decide +kernel
theorem dX13_oneDigit_175 : decode cX13_oneDigit 175 = .ok (.lload 17, 2) := by decide +kernel
theorem dX13_oneDigit_177 : decode cX13_oneDigit 177 = .ok (.ldc2_w 677, 3) := by decide +kernel
theorem dX13_oneDigit_180 : decode cX13_oneDigit 180 = .ok (.land, 1) := by decide +kernel
theorem dX13_oneDigit_181 : decode cX13_oneDigit 181 = .ok (.l2i, 1) := by decide +kernel
theorem dX13_oneDigit_182 : decode cX13_oneDigit 182 = .ok (.iastore, 1) := by decide +kernel
theorem dX13_oneDigit_183 : decode cX13_oneDigit 183 = .ok (.lload 12, 2) := by decide +kernel
theorem dX13_oneDigit_185 : decode cX13_oneDigit 185 = .ok (.bipush 16, 2) := by decide +kernel
theorem dX13_oneDigit_187 : decode cX13_oneDigit 187 = .ok (.lushr, 1) := by decide +kernel
theorem dX13_oneDigit_188 : decode cX13_oneDigit 188 = .ok (.lstore 12, 2) := by decide +kernel
theorem dX13_oneDigit_190 : decode cX13_oneDigit 190 = .ok (.iinc 16 1, 3) := by decide +kernel
theorem dX13_oneDigit_193 : decode cX13_oneDigit 193 = .ok (.goto (-93), 3) := by decide +kernel
theorem dX13_oneDigit_196 : decode cX13_oneDigit 196 = .ok (.aload_n 0, 1) := by decide +kernel
theorem dX13_oneDigit_197 : decode cX13_oneDigit 197 = .ok (.getfield 185, 3) := by decide +kernel
theorem dX13_oneDigit_200 : decode cX13_oneDigit 200 = .ok (.iload 5, 2) := by decide +kernel
theorem dX13_oneDigit_202 : decode cX13_oneDigit 202 = .ok (.iload 4, 2) := by decide +kernel
theorem dX13_oneDigit_204 : decode cX13_oneDigit 204 = .ok (.iadd, 1) := by decide +kernel
theorem dX13_oneDigit_205 : decode cX13_oneDigit 205 = .ok (.iaload, 1) := by decide +kernel
theorem dX13_oneDigit_206 : decode cX13_oneDigit 206 = .ok (.i2l, 1) := by decide +kernel
theorem dX13_oneDigit_207 : decode cX13_oneDigit 207 = .ok (.lload 12, 2) := by decide +kernel
theorem dX13_oneDigit_209 : decode cX13_oneDigit 209 = .ok (.lsub, 1) := by decide +kernel
theorem dX13_oneDigit_210 : decode cX13_oneDigit 210 = .ok (.lload 14, 2) := by decide +kernel
theorem dX13_oneDigit_212 : decode cX13_oneDigit 212 = .ok (.lsub, 1) := by decide +kernel
theorem dX13_oneDigit_213 : decode cX13_oneDigit 213 = .ok (.lstore 16, 2) := by decide +kernel
theorem dX13_oneDigit_215 : decode cX13_oneDigit 215 = .ok (.aload_n 0, 1) := by decide +kernel
theorem dX13_oneDigit_216 : decode cX13_oneDigit 216 = .ok (.getfield 185, 3) := by decide +kernel
theorem dX13_oneDigit_219 : decode cX13_oneDigit 219 = .ok (.iload 5, 2) := by decide +kernel
theorem dX13_oneDigit_221 : decode cX13_oneDigit 221 = .ok (.iload 4, 2) := by decide +kernel
theorem dX13_oneDigit_223 : decode cX13_oneDigit 223 = .ok (.iadd, 1) := by decide +kernel
theorem dX13_oneDigit_224 : decode cX13_oneDigit 224 = .ok (.lload 16, 2) := by decide +kernel
theorem dX13_oneDigit_226 : decode cX13_oneDigit 226 = .ok (.ldc2_w 677, 3) := by decide +kernel
theorem dX13_oneDigit_229 : decode cX13_oneDigit 229 = .ok (.land, 1) := by decide +kernel
theorem dX13_oneDigit_230 : decode cX13_oneDigit 230 = .ok (.l2i, 1) := by decide +kernel
theorem dX13_oneDigit_231 : decode cX13_oneDigit 231 = .ok (.iastore, 1) := by decide +kernel
theorem dX13_oneDigit_232 : decode cX13_oneDigit 232 = .ok (.lload 16, 2) := by decide +kernel
theorem dX13_oneDigit_234 : decode cX13_oneDigit 234 = .ok (.lconst 0, 1) := by decide +kernel
theorem dX13_oneDigit_235 : decode cX13_oneDigit 235 = .ok (.lcmp, 1) := by decide +kernel
theorem dX13_oneDigit_236 : decode cX13_oneDigit 236 = .ok (.ifCond .ge 108, 3) := by decide +kernel
theorem dX13_oneDigit_239 : decode cX13_oneDigit 239 = .ok (.lload 10, 2) := by decide +kernel
theorem dX13_oneDigit_241 : decode cX13_oneDigit 241 = .ok (.lconst 1, 1) := by decide +kernel
theorem dX13_oneDigit_242 : decode cX13_oneDigit 242 = .ok (.lsub, 1) := by decide +kernel
theorem dX13_oneDigit_243 : decode cX13_oneDigit 243 = .ok (.lstore 10, 2) := by decide +kernel
theorem dX13_oneDigit_245 : decode cX13_oneDigit 245 = .ok (.iconst 0, 1) := by decide +kernel
theorem dX13_oneDigit_246 : decode cX13_oneDigit 246 = .ok (.istore 18, 2) := by decide +kernel
theorem dX13_oneDigit_248 : decode cX13_oneDigit 248 = .ok (.iconst 0, 1) := by decide +kernel
theorem dX13_oneDigit_249 : decode cX13_oneDigit 249 = .ok (.istore 19, 2) := by decide +kernel
theorem dX13_oneDigit_251 : decode cX13_oneDigit 251 = .ok (.iload 19, 2) := by decide +kernel
theorem dX13_oneDigit_253 : decode cX13_oneDigit 253 = .ok (.iload 4, 2) := by decide +kernel
theorem dX13_oneDigit_255 : decode cX13_oneDigit 255 = .ok (.if_icmp .ge 61, 3) := by decide +kernel
theorem dX13_oneDigit_258 : decode cX13_oneDigit 258 = .ok (.aload_n 0, 1) := by decide +kernel
theorem dX13_oneDigit_259 : decode cX13_oneDigit 259 = .ok (.getfield 185, 3) := by decide +kernel
theorem dX13_oneDigit_262 : decode cX13_oneDigit 262 = .ok (.iload 5, 2) := by decide +kernel
theorem dX13_oneDigit_264 : decode cX13_oneDigit 264 = .ok (.iload 19, 2) := by decide +kernel
theorem dX13_oneDigit_266 : decode cX13_oneDigit 266 = .ok (.iadd, 1) := by decide +kernel
theorem dX13_oneDigit_267 : decode cX13_oneDigit 267 = .ok (.iaload, 1) := by decide +kernel
theorem dX13_oneDigit_268 : decode cX13_oneDigit 268 = .ok (.aload_n 0, 1) := by decide +kernel
theorem dX13_oneDigit_269 : decode cX13_oneDigit 269 = .ok (.getfield 185, 3) := by decide +kernel
theorem dX13_oneDigit_272 : decode cX13_oneDigit 272 = .ok (.ldc_w 676, 3) := by decide +kernel
theorem dX13_oneDigit_275 : decode cX13_oneDigit 275 = .ok (.iload_n 3, 1) := by decide +kernel
theorem dX13_oneDigit_276 : decode cX13_oneDigit 276 = .ok (.imul, 1) := by decide +kernel
theorem dX13_oneDigit_277 : decode cX13_oneDigit 277 = .ok (.iload 19, 2) := by decide +kernel
theorem dX13_oneDigit_279 : decode cX13_oneDigit 279 = .ok (.iadd, 1) := by decide +kernel
theorem dX13_oneDigit_280 : decode cX13_oneDigit 280 = .ok (.iaload, 1) := by decide +kernel
theorem dX13_oneDigit_281 : decode cX13_oneDigit 281 = .ok (.iadd, 1) := by decide +kernel
theorem dX13_oneDigit_282 : decode cX13_oneDigit 282 = .ok (.iload 18, 2) := by decide +kernel
theorem dX13_oneDigit_284 : decode cX13_oneDigit 284 = .ok (.iadd, 1) := by decide +kernel
theorem dX13_oneDigit_285 : decode cX13_oneDigit 285 = .ok (.istore 20, 2) := by decide +kernel
theorem dX13_oneDigit_287 : decode cX13_oneDigit 287 = .ok (.aload_n 0, 1) := by decide +kernel
theorem dX13_oneDigit_288 : decode cX13_oneDigit 288 = .ok (.getfield 185, 3) := by decide +kernel
theorem dX13_oneDigit_291 : decode cX13_oneDigit 291 = .ok (.iload 5, 2) := by decide +kernel
theorem dX13_oneDigit_293 : decode cX13_oneDigit 293 = .ok (.iload 19, 2) := by decide +kernel
theorem dX13_oneDigit_295 : decode cX13_oneDigit 295 = .ok (.iadd, 1) := by decide +kernel
theorem dX13_oneDigit_296 : decode cX13_oneDigit 296 = .ok (.iload 20, 2) := by decide +kernel
theorem dX13_oneDigit_298 : decode cX13_oneDigit 298 = .ok (.ldc_w 679, 3) := by decide +kernel
theorem dX13_oneDigit_301 : decode cX13_oneDigit 301 = .ok (.iand, 1) := by decide +kernel
theorem dX13_oneDigit_302 : decode cX13_oneDigit 302 = .ok (.iastore, 1) := by decide +kernel
theorem dX13_oneDigit_303 : decode cX13_oneDigit 303 = .ok (.iload 20, 2) := by decide +kernel
theorem dX13_oneDigit_305 : decode cX13_oneDigit 305 = .ok (.bipush 16, 2) := by decide +kernel
theorem dX13_oneDigit_307 : decode cX13_oneDigit 307 = .ok (.ishr, 1) := by decide +kernel
theorem dX13_oneDigit_308 : decode cX13_oneDigit 308 = .ok (.istore 18, 2) := by decide +kernel
theorem dX13_oneDigit_310 : decode cX13_oneDigit 310 = .ok (.iinc 19 1, 3) := by decide +kernel
theorem dX13_oneDigit_313 : decode cX13_oneDigit 313 = .ok (.goto (-62), 3) := by decide +kernel
theorem dX13_oneDigit_316 : decode cX13_oneDigit 316 = .ok (.lload 16, 2) := by decide +kernel
theorem dX13_oneDigit_318 : decode cX13_oneDigit 318 = .ok (.iload 18, 2) := by decide +kernel
theorem dX13_oneDigit_320 : decode cX13_oneDigit 320 = .ok (.i2l, 1) := by decide +kernel
theorem dX13_oneDigit_321 : decode cX13_oneDigit 321 = .ok (.ladd, 1) := by decide +kernel
theorem dX13_oneDigit_322 : decode cX13_oneDigit 322 = .ok (.lstore 16, 2) := by decide +kernel
theorem dX13_oneDigit_324 : decode cX13_oneDigit 324 = .ok (.aload_n 0, 1) := by decide +kernel
theorem dX13_oneDigit_325 : decode cX13_oneDigit 325 = .ok (.getfield 185, 3) := by decide +kernel
theorem dX13_oneDigit_328 : decode cX13_oneDigit 328 = .ok (.iload 5, 2) := by decide +kernel
theorem dX13_oneDigit_330 : decode cX13_oneDigit 330 = .ok (.iload 4, 2) := by decide +kernel
theorem dX13_oneDigit_332 : decode cX13_oneDigit 332 = .ok (.iadd, 1) := by decide +kernel
theorem dX13_oneDigit_333 : decode cX13_oneDigit 333 = .ok (.lload 16, 2) := by decide +kernel
theorem dX13_oneDigit_335 : decode cX13_oneDigit 335 = .ok (.ldc2_w 677, 3) := by decide +kernel
theorem dX13_oneDigit_338 : decode cX13_oneDigit 338 = .ok (.land, 1) := by decide +kernel
theorem dX13_oneDigit_339 : decode cX13_oneDigit 339 = .ok (.l2i, 1) := by decide +kernel
theorem dX13_oneDigit_340 : decode cX13_oneDigit 340 = .ok (.iastore, 1) := by decide +kernel
theorem dX13_oneDigit_341 : decode cX13_oneDigit 341 = .ok (.goto (-109), 3) := by decide +kernel
theorem dX13_oneDigit_344 : decode cX13_oneDigit 344 = .ok (.lload 10, 2) := by decide +kernel
theorem dX13_oneDigit_346 : decode cX13_oneDigit 346 = .ok (.l2i, 1) := by decide +kernel
theorem dX13_oneDigit_347 : decode cX13_oneDigit 347 = .ok (.ireturn, 1) := by decide +kernel
def w_oneDigit_164 (C : rCx) (Q : Int32 → rS → Prop) (B100 : Int32 → Int32 → Int32 → Int64 → Int64 → Int64 → Int32 → rS → Prop) (a3 : Int32) (a4 : Int32) (a5 : Int32) (a10 : Int64) (a12 : Int64) (a16 : Int32) (a17 : Int64) (s0 : Int64) (σ : rS) : Prop :=
  inb (a5 + a16) 1200000 ∧
  ∀ σ1, σ1 = riU σ 90 ((a5 + a16)).toNatClampNeg ((a17 &&& (65535 : Int64))).toInt32 →
  ∀ v12_2 : Int64, v12_2 = ((a12).toUInt64 >>> (((16 : Int32)).toInt64.toUInt64 &&& Int64.toUInt64 63)).toInt64 →
  ∀ v16_3 : Int32, v16_3 = a16 + (1 : Int32) →
  B100 a3 a4 a5 a10 v12_2 s0 v16_3 σ1
theorem t_oneDigit_164 {C : rCx} (hC : cOK C) {Q : Int32 → rS → Prop} {B100 : Int32 → Int32 → Int32 → Int64 → Int64 → Int64 → Int32 → rS → Prop} (hB100 : ∀ a3' a4' a5' a10' a12' a14' a16' τ, B100 a3' a4' a5' a10' a12' a14' a16' τ → wG C 0 m_oneDigit 100 [some (.ref (co C)), none, none, some (.int a3'), some (.int a4'), some (.int a5'), none, none, none, none, some (.long a10'), none, some (.long a12'), none, some (.long a14'), none, some (.int a16'), none, none, none, none] [] τ (qI Q)) {a3 : Int32} {a4 : Int32} {a5 : Int32} {a10 : Int64} {a12 : Int64} {a16 : Int32} {a17 : Int64} {s0 : Int64} {σ : rS} (F : w_oneDigit_164 C Q B100 a3 a4 a5 a10 a12 a16 a17 s0 σ) : wG C 0 m_oneDigit 164 [some (.ref (co C)), none, none, some (.int a3), some (.int a4), some (.int a5), none, none, none, none, some (.long a10), none, some (.long a12), none, none, none, some (.int a16), some (.long a17), none, none, none] [.long s0] σ (qI Q) := by
  unfold w_oneDigit_164 at F
  refine s_ls dX13_oneDigit_164 (Nat.le_of_ble_eq_true rfl) rfl ?_
  show wG _ _ _ _ [some (.ref (co C)), none, none, some (.int a3), some (.int a4), some (.int a5), none, none, none, none, some (.long a10), none, some (.long a12), none, some (.long s0), none, some (.int a16), some (.long a17), none, none, none] _ _ _
  refine s_aln dX13_oneDigit_166 rfl ?_
  refine gf_185 dX13_oneDigit_167 rfl ?_
  refine s_il dX13_oneDigit_170 rfl ?_
  refine s_il dX13_oneDigit_172 rfl ?_
  refine s_iadd dX13_oneDigit_174 ?_
  refine s_ll dX13_oneDigit_175 rfl ?_
  refine s_ldcl dX13_oneDigit_177 rfl cl_677 ?_
  refine s_land dX13_oneDigit_180 ?_
  refine s_l2i dX13_oneDigit_181 ?_
  refine s_astb hC dX13_oneDigit_182 rt_90 F.1 (fun σ1 eσ1 => ?_)
  replace F := F.2 σ1 eσ1
  refine s_ll dX13_oneDigit_183 rfl ?_
  refine s_bi dX13_oneDigit_185 kb_16 ?_
  refine s_lushr dX13_oneDigit_187 ?_
  refine s_lsb dX13_oneDigit_188 (Nat.le_of_ble_eq_true rfl) (fun v12_2 ev12_2 => ?_)
  replace F := F v12_2 ev12_2
  show wG _ _ _ _ [some (.ref (co C)), none, none, some (.int a3), some (.int a4), some (.int a5), none, none, none, none, some (.long a10), none, some (.long v12_2), none, some (.long s0), none, some (.int a16), some (.long a17), none, none, none] _ _ _
  refine s_incb dX13_oneDigit_190 ki_1 rfl (Nat.le_of_ble_eq_true rfl) (fun v16_3 ev16_3 => ?_)
  replace F := F v16_3 ev16_3
  show wG _ _ _ _ [some (.ref (co C)), none, none, some (.int a3), some (.int a4), some (.int a5), none, none, none, none, some (.long a10), none, some (.long v12_2), none, some (.long s0), none, some (.int v16_3), some (.long a17), none, none, none] _ _ _
  refine s_goto (t := 100) dX13_oneDigit_193 rfl ?_
  exact s_k (hB100 _ _ _ _ _ _ _ _ F) ⟨rfl, rfl, rfl, rfl, rfl, rfl, rfl, rfl, trivial⟩

def w_oneDigit_251 (C : rCx) (Q : Int32 → rS → Prop) (B232 : Int32 → Int32 → Int32 → Int64 → Int64 → rS → Prop) (a3 : Int32) (a4 : Int32) (a5 : Int32) (a10 : Int64) (a16 : Int64) (a18 : Int32) (a19 : Int32) (σ : rS) : Prop :=
  ∃ I : Nat → Int32 → Int32 → Int32 → Int64 → Int64 → Int32 → Int32 → rS → Prop, (∃ n, I n a3 a4 a5 a10 a16 a18 a19 σ) ∧ ∀ n a3 a4 a5 a10 a16 a18 a19 σ, I n a3 a4 a5 a10 a16 a18 a19 σ →
    (a4 ≤ a19 →
      ∀ v16_1 : Int64, v16_1 = (a16 + (a18).toInt64) →
      inb (a5 + a4) 1200000 ∧
      ∀ σ2, σ2 = riU σ 90 ((a5 + a4)).toNatClampNeg ((v16_1 &&& (65535 : Int64))).toInt32 →
      B232 a3 a4 a5 a10 v16_1 σ2) ∧
    (¬ (a4 ≤ a19) →
      inb (a5 + a19) 1200000 ∧
      inb (((40000 : Int32) * a3) + a19) 1200000 ∧
      ∀ v20_3 : Int32, v20_3 = (((σ.2.2.1 90 ((a5 + a19)).toNatClampNeg) + (σ.2.2.1 90 ((((40000 : Int32) * a3) + a19)).toNatClampNeg)) + a18) →
      inb (a5 + a19) 1200000 ∧
      ∀ σ4, σ4 = riU σ 90 ((a5 + a19)).toNatClampNeg (v20_3 &&& (65535 : Int32)) →
      ∀ v18_5 : Int32, v18_5 = (v20_3 >>> ((16 : Int32) &&& 31)) →
      ∀ v19_6 : Int32, v19_6 = a19 + (1 : Int32) →
      ∃ k < n, I k a3 a4 a5 a10 a16 v18_5 v19_6 σ4)
theorem t_oneDigit_251 {C : rCx} (hC : cOK C) {Q : Int32 → rS → Prop} {B232 : Int32 → Int32 → Int32 → Int64 → Int64 → rS → Prop} (hB232 : ∀ a3' a4' a5' a10' a16' τ, B232 a3' a4' a5' a10' a16' τ → wG C 0 m_oneDigit 232 [some (.ref (co C)), none, none, some (.int a3'), some (.int a4'), some (.int a5'), none, none, none, none, some (.long a10'), none, none, none, none, none, some (.long a16'), none, none, none, none] [] τ (qI Q)) {a3 : Int32} {a4 : Int32} {a5 : Int32} {a10 : Int64} {a16 : Int64} {a18 : Int32} {a19 : Int32} {σ : rS} (F : w_oneDigit_251 C Q B232 a3 a4 a5 a10 a16 a18 a19 σ) : wG C 0 m_oneDigit 251 [some (.ref (co C)), none, none, some (.int a3), some (.int a4), some (.int a5), none, none, none, none, some (.long a10), none, none, none, none, none, some (.long a16), none, some (.int a18), some (.int a19), none] [] σ (qI Q) := by
  obtain ⟨I, ⟨n0, hI0⟩, F0⟩ := F
  have key : ∀ n a3 a4 a5 a10 a16 a18 a19 σ, I n a3 a4 a5 a10 a16 a18 a19 σ → wG C 0 m_oneDigit 251 [some (.ref (co C)), none, none, some (.int a3), some (.int a4), some (.int a5), none, none, none, none, some (.long a10), none, none, none, none, none, some (.long a16), none, some (.int a18), some (.int a19), none] [] σ (qI Q) := by
    intro n
    induction n using Nat.strongRecOn with
    | _ n ih =>
      intro a3 a4 a5 a10 a16 a18 a19 σ hI
      have F := F0 n a3 a4 a5 a10 a16 a18 a19 σ hI
      clear hI hI0
      refine s_il dX13_oneDigit_251 rfl ?_
      refine s_il dX13_oneDigit_253 rfl ?_
      refine s_ii (t := 316) (a4 ≤ a19) dX13_oneDigit_255 rfl rfl (fun hc => ?_) (fun hc => ?_)
      · replace F := F.1 hc
        refine s_ll dX13_oneDigit_316 rfl ?_
        refine s_il dX13_oneDigit_318 rfl ?_
        refine s_i2l dX13_oneDigit_320 ?_
        refine s_ladd dX13_oneDigit_321 ?_
        refine s_lsb dX13_oneDigit_322 (Nat.le_of_ble_eq_true rfl) (fun v16_1 ev16_1 => ?_)
        replace F := F v16_1 ev16_1
        show wG _ _ _ _ [some (.ref (co C)), none, none, some (.int a3), some (.int a4), some (.int a5), none, none, none, none, some (.long a10), none, none, none, none, none, some (.long v16_1), none, some (.int a18), some (.int a19), none] _ _ _
        refine s_aln dX13_oneDigit_324 rfl ?_
        refine gf_185 dX13_oneDigit_325 rfl ?_
        refine s_il dX13_oneDigit_328 rfl ?_
        refine s_il dX13_oneDigit_330 rfl ?_
        refine s_iadd dX13_oneDigit_332 ?_
        refine s_ll dX13_oneDigit_333 rfl ?_
        refine s_ldcl dX13_oneDigit_335 rfl cl_677 ?_
        refine s_land dX13_oneDigit_338 ?_
        refine s_l2i dX13_oneDigit_339 ?_
        refine s_astb hC dX13_oneDigit_340 rt_90 F.1 (fun σ2 eσ2 => ?_)
        replace F := F.2 σ2 eσ2
        refine s_goto (t := 232) dX13_oneDigit_341 rfl ?_
        exact s_k (hB232 _ _ _ _ _ _ F) ⟨rfl, rfl, rfl, rfl, rfl, rfl, trivial⟩
      · replace F := F.2 hc
        refine s_aln dX13_oneDigit_258 rfl ?_
        refine gf_185 dX13_oneDigit_259 rfl ?_
        refine s_il dX13_oneDigit_262 rfl ?_
        refine s_il dX13_oneDigit_264 rfl ?_
        refine s_iadd dX13_oneDigit_266 ?_
        refine s_ald hC dX13_oneDigit_267 rt_90 F.1 ?_
        replace F := F.2
        refine s_aln dX13_oneDigit_268 rfl ?_
        refine gf_185 dX13_oneDigit_269 rfl ?_
        refine s_ldcw dX13_oneDigit_272 rfl cn_676 ?_
        refine s_iln dX13_oneDigit_275 rfl ?_
        refine s_imul dX13_oneDigit_276 ?_
        refine s_il dX13_oneDigit_277 rfl ?_
        refine s_iadd dX13_oneDigit_279 ?_
        refine s_ald hC dX13_oneDigit_280 rt_90 F.1 ?_
        replace F := F.2
        refine s_iadd dX13_oneDigit_281 ?_
        refine s_il dX13_oneDigit_282 rfl ?_
        refine s_iadd dX13_oneDigit_284 ?_
        refine s_isb dX13_oneDigit_285 (Nat.le_of_ble_eq_true rfl) (fun v20_3 ev20_3 => ?_)
        replace F := F v20_3 ev20_3
        show wG _ _ _ _ [some (.ref (co C)), none, none, some (.int a3), some (.int a4), some (.int a5), none, none, none, none, some (.long a10), none, none, none, none, none, some (.long a16), none, some (.int a18), some (.int a19), some (.int v20_3)] _ _ _
        refine s_aln dX13_oneDigit_287 rfl ?_
        refine gf_185 dX13_oneDigit_288 rfl ?_
        refine s_il dX13_oneDigit_291 rfl ?_
        refine s_il dX13_oneDigit_293 rfl ?_
        refine s_iadd dX13_oneDigit_295 ?_
        refine s_il dX13_oneDigit_296 rfl ?_
        refine s_ldcw dX13_oneDigit_298 rfl cn_679 ?_
        refine s_iand dX13_oneDigit_301 ?_
        refine s_astb hC dX13_oneDigit_302 rt_90 F.1 (fun σ4 eσ4 => ?_)
        replace F := F.2 σ4 eσ4
        refine s_il dX13_oneDigit_303 rfl ?_
        refine s_bi dX13_oneDigit_305 kb_16 ?_
        refine s_ishr dX13_oneDigit_307 ?_
        refine s_isb dX13_oneDigit_308 (Nat.le_of_ble_eq_true rfl) (fun v18_5 ev18_5 => ?_)
        replace F := F v18_5 ev18_5
        show wG _ _ _ _ [some (.ref (co C)), none, none, some (.int a3), some (.int a4), some (.int a5), none, none, none, none, some (.long a10), none, none, none, none, none, some (.long a16), none, some (.int v18_5), some (.int a19), some (.int v20_3)] _ _ _
        refine s_incb dX13_oneDigit_310 ki_1 rfl (Nat.le_of_ble_eq_true rfl) (fun v19_6 ev19_6 => ?_)
        replace F := F v19_6 ev19_6
        show wG _ _ _ _ [some (.ref (co C)), none, none, some (.int a3), some (.int a4), some (.int a5), none, none, none, none, some (.long a10), none, none, none, none, none, some (.long a16), none, some (.int v18_5), some (.int v19_6), some (.int v20_3)] _ _ _
        refine s_goto (t := 251) dX13_oneDigit_313 rfl ?_
        obtain ⟨k, hk, hI⟩ := F
        exact s_k (ih k hk _ _ _ _ _ _ _ _ hI) ⟨rfl, rfl, rfl, rfl, rfl, rfl, rfl, rfl, trivial⟩
  exact key n0 a3 a4 a5 a10 a16 a18 a19 σ hI0

def w_oneDigit_232 (C : rCx) (Q : Int32 → rS → Prop)  (a3 : Int32) (a4 : Int32) (a5 : Int32) (a10 : Int64) (a16 : Int64) (σ : rS) : Prop :=
  ∃ I : Nat → Int32 → Int32 → Int32 → Int64 → Int64 → rS → Prop, (∃ n, I n a3 a4 a5 a10 a16 σ) ∧ ∀ n a3 a4 a5 a10 a16 σ, I n a3 a4 a5 a10 a16 σ →
    (0 ≤ (lg_cmp a16 (0 : Int64)) →
      Q (a10).toInt32 σ) ∧
    (¬ (0 ≤ (lg_cmp a16 (0 : Int64))) →
      ∀ v10_1 : Int64, v10_1 = (a10 - (1 : Int64)) →
      w_oneDigit_251 C Q (fun a3' a4' a5' a10' a16' τ => ∃ k < n, I k a3' a4' a5' a10' a16' τ) a3 a4 a5 v10_1 a16 (0 : Int32) (0 : Int32) σ)
theorem t_oneDigit_232 {C : rCx} (hC : cOK C) {Q : Int32 → rS → Prop}   {a3 : Int32} {a4 : Int32} {a5 : Int32} {a10 : Int64} {a16 : Int64} {σ : rS} (F : w_oneDigit_232 C Q  a3 a4 a5 a10 a16 σ) : wG C 0 m_oneDigit 232 [some (.ref (co C)), none, none, some (.int a3), some (.int a4), some (.int a5), none, none, none, none, some (.long a10), none, none, none, none, none, some (.long a16), none, none, none, none] [] σ (qI Q) := by
  obtain ⟨I, ⟨n0, hI0⟩, F0⟩ := F
  have key : ∀ n a3 a4 a5 a10 a16 σ, I n a3 a4 a5 a10 a16 σ → wG C 0 m_oneDigit 232 [some (.ref (co C)), none, none, some (.int a3), some (.int a4), some (.int a5), none, none, none, none, some (.long a10), none, none, none, none, none, some (.long a16), none, none, none, none] [] σ (qI Q) := by
    intro n
    induction n using Nat.strongRecOn with
    | _ n ih =>
      intro a3 a4 a5 a10 a16 σ hI
      have F := F0 n a3 a4 a5 a10 a16 σ hI
      clear hI hI0
      refine s_ll dX13_oneDigit_232 rfl ?_
      refine s_lc dX13_oneDigit_234 kl_0 ?_
      refine s_lcmp dX13_oneDigit_235 ?_
      refine s_i (t := 344) (0 ≤ (lg_cmp a16 (0 : Int64))) dX13_oneDigit_236 rfl rfl (fun hc => ?_) (fun hc => ?_)
      · replace F := F.1 hc
        refine s_ll dX13_oneDigit_344 rfl ?_
        refine s_l2i dX13_oneDigit_346 ?_
        exact s_ri dX13_oneDigit_347 rfl in_nar F
      · replace F := F.2 hc
        refine s_ll dX13_oneDigit_239 rfl ?_
        refine s_lc dX13_oneDigit_241 kl_1 ?_
        refine s_lsub dX13_oneDigit_242 ?_
        refine s_lsb dX13_oneDigit_243 (Nat.le_of_ble_eq_true rfl) (fun v10_1 ev10_1 => ?_)
        replace F := F v10_1 ev10_1
        show wG _ _ _ _ [some (.ref (co C)), none, none, some (.int a3), some (.int a4), some (.int a5), none, none, none, none, some (.long v10_1), none, none, none, none, none, some (.long a16), none, none, none, none] _ _ _
        refine s_ic dX13_oneDigit_245 ki_0 ?_
        refine s_is dX13_oneDigit_246 (Nat.le_of_ble_eq_true rfl) rfl ?_
        show wG _ _ _ _ [some (.ref (co C)), none, none, some (.int a3), some (.int a4), some (.int a5), none, none, none, none, some (.long v10_1), none, none, none, none, none, some (.long a16), none, some (.int (0 : Int32)), none, none] _ _ _
        refine s_ic dX13_oneDigit_248 ki_0 ?_
        refine s_is dX13_oneDigit_249 (Nat.le_of_ble_eq_true rfl) rfl ?_
        show wG _ _ _ _ [some (.ref (co C)), none, none, some (.int a3), some (.int a4), some (.int a5), none, none, none, none, some (.long v10_1), none, none, none, none, none, some (.long a16), none, some (.int (0 : Int32)), some (.int (0 : Int32)), none] _ _ _
        exact s_k (t_oneDigit_251 hC (fun a3' a4' a5' a10' a16' τ hb => by obtain ⟨k, hk, hI⟩ := hb; exact ih k hk a3' a4' a5' a10' a16' τ hI) F) ⟨rfl, rfl, rfl, rfl, rfl, rfl, rfl, rfl, trivial⟩
  exact key n0 a3 a4 a5 a10 a16 σ hI0

def w_oneDigit_100 (C : rCx) (Q : Int32 → rS → Prop)  (a3 : Int32) (a4 : Int32) (a5 : Int32) (a10 : Int64) (a12 : Int64) (a14 : Int64) (a16 : Int32) (σ : rS) : Prop :=
  ∃ I : Nat → Int32 → Int32 → Int32 → Int64 → Int64 → Int64 → Int32 → rS → Prop, (∃ n, I n a3 a4 a5 a10 a12 a14 a16 σ) ∧ ∀ n a3 a4 a5 a10 a12 a14 a16 σ, I n a3 a4 a5 a10 a12 a14 a16 σ →
    (a4 ≤ a16 →
      inb (a5 + a4) 1200000 ∧
      ∀ v16_1 : Int64, v16_1 = ((((σ.2.2.1 90 ((a5 + a4)).toNatClampNeg)).toInt64 - a12) - a14) →
      inb (a5 + a4) 1200000 ∧
      ∀ σ2, σ2 = riU σ 90 ((a5 + a4)).toNatClampNeg ((v16_1 &&& (65535 : Int64))).toInt32 →
      w_oneDigit_232 C Q  a3 a4 a5 a10 v16_1 σ2) ∧
    (¬ (a4 ≤ a16) →
      inb (((40000 : Int32) * a3) + a16) 1200000 ∧
      ∀ v12_3 : Int64, v12_3 = (a12 + (a10 * ((σ.2.2.1 90 ((((40000 : Int32) * a3) + a16)).toNatClampNeg)).toInt64)) →
      inb (a5 + a16) 1200000 ∧
      ∀ v17_4 : Int64, v17_4 = ((((σ.2.2.1 90 ((a5 + a16)).toNatClampNeg)).toInt64 - (v12_3 &&& (65535 : Int64))) - a14) →
      (0 ≤ (lg_cmp v17_4 (0 : Int64)) →
        w_oneDigit_164 C Q (fun a3' a4' a5' a10' a12' a14' a16' τ => ∃ k < n, I k a3' a4' a5' a10' a12' a14' a16' τ) a3 a4 a5 a10 v12_3 a16 v17_4 (0 : Int64) σ) ∧
      (¬ (0 ≤ (lg_cmp v17_4 (0 : Int64))) →
        w_oneDigit_164 C Q (fun a3' a4' a5' a10' a12' a14' a16' τ => ∃ k < n, I k a3' a4' a5' a10' a12' a14' a16' τ) a3 a4 a5 a10 v12_3 a16 v17_4 (1 : Int64) σ))
theorem t_oneDigit_100 {C : rCx} (hC : cOK C) {Q : Int32 → rS → Prop}   {a3 : Int32} {a4 : Int32} {a5 : Int32} {a10 : Int64} {a12 : Int64} {a14 : Int64} {a16 : Int32} {σ : rS} (F : w_oneDigit_100 C Q  a3 a4 a5 a10 a12 a14 a16 σ) : wG C 0 m_oneDigit 100 [some (.ref (co C)), none, none, some (.int a3), some (.int a4), some (.int a5), none, none, none, none, some (.long a10), none, some (.long a12), none, some (.long a14), none, some (.int a16), none, none, none, none] [] σ (qI Q) := by
  obtain ⟨I, ⟨n0, hI0⟩, F0⟩ := F
  have key : ∀ n a3 a4 a5 a10 a12 a14 a16 σ, I n a3 a4 a5 a10 a12 a14 a16 σ → wG C 0 m_oneDigit 100 [some (.ref (co C)), none, none, some (.int a3), some (.int a4), some (.int a5), none, none, none, none, some (.long a10), none, some (.long a12), none, some (.long a14), none, some (.int a16), none, none, none, none] [] σ (qI Q) := by
    intro n
    induction n using Nat.strongRecOn with
    | _ n ih =>
      intro a3 a4 a5 a10 a12 a14 a16 σ hI
      have F := F0 n a3 a4 a5 a10 a12 a14 a16 σ hI
      clear hI hI0
      refine s_il dX13_oneDigit_100 rfl ?_
      refine s_il dX13_oneDigit_102 rfl ?_
      refine s_ii (t := 196) (a4 ≤ a16) dX13_oneDigit_104 rfl rfl (fun hc => ?_) (fun hc => ?_)
      · replace F := F.1 hc
        refine s_aln dX13_oneDigit_196 rfl ?_
        refine gf_185 dX13_oneDigit_197 rfl ?_
        refine s_il dX13_oneDigit_200 rfl ?_
        refine s_il dX13_oneDigit_202 rfl ?_
        refine s_iadd dX13_oneDigit_204 ?_
        refine s_ald hC dX13_oneDigit_205 rt_90 F.1 ?_
        replace F := F.2
        refine s_i2l dX13_oneDigit_206 ?_
        refine s_ll dX13_oneDigit_207 rfl ?_
        refine s_lsub dX13_oneDigit_209 ?_
        refine s_ll dX13_oneDigit_210 rfl ?_
        refine s_lsub dX13_oneDigit_212 ?_
        refine s_lsb dX13_oneDigit_213 (Nat.le_of_ble_eq_true rfl) (fun v16_1 ev16_1 => ?_)
        replace F := F v16_1 ev16_1
        show wG _ _ _ _ [some (.ref (co C)), none, none, some (.int a3), some (.int a4), some (.int a5), none, none, none, none, some (.long a10), none, some (.long a12), none, some (.long a14), none, some (.long v16_1), none, none, none, none] _ _ _
        refine s_aln dX13_oneDigit_215 rfl ?_
        refine gf_185 dX13_oneDigit_216 rfl ?_
        refine s_il dX13_oneDigit_219 rfl ?_
        refine s_il dX13_oneDigit_221 rfl ?_
        refine s_iadd dX13_oneDigit_223 ?_
        refine s_ll dX13_oneDigit_224 rfl ?_
        refine s_ldcl dX13_oneDigit_226 rfl cl_677 ?_
        refine s_land dX13_oneDigit_229 ?_
        refine s_l2i dX13_oneDigit_230 ?_
        refine s_astb hC dX13_oneDigit_231 rt_90 F.1 (fun σ2 eσ2 => ?_)
        replace F := F.2 σ2 eσ2
        exact s_k (t_oneDigit_232 hC  F) ⟨rfl, rfl, rfl, rfl, rfl, rfl, trivial⟩
      · replace F := F.2 hc
        refine s_ll dX13_oneDigit_107 rfl ?_
        refine s_ll dX13_oneDigit_109 rfl ?_
        refine s_aln dX13_oneDigit_111 rfl ?_
        refine gf_185 dX13_oneDigit_112 rfl ?_
        refine s_ldcw dX13_oneDigit_115 rfl cn_676 ?_
        refine s_iln dX13_oneDigit_118 rfl ?_
        refine s_imul dX13_oneDigit_119 ?_
        refine s_il dX13_oneDigit_120 rfl ?_
        refine s_iadd dX13_oneDigit_122 ?_
        refine s_ald hC dX13_oneDigit_123 rt_90 F.1 ?_
        replace F := F.2
        refine s_i2l dX13_oneDigit_124 ?_
        refine s_lmul dX13_oneDigit_125 ?_
        refine s_ladd dX13_oneDigit_126 ?_
        refine s_lsb dX13_oneDigit_127 (Nat.le_of_ble_eq_true rfl) (fun v12_3 ev12_3 => ?_)
        replace F := F v12_3 ev12_3
        show wG _ _ _ _ [some (.ref (co C)), none, none, some (.int a3), some (.int a4), some (.int a5), none, none, none, none, some (.long a10), none, some (.long v12_3), none, some (.long a14), none, some (.int a16), none, none, none, none] _ _ _
        refine s_aln dX13_oneDigit_129 rfl ?_
        refine gf_185 dX13_oneDigit_130 rfl ?_
        refine s_il dX13_oneDigit_133 rfl ?_
        refine s_il dX13_oneDigit_135 rfl ?_
        refine s_iadd dX13_oneDigit_137 ?_
        refine s_ald hC dX13_oneDigit_138 rt_90 F.1 ?_
        replace F := F.2
        refine s_i2l dX13_oneDigit_139 ?_
        refine s_ll dX13_oneDigit_140 rfl ?_
        refine s_ldcl dX13_oneDigit_142 rfl cl_677 ?_
        refine s_land dX13_oneDigit_145 ?_
        refine s_lsub dX13_oneDigit_146 ?_
        refine s_ll dX13_oneDigit_147 rfl ?_
        refine s_lsub dX13_oneDigit_149 ?_
        refine s_lsb dX13_oneDigit_150 (Nat.le_of_ble_eq_true rfl) (fun v17_4 ev17_4 => ?_)
        replace F := F v17_4 ev17_4
        show wG _ _ _ _ [some (.ref (co C)), none, none, some (.int a3), some (.int a4), some (.int a5), none, none, none, none, some (.long a10), none, some (.long v12_3), none, some (.long a14), none, some (.int a16), some (.long v17_4), none, none, none] _ _ _
        refine s_ll dX13_oneDigit_152 rfl ?_
        refine s_lc dX13_oneDigit_154 kl_0 ?_
        refine s_lcmp dX13_oneDigit_155 ?_
        refine s_i (t := 163) (0 ≤ (lg_cmp v17_4 (0 : Int64))) dX13_oneDigit_156 rfl rfl (fun hc => ?_) (fun hc => ?_)
        · replace F := F.1 hc
          refine s_lc dX13_oneDigit_163 kl_0 ?_
          exact s_k (t_oneDigit_164 hC (fun a3' a4' a5' a10' a12' a14' a16' τ hb => by obtain ⟨k, hk, hI⟩ := hb; exact ih k hk a3' a4' a5' a10' a12' a14' a16' τ hI) F) ⟨rfl, rfl, rfl, rfl, rfl, rfl, rfl, rfl, trivial⟩
        · replace F := F.2 hc
          refine s_lc dX13_oneDigit_159 kl_1 ?_
          refine s_goto (t := 164) dX13_oneDigit_160 rfl ?_
          exact s_k (t_oneDigit_164 hC (fun a3' a4' a5' a10' a12' a14' a16' τ hb => by obtain ⟨k, hk, hI⟩ := hb; exact ih k hk a3' a4' a5' a10' a12' a14' a16' τ hI) F) ⟨rfl, rfl, rfl, rfl, rfl, rfl, rfl, rfl, trivial⟩
  exact key n0 a3 a4 a5 a10 a12 a14 a16 σ hI0

def w_oneDigit_89 (C : rCx) (Q : Int32 → rS → Prop)  (a3 : Int32) (a4 : Int32) (a5 : Int32) (s0 : Int64) (σ : rS) : Prop :=
  w_oneDigit_100 C Q  a3 a4 a5 s0 (0 : Int64) (0 : Int64) (0 : Int32) σ
theorem t_oneDigit_89 {C : rCx} (hC : cOK C) {Q : Int32 → rS → Prop}   {a3 : Int32} {a4 : Int32} {a5 : Int32} {s0 : Int64} {σ : rS} (F : w_oneDigit_89 C Q  a3 a4 a5 s0 σ) : wG C 0 m_oneDigit 89 [some (.ref (co C)), none, none, some (.int a3), some (.int a4), some (.int a5), none, none, none, none, none, none, none, none, none, none, none, none, none, none, none] [.long s0] σ (qI Q) := by
  unfold w_oneDigit_89 at F
  refine s_ls dX13_oneDigit_89 (Nat.le_of_ble_eq_true rfl) rfl ?_
  show wG _ _ _ _ [some (.ref (co C)), none, none, some (.int a3), some (.int a4), some (.int a5), none, none, none, none, some (.long s0), none, none, none, none, none, none, none, none, none, none] _ _ _
  refine s_lc dX13_oneDigit_91 kl_0 ?_
  refine s_ls dX13_oneDigit_92 (Nat.le_of_ble_eq_true rfl) rfl ?_
  show wG _ _ _ _ [some (.ref (co C)), none, none, some (.int a3), some (.int a4), some (.int a5), none, none, none, none, some (.long s0), none, some (.long (0 : Int64)), none, none, none, none, none, none, none, none] _ _ _
  refine s_lc dX13_oneDigit_94 kl_0 ?_
  refine s_ls dX13_oneDigit_95 (Nat.le_of_ble_eq_true rfl) rfl ?_
  show wG _ _ _ _ [some (.ref (co C)), none, none, some (.int a3), some (.int a4), some (.int a5), none, none, none, none, some (.long s0), none, some (.long (0 : Int64)), none, some (.long (0 : Int64)), none, none, none, none, none, none] _ _ _
  refine s_ic dX13_oneDigit_97 ki_0 ?_
  refine s_is dX13_oneDigit_98 (Nat.le_of_ble_eq_true rfl) rfl ?_
  show wG _ _ _ _ [some (.ref (co C)), none, none, some (.int a3), some (.int a4), some (.int a5), none, none, none, none, some (.long s0), none, some (.long (0 : Int64)), none, some (.long (0 : Int64)), none, some (.int (0 : Int32)), none, none, none, none] _ _ _
  exact s_k (t_oneDigit_100 hC  F) ⟨rfl, rfl, rfl, rfl, rfl, rfl, rfl, rfl, trivial⟩

def w_oneDigit_0 (C : rCx) (Q : Int32 → rS → Prop)  (a1 : Int32) (a2 : Int32) (a3 : Int32) (σ : rS) : Prop :=
  inb a3 30 ∧
  ∀ v4_1 : Int32, v4_1 = (σ.2.2.1 91 (a3).toNatClampNeg) →
  ∀ v5_2 : Int32, v5_2 = (((40000 : Int32) * a1) + a2) →
  inb (v5_2 + v4_1) 1200000 ∧
  inb ((v5_2 + v4_1) - (1 : Int32)) 1200000 ∧
  ∀ v6_3 : Int64, v6_3 = ((((σ.2.2.1 90 ((v5_2 + v4_1)).toNatClampNeg)).toInt64 <<< (((16 : Int32)).toInt64 &&& 63)) ||| ((σ.2.2.1 90 (((v5_2 + v4_1) - (1 : Int32))).toNatClampNeg)).toInt64) →
  inb ((((40000 : Int32) * a3) + v4_1) - (1 : Int32)) 1200000 ∧
  ∀ v8_4 : Int64, v8_4 = ((σ.2.2.1 90 (((((40000 : Int32) * a3) + v4_1) - (1 : Int32))).toNatClampNeg)).toInt64 →
  ¬ v8_4 = 0 ∧
  ∀ v10_5 : Int64, v10_5 = (v6_3 / v8_4) →
  ((lg_cmp v10_5 (65535 : Int64)) ≤ 0 →
    w_oneDigit_89 C Q  a3 v4_1 v5_2 v10_5 σ) ∧
  (¬ ((lg_cmp v10_5 (65535 : Int64)) ≤ 0) →
    w_oneDigit_89 C Q  a3 v4_1 v5_2 (65535 : Int64) σ)
theorem t_oneDigit_0 {C : rCx} (hC : cOK C) {Q : Int32 → rS → Prop}   {a1 : Int32} {a2 : Int32} {a3 : Int32} {σ : rS} (F : w_oneDigit_0 C Q  a1 a2 a3 σ) : wG C 0 m_oneDigit 0 [some (.ref (co C)), some (.int a1), some (.int a2), some (.int a3), none, none, none, none, none, none, none, none, none, none, none, none, none, none, none, none, none] [] σ (qI Q) := by
  unfold w_oneDigit_0 at F
  refine s_aln dX13_oneDigit_0 rfl ?_
  refine gf_188 dX13_oneDigit_1 rfl ?_
  refine s_iln dX13_oneDigit_4 rfl ?_
  refine s_ald hC dX13_oneDigit_5 rt_91 F.1 ?_
  replace F := F.2
  refine s_isb dX13_oneDigit_6 (Nat.le_of_ble_eq_true rfl) (fun v4_1 ev4_1 => ?_)
  replace F := F v4_1 ev4_1
  show wG _ _ _ _ [some (.ref (co C)), some (.int a1), some (.int a2), some (.int a3), some (.int v4_1), none, none, none, none, none, none, none, none, none, none, none, none, none, none, none, none] _ _ _
  refine s_ldcw dX13_oneDigit_8 rfl cn_676 ?_
  refine s_iln dX13_oneDigit_11 rfl ?_
  refine s_imul dX13_oneDigit_12 ?_
  refine s_iln dX13_oneDigit_13 rfl ?_
  refine s_iadd dX13_oneDigit_14 ?_
  refine s_isb dX13_oneDigit_15 (Nat.le_of_ble_eq_true rfl) (fun v5_2 ev5_2 => ?_)
  replace F := F v5_2 ev5_2
  show wG _ _ _ _ [some (.ref (co C)), some (.int a1), some (.int a2), some (.int a3), some (.int v4_1), some (.int v5_2), none, none, none, none, none, none, none, none, none, none, none, none, none, none, none] _ _ _
  refine s_aln dX13_oneDigit_17 rfl ?_
  refine gf_185 dX13_oneDigit_18 rfl ?_
  refine s_il dX13_oneDigit_21 rfl ?_
  refine s_il dX13_oneDigit_23 rfl ?_
  refine s_iadd dX13_oneDigit_25 ?_
  refine s_ald hC dX13_oneDigit_26 rt_90 F.1 ?_
  replace F := F.2
  refine s_i2l dX13_oneDigit_27 ?_
  refine s_bi dX13_oneDigit_28 kb_16 ?_
  refine s_lshl dX13_oneDigit_30 ?_
  refine s_aln dX13_oneDigit_31 rfl ?_
  refine gf_185 dX13_oneDigit_32 rfl ?_
  refine s_il dX13_oneDigit_35 rfl ?_
  refine s_il dX13_oneDigit_37 rfl ?_
  refine s_iadd dX13_oneDigit_39 ?_
  refine s_ic dX13_oneDigit_40 ki_1 ?_
  refine s_isub dX13_oneDigit_41 ?_
  refine s_ald hC dX13_oneDigit_42 rt_90 F.1 ?_
  replace F := F.2
  refine s_i2l dX13_oneDigit_43 ?_
  refine s_lor dX13_oneDigit_44 ?_
  refine s_lsb dX13_oneDigit_45 (Nat.le_of_ble_eq_true rfl) (fun v6_3 ev6_3 => ?_)
  replace F := F v6_3 ev6_3
  show wG _ _ _ _ [some (.ref (co C)), some (.int a1), some (.int a2), some (.int a3), some (.int v4_1), some (.int v5_2), some (.long v6_3), none, none, none, none, none, none, none, none, none, none, none, none, none, none] _ _ _
  refine s_aln dX13_oneDigit_47 rfl ?_
  refine gf_185 dX13_oneDigit_48 rfl ?_
  refine s_ldcw dX13_oneDigit_51 rfl cn_676 ?_
  refine s_iln dX13_oneDigit_54 rfl ?_
  refine s_imul dX13_oneDigit_55 ?_
  refine s_il dX13_oneDigit_56 rfl ?_
  refine s_iadd dX13_oneDigit_58 ?_
  refine s_ic dX13_oneDigit_59 ki_1 ?_
  refine s_isub dX13_oneDigit_60 ?_
  refine s_ald hC dX13_oneDigit_61 rt_90 F.1 ?_
  replace F := F.2
  refine s_i2l dX13_oneDigit_62 ?_
  refine s_lsb dX13_oneDigit_63 (Nat.le_of_ble_eq_true rfl) (fun v8_4 ev8_4 => ?_)
  replace F := F v8_4 ev8_4
  show wG _ _ _ _ [some (.ref (co C)), some (.int a1), some (.int a2), some (.int a3), some (.int v4_1), some (.int v5_2), some (.long v6_3), none, some (.long v8_4), none, none, none, none, none, none, none, none, none, none, none, none] _ _ _
  refine s_ll dX13_oneDigit_65 rfl ?_
  refine s_ll dX13_oneDigit_67 rfl ?_
  refine s_ldiv dX13_oneDigit_69 F.1 ?_
  replace F := F.2
  refine s_lsb dX13_oneDigit_70 (Nat.le_of_ble_eq_true rfl) (fun v10_5 ev10_5 => ?_)
  replace F := F v10_5 ev10_5
  show wG _ _ _ _ [some (.ref (co C)), some (.int a1), some (.int a2), some (.int a3), some (.int v4_1), some (.int v5_2), some (.long v6_3), none, some (.long v8_4), none, some (.long v10_5), none, none, none, none, none, none, none, none, none, none] _ _ _
  refine s_ll dX13_oneDigit_72 rfl ?_
  refine s_ldcl dX13_oneDigit_74 rfl cl_677 ?_
  refine s_lcmp dX13_oneDigit_77 ?_
  refine s_i (t := 87) ((lg_cmp v10_5 (65535 : Int64)) ≤ 0) dX13_oneDigit_78 rfl rfl (fun hc => ?_) (fun hc => ?_)
  · replace F := F.1 hc
    refine s_ll dX13_oneDigit_87 rfl ?_
    exact s_k (t_oneDigit_89 hC  F) ⟨rfl, rfl, rfl, rfl, trivial⟩
  · replace F := F.2 hc
    refine s_ldcl dX13_oneDigit_81 rfl cl_677 ?_
    refine s_goto (t := 89) dX13_oneDigit_84 rfl ?_
    exact s_k (t_oneDigit_89 hC  F) ⟨rfl, rfl, rfl, rfl, trivial⟩

theorem m_oneDigit_run {C : rCx} (hC : cOK C) {Q : Int32 → rS → Prop} {a1 : Int32} {a2 : Int32} {a3 : Int32} {σ : rS} (F : w_oneDigit_0 C Q a1 a2 a3 σ) : cI C 0 m_oneDigit [.ref (co C), .int a1, .int a2, .int a3] σ Q := m_I (m_ent _ 17) (t_oneDigit_0 hC F)

