/-! methods of the reference: play, walk, played, keepWorth, loadNext, isWorthDone, isGreater, takeNext, findWorth, best -/
theorem dX13_play_0 : decode cX13_play 0 = .ok (.aload_n 0, 1) := by decide +kernel
theorem dX13_play_1 : decode cX13_play 1 = .ok (.lload_n 1, 1) := by decide +kernel
theorem dX13_play_2 : decode cX13_play 2 = .ok (.putfield 836, 3) := by decide +kernel
theorem dX13_play_5 : decode cX13_play 5 = .ok (.aload_n 0, 1) := by decide +kernel
theorem dX13_play_6 : decode cX13_play 6 = .ok (.iconst 1, 1) := by decide +kernel
theorem dX13_play_7 : decode cX13_play 7 = .ok (.putfield 830, 3) := by decide +kernel
theorem dX13_play_10 : decode cX13_play 10 = .ok (.aload_n 0, 1) := by decide +kernel
theorem dX13_play_11 : decode cX13_play 11 = .ok (.iload_n 3, 1) := by decide +kernel
theorem dX13_play_12 : decode cX13_play 12 = .ok (.invokevirtual 862, 3) := by decide +kernel
theorem dX13_play_15 : decode cX13_play 15 = .ok (.ireturn, 1) := by decide +kernel
def w_play_0 (C : rCx) (Q : Int32 → rS → Prop)  (a1 : Int64) (a3 : Int32) (σ : rS) : Prop :=
  ∀ σ1, σ1 = slU σ 112 a1 →
  ∀ σ2, σ2 = siU σ1 113 (1 : Int32) →
  cI C 10 m_go2 [.ref (co C), .int a3] σ2 (fun r4 σ3 =>
    Q r4 σ3)
theorem t_play_0 {C : rCx} (hC : cOK C) {Q : Int32 → rS → Prop}   {a1 : Int64} {a3 : Int32} {σ : rS} (F : w_play_0 C Q  a1 a3 σ) : wG C 11 m_play 0 [some (.ref (co C)), some (.long a1), none, some (.int a3)] [] σ (qI Q) := by
  unfold w_play_0 at F
  refine s_aln dX13_play_0 rfl ?_
  refine s_lln dX13_play_1 rfl ?_
  refine pf_836 hC dX13_play_2 rfl (fun σ1 eσ1 => ?_)
  replace F := F σ1 eσ1
  refine s_aln dX13_play_5 rfl ?_
  refine s_ic dX13_play_6 ki_1 ?_
  refine pf_830 hC dX13_play_7 rfl (nb_nar nb_1) (fun σ2 eσ2 => ?_)
  replace F := F σ2 eσ2
  refine s_aln dX13_play_10 rfl ?_
  refine s_iln dX13_play_11 rfl ?_
  refine k_862 dX13_play_12 rfl (Nat.le_of_ble_eq_true rfl) (Nat.le_of_ble_eq_true rfl) F (fun r4 σ3 F => ?_)
  exact s_ri dX13_play_15 rfl in_nar F

theorem m_play_run {C : rCx} (hC : cOK C) {Q : Int32 → rS → Prop} {a1 : Int64} {a3 : Int32} {σ : rS} (F : w_play_0 C Q a1 a3 σ) : cI C 11 m_play [.ref (co C), .long a1, .int a3] σ Q := m_I (m_ent _ 0) (t_play_0 hC F)

theorem dX13_walk_0 : decode cX13_walk 0 = .ok (.aload_n 0, 1) := by decide +kernel
theorem dX13_walk_1 : decode cX13_walk 1 = .ok (.iconst 0, 1) := by decide +kernel
theorem dX13_walk_2 : decode cX13_walk 2 = .ok (.putfield 830, 3) := by decide +kernel
theorem dX13_walk_5 : decode cX13_walk 5 = .ok (.aload_n 0, 1) := by decide +kernel
theorem dX13_walk_6 : decode cX13_walk 6 = .ok (.iload_n 1, 1) := by decide +kernel
theorem dX13_walk_7 : decode cX13_walk 7 = .ok (.invokevirtual 862, 3) := by decide +kernel
theorem dX13_walk_10 : decode cX13_walk 10 = .ok (.ireturn, 1) := by decide +kernel
def w_walk_0 (C : rCx) (Q : Int32 → rS → Prop)  (a1 : Int32) (σ : rS) : Prop :=
  ∀ σ1, σ1 = siU σ 113 (0 : Int32) →
  cI C 10 m_go2 [.ref (co C), .int a1] σ1 (fun r3 σ2 =>
    Q r3 σ2)
theorem t_walk_0 {C : rCx} (hC : cOK C) {Q : Int32 → rS → Prop}   {a1 : Int32} {σ : rS} (F : w_walk_0 C Q  a1 σ) : wG C 11 m_walk 0 [some (.ref (co C)), some (.int a1)] [] σ (qI Q) := by
  unfold w_walk_0 at F
  refine s_aln dX13_walk_0 rfl ?_
  refine s_ic dX13_walk_1 ki_0 ?_
  refine pf_830 hC dX13_walk_2 rfl (nb_nar nb_0) (fun σ1 eσ1 => ?_)
  replace F := F σ1 eσ1
  refine s_aln dX13_walk_5 rfl ?_
  refine s_iln dX13_walk_6 rfl ?_
  refine k_862 dX13_walk_7 rfl (Nat.le_of_ble_eq_true rfl) (Nat.le_of_ble_eq_true rfl) F (fun r3 σ2 F => ?_)
  exact s_ri dX13_walk_10 rfl in_nar F

theorem m_walk_run {C : rCx} (hC : cOK C) {Q : Int32 → rS → Prop} {a1 : Int32} {σ : rS} (F : w_walk_0 C Q a1 σ) : cI C 11 m_walk [.ref (co C), .int a1] σ Q := m_I (m_ent _ 0) (t_walk_0 hC F)

theorem dX13_played_0 : decode cX13_played 0 = .ok (.aload_n 0, 1) := by decide +kernel
theorem dX13_played_1 : decode cX13_played 1 = .ok (.iload_n 1, 1) := by decide +kernel
theorem dX13_played_2 : decode cX13_played 2 = .ok (.ifCond .lt 29, 3) := by decide +kernel
theorem dX13_played_5 : decode cX13_played 5 = .ok (.iload_n 1, 1) := by decide +kernel
theorem dX13_played_6 : decode cX13_played 6 = .ok (.iconst 5, 1) := by decide +kernel
theorem dX13_played_7 : decode cX13_played 7 = .ok (.aload_n 0, 1) := by decide +kernel
theorem dX13_played_8 : decode cX13_played 8 = .ok (.getfield 529, 3) := by decide +kernel
theorem dX13_played_11 : decode cX13_played 11 = .ok (.ifCond .eq 15, 3) := by decide +kernel
theorem dX13_played_14 : decode cX13_played 14 = .ok (.aload_n 0, 1) := by decide +kernel
theorem dX13_played_15 : decode cX13_played 15 = .ok (.getfield 333, 3) := by decide +kernel
theorem dX13_played_18 : decode cX13_played 18 = .ok (.aload_n 0, 1) := by decide +kernel
theorem dX13_played_19 : decode cX13_played 19 = .ok (.getfield 369, 3) := by decide +kernel
theorem dX13_played_22 : decode cX13_played 22 = .ok (.iadd, 1) := by decide +kernel
theorem dX13_played_23 : decode cX13_played 23 = .ok (.goto 4, 3) := by decide +kernel
theorem dX13_played_26 : decode cX13_played 26 = .ok (.iconst 0, 1) := by decide +kernel
theorem dX13_played_27 : decode cX13_played 27 = .ok (.iadd, 1) := by decide +kernel
theorem dX13_played_28 : decode cX13_played 28 = .ok (.if_icmp .lt 7, 3) := by decide +kernel
theorem dX13_played_31 : decode cX13_played 31 = .ok (.iconst 1, 1) := by decide +kernel
theorem dX13_played_32 : decode cX13_played 32 = .ok (.goto 4, 3) := by decide +kernel
theorem dX13_played_35 : decode cX13_played 35 = .ok (.iconst 0, 1) := by decide +kernel
theorem dX13_played_36 : decode cX13_played 36 = .ok (.putfield 1, 3) := by decide +kernel
theorem dX13_played_39 : decode cX13_played 39 = .ok (.aload_n 0, 1) := by decide +kernel
theorem dX13_played_40 : decode cX13_played 40 = .ok (.getfield 1, 3) := by decide +kernel
theorem dX13_played_43 : decode cX13_played 43 = .ok (.ifCond .gt 11, 3) := by decide +kernel
theorem dX13_played_46 : decode cX13_played 46 = .ok (.aload_n 0, 1) := by decide +kernel
theorem dX13_played_47 : decode cX13_played 47 = .ok (.getfield 220, 3) := by decide +kernel
theorem dX13_played_50 : decode cX13_played 50 = .ok (.iconst (-1), 1) := by decide +kernel
theorem dX13_played_51 : decode cX13_played 51 = .ok (.if_icmp .ne 5, 3) := by decide +kernel
theorem dX13_played_54 : decode cX13_played 54 = .ok (.lconst 0, 1) := by decide +kernel
theorem dX13_played_55 : decode cX13_played 55 = .ok (.lreturn, 1) := by decide +kernel
theorem dX13_played_56 : decode cX13_played 56 = .ok (.iload_n 1, 1) := by decide +kernel
theorem dX13_played_57 : decode cX13_played 57 = .ok (.tableswitch 64 0 4 #[35, 41, 47, 53, 59], 35) := by decide +kernel
theorem dX13_played_92 : decode cX13_played 92 = .ok (.aload_n 0, 1) := by decide +kernel
theorem dX13_played_93 : decode cX13_played 93 = .ok (.getfield 220, 3) := by decide +kernel
theorem dX13_played_96 : decode cX13_played 96 = .ok (.i2l, 1) := by decide +kernel
theorem dX13_played_97 : decode cX13_played 97 = .ok (.lreturn, 1) := by decide +kernel
theorem dX13_played_98 : decode cX13_played 98 = .ok (.aload_n 0, 1) := by decide +kernel
theorem dX13_played_99 : decode cX13_played 99 = .ok (.getfield 859, 3) := by decide +kernel
theorem dX13_played_102 : decode cX13_played 102 = .ok (.i2l, 1) := by decide +kernel
theorem dX13_played_103 : decode cX13_played 103 = .ok (.lreturn, 1) := by decide +kernel
theorem dX13_played_104 : decode cX13_played 104 = .ok (.aload_n 0, 1) := by decide +kernel
theorem dX13_played_105 : decode cX13_played 105 = .ok (.getfield 847, 3) := by decide +kernel
theorem dX13_played_108 : decode cX13_played 108 = .ok (.i2l, 1) := by decide +kernel
theorem dX13_played_109 : decode cX13_played 109 = .ok (.lreturn, 1) := by decide +kernel
theorem dX13_played_110 : decode cX13_played 110 = .ok (.aload_n 0, 1) := by decide +kernel
theorem dX13_played_111 : decode cX13_played 111 = .ok (.getfield 833, 3) := by decide +kernel
theorem dX13_played_114 : decode cX13_played 114 = .ok (.i2l, 1) := by decide +kernel
theorem dX13_played_115 : decode cX13_played 115 = .ok (.lreturn, 1) := by decide +kernel
theorem dX13_played_116 : decode cX13_played 116 = .ok (.aload_n 0, 1) := by decide +kernel
theorem dX13_played_117 : decode cX13_played 117 = .ok (.getfield 850, 3) := by decide +kernel
theorem dX13_played_120 : decode cX13_played 120 = .ok (.lreturn, 1) := by decide +kernel
theorem dX13_played_121 : decode cX13_played 121 = .ok (.aload_n 0, 1) := by decide +kernel
theorem dX13_played_122 : decode cX13_played 122 = .ok (.getfield 223, 3) := by decide +kernel
theorem dX13_played_125 : decode cX13_played 125 = .ok (.iload_n 1, 1) := by decide +kernel
theorem dX13_played_126 : decode cX13_played 126 = .ok (.iconst 5, 1) := by decide +kernel
theorem dX13_played_127 : decode cX13_played 127 = .ok (.isub, 1) := by decide +kernel
theorem dX13_played_128 : decode cX13_played 128 = .ok (.iaload, 1) := by decide +kernel
theorem dX13_played_129 : decode cX13_played 129 = .ok (.i2l, 1) := by decide +kernel
theorem dX13_played_130 : decode cX13_played 130 = .ok (.lreturn, 1) := by decide +kernel
def w_played_36 (C : rCx) (Q : Int64 → rS → Prop)  (a1 : Int32) (s1 : Int32) (σ : rS) : Prop :=
  ∀ σ1, σ1 = siU σ 0 s1 →
  (0 < (σ1.1 0) →
    Q (0 : Int64) σ1) ∧
  (¬ (0 < (σ1.1 0)) →
    (¬ ((σ1.1 106) = (-1 : Int32)) →
      ((a1).toInt < 0 ∨ 4 < (a1).toInt →
        inb (a1 - (5 : Int32)) 34 ∧
        Q ((σ1.2.2.1 111 ((a1 - (5 : Int32))).toNatClampNeg)).toInt64 σ1) ∧
      ((a1).toInt = 0 →
        Q ((σ1.1 106)).toInt64 σ1) ∧
      ((a1).toInt = 1 →
        Q ((σ1.1 107)).toInt64 σ1) ∧
      ((a1).toInt = 2 →
        Q ((σ1.1 108)).toInt64 σ1) ∧
      ((a1).toInt = 3 →
        Q ((σ1.1 109)).toInt64 σ1) ∧
      ((a1).toInt = 4 →
        Q (σ1.2.1 110) σ1)) ∧
    ((σ1.1 106) = (-1 : Int32) →
      Q (0 : Int64) σ1))
theorem t_played_36 {C : rCx} (hC : cOK C) {Q : Int64 → rS → Prop}   {a1 : Int32} {s1 : Int32} {σ : rS} (F : w_played_36 C Q  a1 s1 σ) : wG C 0 m_played 36 [some (.ref (co C)), some (.int a1)] [.int s1, .ref (co C)] σ (qL Q) := by
  unfold w_played_36 at F
  refine pf_1 hC dX13_played_36 rfl (fun σ1 eσ1 => ?_)
  replace F := F σ1 eσ1
  refine s_aln dX13_played_39 rfl ?_
  refine gf_1 dX13_played_40 rfl ?_
  refine s_i (t := 54) (0 < (σ1.1 0)) dX13_played_43 rfl rfl (fun hc => ?_) (fun hc => ?_)
  · replace F := F.1 hc
    refine s_lc dX13_played_54 kl_0 ?_
    exact s_rl dX13_played_55 rfl F
  · replace F := F.2 hc
    refine s_aln dX13_played_46 rfl ?_
    refine gf_220 dX13_played_47 rfl ?_
    refine s_ic dX13_played_50 ki_m1 ?_
    refine s_iin (t := 56) ((σ1.1 106) = (-1 : Int32)) dX13_played_51 rfl rfl (fun hc => ?_) (fun hc => ?_)
    · replace F := F.1 hc
      refine s_iln dX13_played_56 rfl ?_
      by_cases hsw : (a1).toInt < 0 ∨ 4 < (a1).toInt
      · refine s_swd (t := 121) dX13_played_57 hsw rfl ?_
        replace F := F.1 hsw
        refine s_aln dX13_played_121 rfl ?_
        refine gf_223 dX13_played_122 rfl ?_
        refine s_iln dX13_played_125 rfl ?_
        refine s_ic dX13_played_126 ki_5 ?_
        refine s_isub dX13_played_127 ?_
        refine s_ald hC dX13_played_128 rt_111 F.1 ?_
        replace F := F.2
        refine s_i2l dX13_played_129 ?_
        exact s_rl dX13_played_130 rfl F
      replace F := F.2
      by_cases hs0 : (a1).toInt = 0
      · refine s_p (pc' := 92) dX13_played_57 (fun lo => sw_at (k := 0) hs0 (eq_true (by decide)) rfl rfl) ?_
        replace F := F.1 hs0
        refine s_aln dX13_played_92 rfl ?_
        refine gf_220 dX13_played_93 rfl ?_
        refine s_i2l dX13_played_96 ?_
        exact s_rl dX13_played_97 rfl F
      replace F := F.2
      by_cases hs1 : (a1).toInt = 1
      · refine s_p (pc' := 98) dX13_played_57 (fun lo => sw_at (k := 0) hs1 (eq_true (by decide)) rfl rfl) ?_
        replace F := F.1 hs1
        refine s_aln dX13_played_98 rfl ?_
        refine gf_859 dX13_played_99 rfl ?_
        refine s_i2l dX13_played_102 ?_
        exact s_rl dX13_played_103 rfl F
      replace F := F.2
      by_cases hs2 : (a1).toInt = 2
      · refine s_p (pc' := 104) dX13_played_57 (fun lo => sw_at (k := 0) hs2 (eq_true (by decide)) rfl rfl) ?_
        replace F := F.1 hs2
        refine s_aln dX13_played_104 rfl ?_
        refine gf_847 dX13_played_105 rfl ?_
        refine s_i2l dX13_played_108 ?_
        exact s_rl dX13_played_109 rfl F
      replace F := F.2
      by_cases hs3 : (a1).toInt = 3
      · refine s_p (pc' := 110) dX13_played_57 (fun lo => sw_at (k := 0) hs3 (eq_true (by decide)) rfl rfl) ?_
        replace F := F.1 hs3
        refine s_aln dX13_played_110 rfl ?_
        refine gf_833 dX13_played_111 rfl ?_
        refine s_i2l dX13_played_114 ?_
        exact s_rl dX13_played_115 rfl F
      replace F := F.2
      have hs4 : (a1).toInt = 4 := by omega
      refine s_p (pc' := 116) dX13_played_57 (fun lo => sw_at (k := 0) hs4 (eq_true (by decide)) rfl rfl) ?_
      replace F := F hs4
      refine s_aln dX13_played_116 rfl ?_
      refine gf_850 dX13_played_117 rfl ?_
      exact s_rl dX13_played_120 rfl F
    · replace F := F.2 hc
      refine s_lc dX13_played_54 kl_0 ?_
      exact s_rl dX13_played_55 rfl F

def w_played_27 (C : rCx) (Q : Int64 → rS → Prop)  (a1 : Int32) (s1 : Int32) (s2 : Int32) (s3 : Int32) (σ : rS) : Prop :=
  (s1 < (s2 + s3) →
    w_played_36 C Q  a1 (0 : Int32) σ) ∧
  (¬ (s1 < (s2 + s3)) →
    w_played_36 C Q  a1 (1 : Int32) σ)
theorem t_played_27 {C : rCx} (hC : cOK C) {Q : Int64 → rS → Prop}   {a1 : Int32} {s1 : Int32} {s2 : Int32} {s3 : Int32} {σ : rS} (F : w_played_27 C Q  a1 s1 s2 s3 σ) : wG C 0 m_played 27 [some (.ref (co C)), some (.int a1)] [.int s3, .int s2, .int s1, .ref (co C)] σ (qL Q) := by
  unfold w_played_27 at F
  refine s_iadd dX13_played_27 ?_
  refine s_ii (t := 35) (s1 < (s2 + s3)) dX13_played_28 rfl rfl (fun hc => ?_) (fun hc => ?_)
  · replace F := F.1 hc
    refine s_ic dX13_played_35 ki_0 ?_
    exact s_k (t_played_36 hC  F) ⟨rfl, rfl, trivial⟩
  · replace F := F.2 hc
    refine s_ic dX13_played_31 ki_1 ?_
    refine s_goto (t := 36) dX13_played_32 rfl ?_
    exact s_k (t_played_36 hC  F) ⟨rfl, rfl, trivial⟩

def w_played_0 (C : rCx) (Q : Int64 → rS → Prop)  (a1 : Int32) (σ : rS) : Prop :=
  (a1 < 0 →
    w_played_36 C Q  a1 (1 : Int32) σ) ∧
  (¬ (a1 < 0) →
    ((σ.1 14) = 0 →
      w_played_27 C Q  a1 a1 (5 : Int32) (0 : Int32) σ) ∧
    (¬ ((σ.1 14) = 0) →
      w_played_27 C Q  a1 a1 (5 : Int32) ((σ.1 15) + (σ.1 17)) σ))
theorem t_played_0 {C : rCx} (hC : cOK C) {Q : Int64 → rS → Prop}   {a1 : Int32} {σ : rS} (F : w_played_0 C Q  a1 σ) : wG C 0 m_played 0 [some (.ref (co C)), some (.int a1)] [] σ (qL Q) := by
  unfold w_played_0 at F
  refine s_aln dX13_played_0 rfl ?_
  refine s_iln dX13_played_1 rfl ?_
  refine s_i (t := 31) (a1 < 0) dX13_played_2 rfl rfl (fun hc => ?_) (fun hc => ?_)
  · replace F := F.1 hc
    refine s_ic dX13_played_31 ki_1 ?_
    refine s_goto (t := 36) dX13_played_32 rfl ?_
    exact s_k (t_played_36 hC  F) ⟨rfl, rfl, trivial⟩
  · replace F := F.2 hc
    refine s_iln dX13_played_5 rfl ?_
    refine s_ic dX13_played_6 ki_5 ?_
    refine s_aln dX13_played_7 rfl ?_
    refine gf_529 dX13_played_8 rfl ?_
    refine s_i (t := 26) ((σ.1 14) = 0) dX13_played_11 rfl rfl (fun hc => ?_) (fun hc => ?_)
    · replace F := F.1 hc
      refine s_ic dX13_played_26 ki_0 ?_
      exact s_k (t_played_27 hC  F) ⟨rfl, rfl, trivial⟩
    · replace F := F.2 hc
      refine s_aln dX13_played_14 rfl ?_
      refine gf_333 dX13_played_15 rfl ?_
      refine s_aln dX13_played_18 rfl ?_
      refine gf_369 dX13_played_19 rfl ?_
      refine s_iadd dX13_played_22 ?_
      refine s_goto (t := 27) dX13_played_23 rfl ?_
      exact s_k (t_played_27 hC  F) ⟨rfl, rfl, trivial⟩

theorem m_played_run {C : rCx} (hC : cOK C) {Q : Int64 → rS → Prop} {a1 : Int32} {σ : rS} (F : w_played_0 C Q a1 σ) : cJ C 0 m_played [.ref (co C), .int a1] σ Q := m_J (m_ent _ 0) (t_played_0 hC F)

theorem dX13_keepWorth_0 : decode cX13_keepWorth 0 = .ok (.bipush 34, 2) := by decide +kernel
theorem dX13_keepWorth_2 : decode cX13_keepWorth 2 = .ok (.iload_n 1, 1) := by decide +kernel
theorem dX13_keepWorth_3 : decode cX13_keepWorth 3 = .ok (.imul, 1) := by decide +kernel
theorem dX13_keepWorth_4 : decode cX13_keepWorth 4 = .ok (.istore_n 2, 1) := by decide +kernel
theorem dX13_keepWorth_5 : decode cX13_keepWorth 5 = .ok (.aload_n 0, 1) := by decide +kernel
theorem dX13_keepWorth_6 : decode cX13_keepWorth 6 = .ok (.getfield 235, 3) := by decide +kernel
theorem dX13_keepWorth_9 : decode cX13_keepWorth 9 = .ok (.iload_n 1, 1) := by decide +kernel
theorem dX13_keepWorth_10 : decode cX13_keepWorth 10 = .ok (.aload_n 0, 1) := by decide +kernel
theorem dX13_keepWorth_11 : decode cX13_keepWorth 11 = .ok (.getfield 710, 3) := by decide +kernel
theorem dX13_keepWorth_14 : decode cX13_keepWorth 14 = .ok (.iastore, 1) := by decide +kernel
theorem dX13_keepWorth_15 : decode cX13_keepWorth 15 = .ok (.aload_n 0, 1) := by decide +kernel
theorem dX13_keepWorth_16 : decode cX13_keepWorth 16 = .ok (.getfield 232, 3) := by decide +kernel
theorem dX13_keepWorth_19 : decode cX13_keepWorth 19 = .ok (.iload_n 2, 1) := by decide +kernel
theorem dX13_keepWorth_20 : decode cX13_keepWorth 20 = .ok (.aload_n 0, 1) := by decide +kernel
theorem dX13_keepWorth_21 : decode cX13_keepWorth 21 = .ok (.getfield 188, 3) := by decide +kernel
theorem dX13_keepWorth_24 : decode cX13_keepWorth 24 = .ok (.iconst 4, 1) := by decide +kernel
theorem dX13_keepWorth_25 : decode cX13_keepWorth 25 = .ok (.iaload, 1) := by decide +kernel
theorem dX13_keepWorth_26 : decode cX13_keepWorth 26 = .ok (.iastore, 1) := by decide +kernel
theorem dX13_keepWorth_27 : decode cX13_keepWorth 27 = .ok (.aload_n 0, 1) := by decide +kernel
theorem dX13_keepWorth_28 : decode cX13_keepWorth 28 = .ok (.getfield 232, 3) := by decide +kernel
theorem dX13_keepWorth_31 : decode cX13_keepWorth 31 = .ok (.iload_n 2, 1) := by decide +kernel
theorem dX13_keepWorth_32 : decode cX13_keepWorth 32 = .ok (.bipush 17, 2) := by decide +kernel
theorem dX13_keepWorth_34 : decode cX13_keepWorth 34 = .ok (.iadd, 1) := by decide +kernel
theorem dX13_keepWorth_35 : decode cX13_keepWorth 35 = .ok (.aload_n 0, 1) := by decide +kernel
theorem dX13_keepWorth_36 : decode cX13_keepWorth 36 = .ok (.getfield 188, 3) := by decide +kernel
theorem dX13_keepWorth_39 : decode cX13_keepWorth 39 = .ok (.iconst 5, 1) := by decide +kernel
theorem dX13_keepWorth_40 : decode cX13_keepWorth 40 = .ok (.iaload, 1) := by decide +kernel
theorem dX13_keepWorth_41 : decode cX13_keepWorth 41 = .ok (.iastore, 1) := by decide +kernel
theorem dX13_keepWorth_42 : decode cX13_keepWorth 42 = .ok (.iconst 0, 1) := by decide +kernel
theorem dX13_keepWorth_43 : decode cX13_keepWorth 43 = .ok (.istore_n 3, 1) := by decide +kernel
theorem dX13_keepWorth_44 : decode cX13_keepWorth 44 = .ok (.iload_n 3, 1) := by decide +kernel
theorem dX13_keepWorth_45 : decode cX13_keepWorth 45 = .ok (.bipush 16, 2) := by decide +kernel
theorem dX13_keepWorth_47 : decode cX13_keepWorth 47 = .ok (.if_icmp .ge 78, 3) := by decide +kernel
theorem dX13_keepWorth_50 : decode cX13_keepWorth 50 = .ok (.aload_n 0, 1) := by decide +kernel
theorem dX13_keepWorth_51 : decode cX13_keepWorth 51 = .ok (.getfield 232, 3) := by decide +kernel
theorem dX13_keepWorth_54 : decode cX13_keepWorth 54 = .ok (.iload_n 2, 1) := by decide +kernel
theorem dX13_keepWorth_55 : decode cX13_keepWorth 55 = .ok (.iconst 1, 1) := by decide +kernel
theorem dX13_keepWorth_56 : decode cX13_keepWorth 56 = .ok (.iadd, 1) := by decide +kernel
theorem dX13_keepWorth_57 : decode cX13_keepWorth 57 = .ok (.iload_n 3, 1) := by decide +kernel
theorem dX13_keepWorth_58 : decode cX13_keepWorth 58 = .ok (.iadd, 1) := by decide +kernel
theorem dX13_keepWorth_59 : decode cX13_keepWorth 59 = .ok (.iload_n 3, 1) := by decide +kernel
theorem dX13_keepWorth_60 : decode cX13_keepWorth 60 = .ok (.aload_n 0, 1) := by decide +kernel
theorem dX13_keepWorth_61 : decode cX13_keepWorth 61 = .ok (.getfield 188, 3) := by decide +kernel
theorem dX13_keepWorth_64 : decode cX13_keepWorth 64 = .ok (.iconst 4, 1) := by decide +kernel
theorem dX13_keepWorth_65 : decode cX13_keepWorth 65 = .ok (.iaload, 1) := by decide +kernel
theorem dX13_keepWorth_66 : decode cX13_keepWorth 66 = .ok (.if_icmp .ge 16, 3) := by decide +kernel
theorem dX13_keepWorth_69 : decode cX13_keepWorth 69 = .ok (.aload_n 0, 1) := by decide +kernel
theorem dX13_keepWorth_70 : decode cX13_keepWorth 70 = .ok (.getfield 185, 3) := by decide +kernel
theorem dX13_keepWorth_73 : decode cX13_keepWorth 73 = .ok (.ldc_w 733, 3) := by decide +kernel
theorem dX13_keepWorth_76 : decode cX13_keepWorth 76 = .ok (.iload_n 3, 1) := by decide +kernel
theorem dX13_keepWorth_77 : decode cX13_keepWorth 77 = .ok (.iadd, 1) := by decide +kernel
theorem dX13_keepWorth_78 : decode cX13_keepWorth 78 = .ok (.iaload, 1) := by decide +kernel
theorem dX13_keepWorth_79 : decode cX13_keepWorth 79 = .ok (.goto 4, 3) := by decide +kernel
theorem dX13_keepWorth_82 : decode cX13_keepWorth 82 = .ok (.iconst 0, 1) := by decide +kernel
theorem dX13_keepWorth_83 : decode cX13_keepWorth 83 = .ok (.iastore, 1) := by decide +kernel
theorem dX13_keepWorth_84 : decode cX13_keepWorth 84 = .ok (.aload_n 0, 1) := by decide +kernel
theorem dX13_keepWorth_85 : decode cX13_keepWorth 85 = .ok (.getfield 232, 3) := by decide +kernel
theorem dX13_keepWorth_88 : decode cX13_keepWorth 88 = .ok (.iload_n 2, 1) := by decide +kernel
theorem dX13_keepWorth_89 : decode cX13_keepWorth 89 = .ok (.bipush 18, 2) := by decide +kernel
theorem dX13_keepWorth_91 : decode cX13_keepWorth 91 = .ok (.iadd, 1) := by decide +kernel
theorem dX13_keepWorth_92 : decode cX13_keepWorth 92 = .ok (.iload_n 3, 1) := by decide +kernel
theorem dX13_keepWorth_93 : decode cX13_keepWorth 93 = .ok (.iadd, 1) := by decide +kernel
theorem dX13_keepWorth_94 : decode cX13_keepWorth 94 = .ok (.iload_n 3, 1) := by decide +kernel
theorem dX13_keepWorth_95 : decode cX13_keepWorth 95 = .ok (.aload_n 0, 1) := by decide +kernel
theorem dX13_keepWorth_96 : decode cX13_keepWorth 96 = .ok (.getfield 188, 3) := by decide +kernel
theorem dX13_keepWorth_99 : decode cX13_keepWorth 99 = .ok (.iconst 5, 1) := by decide +kernel
theorem dX13_keepWorth_100 : decode cX13_keepWorth 100 = .ok (.iaload, 1) := by decide +kernel
theorem dX13_keepWorth_101 : decode cX13_keepWorth 101 = .ok (.if_icmp .ge 16, 3) := by decide +kernel
theorem dX13_keepWorth_104 : decode cX13_keepWorth 104 = .ok (.aload_n 0, 1) := by decide +kernel
theorem dX13_keepWorth_105 : decode cX13_keepWorth 105 = .ok (.getfield 185, 3) := by decide +kernel
theorem dX13_keepWorth_108 : decode cX13_keepWorth 108 = .ok (.ldc_w 734, 3) := by decide +kernel
theorem dX13_keepWorth_111 : decode cX13_keepWorth 111 = .ok (.iload_n 3, 1) := by decide +kernel
theorem dX13_keepWorth_112 : decode cX13_keepWorth 112 = .ok (.iadd, 1) := by decide +kernel
theorem dX13_keepWorth_113 : decode cX13_keepWorth 113 = .ok (.iaload, 1) := by decide +kernel
theorem dX13_keepWorth_114 : decode cX13_keepWorth 114 = .ok (.goto 4, 3) := by decide +kernel
theorem dX13_keepWorth_117 : decode cX13_keepWorth 117 = .ok (.iconst 0, 1) := by decide +kernel
theorem dX13_keepWorth_118 : decode cX13_keepWorth 118 = .ok (.iastore, 1) := by decide +kernel
theorem dX13_keepWorth_119 : decode cX13_keepWorth 119 = .ok (.iinc 3 1, 3) := by decide +kernel
theorem dX13_keepWorth_122 : decode cX13_keepWorth 122 = .ok (.goto (-78), 3) := by decide +kernel
theorem dX13_keepWorth_125 : decode cX13_keepWorth 125 = .ok (.return_, 1) := by decide +kernel
def w_keepWorth_118 (C : rCx) (Q : rS → Prop) (B44 : Int32 → Int32 → rS → Prop) (a2 : Int32) (a3 : Int32) (s1 : Int32) (s2 : Int32) (σ : rS) : Prop :=
  inb s1 34000 ∧
  ∀ σ1, σ1 = riU σ 117 (s1).toNatClampNeg s2 →
  ∀ v3_2 : Int32, v3_2 = a3 + (1 : Int32) →
  B44 a2 v3_2 σ1
theorem t_keepWorth_118 {C : rCx} (hC : cOK C) {Q : rS → Prop} {B44 : Int32 → Int32 → rS → Prop} (hB44 : ∀ a2' a3' τ, B44 a2' a3' τ → wG C 0 m_keepWorth 44 [some (.ref (co C)), none, some (.int a2'), some (.int a3')] [] τ (qV Q)) {a2 : Int32} {a3 : Int32} {s1 : Int32} {s2 : Int32} {σ : rS} (F : w_keepWorth_118 C Q B44 a2 a3 s1 s2 σ) : wG C 0 m_keepWorth 118 [some (.ref (co C)), none, some (.int a2), some (.int a3)] [.int s2, .int s1, .ref (cad C 117)] σ (qV Q) := by
  unfold w_keepWorth_118 at F
  refine s_astb hC dX13_keepWorth_118 rt_117 F.1 (fun σ1 eσ1 => ?_)
  replace F := F.2 σ1 eσ1
  refine s_incb dX13_keepWorth_119 ki_1 rfl (Nat.le_of_ble_eq_true rfl) (fun v3_2 ev3_2 => ?_)
  replace F := F v3_2 ev3_2
  show wG _ _ _ _ [some (.ref (co C)), none, some (.int a2), some (.int v3_2)] _ _ _
  refine s_goto (t := 44) dX13_keepWorth_122 rfl ?_
  exact s_k (hB44 _ _ _ F) ⟨rfl, rfl, rfl, trivial⟩

def w_keepWorth_83 (C : rCx) (Q : rS → Prop) (B44 : Int32 → Int32 → rS → Prop) (a2 : Int32) (a3 : Int32) (s1 : Int32) (s2 : Int32) (σ : rS) : Prop :=
  inb s1 34000 ∧
  ∀ σ1, σ1 = riU σ 117 (s1).toNatClampNeg s2 →
  inb (5 : Int32) 30 ∧
  ((σ1.2.2.1 91 ((5 : Int32)).toNatClampNeg) ≤ a3 →
    w_keepWorth_118 C Q B44 a2 a3 ((a2 + (18 : Int32)) + a3) (0 : Int32) σ1) ∧
  (¬ ((σ1.2.2.1 91 ((5 : Int32)).toNatClampNeg) ≤ a3) →
    inb ((200000 : Int32) + a3) 1200000 ∧
    w_keepWorth_118 C Q B44 a2 a3 ((a2 + (18 : Int32)) + a3) (σ1.2.2.1 90 (((200000 : Int32) + a3)).toNatClampNeg) σ1)
theorem t_keepWorth_83 {C : rCx} (hC : cOK C) {Q : rS → Prop} {B44 : Int32 → Int32 → rS → Prop} (hB44 : ∀ a2' a3' τ, B44 a2' a3' τ → wG C 0 m_keepWorth 44 [some (.ref (co C)), none, some (.int a2'), some (.int a3')] [] τ (qV Q)) {a2 : Int32} {a3 : Int32} {s1 : Int32} {s2 : Int32} {σ : rS} (F : w_keepWorth_83 C Q B44 a2 a3 s1 s2 σ) : wG C 0 m_keepWorth 83 [some (.ref (co C)), none, some (.int a2), some (.int a3)] [.int s2, .int s1, .ref (cad C 117)] σ (qV Q) := by
  unfold w_keepWorth_83 at F
  refine s_astb hC dX13_keepWorth_83 rt_117 F.1 (fun σ1 eσ1 => ?_)
  replace F := F.2 σ1 eσ1
  refine s_aln dX13_keepWorth_84 rfl ?_
  refine gf_232 dX13_keepWorth_85 rfl ?_
  refine s_iln dX13_keepWorth_88 rfl ?_
  refine s_bi dX13_keepWorth_89 kb_18 ?_
  refine s_iadd dX13_keepWorth_91 ?_
  refine s_iln dX13_keepWorth_92 rfl ?_
  refine s_iadd dX13_keepWorth_93 ?_
  refine s_iln dX13_keepWorth_94 rfl ?_
  refine s_aln dX13_keepWorth_95 rfl ?_
  refine gf_188 dX13_keepWorth_96 rfl ?_
  refine s_ic dX13_keepWorth_99 ki_5 ?_
  refine s_ald hC dX13_keepWorth_100 rt_91 F.1 ?_
  replace F := F.2
  refine s_ii (t := 117) ((σ1.2.2.1 91 ((5 : Int32)).toNatClampNeg) ≤ a3) dX13_keepWorth_101 rfl rfl (fun hc => ?_) (fun hc => ?_)
  · replace F := F.1 hc
    refine s_ic dX13_keepWorth_117 ki_0 ?_
    exact s_k (t_keepWorth_118 hC hB44 F) ⟨rfl, rfl, rfl, trivial⟩
  · replace F := F.2 hc
    refine s_aln dX13_keepWorth_104 rfl ?_
    refine gf_185 dX13_keepWorth_105 rfl ?_
    refine s_ldcw dX13_keepWorth_108 rfl cn_734 ?_
    refine s_iln dX13_keepWorth_111 rfl ?_
    refine s_iadd dX13_keepWorth_112 ?_
    refine s_ald hC dX13_keepWorth_113 rt_90 F.1 ?_
    replace F := F.2
    refine s_goto (t := 118) dX13_keepWorth_114 rfl ?_
    exact s_k (t_keepWorth_118 hC hB44 F) ⟨rfl, rfl, rfl, trivial⟩

def w_keepWorth_44 (C : rCx) (Q : rS → Prop)  (a2 : Int32) (a3 : Int32) (σ : rS) : Prop :=
  ∃ I : Nat → Int32 → Int32 → rS → Prop, (∃ n, I n a2 a3 σ) ∧ ∀ n a2 a3 σ, I n a2 a3 σ →
    ((16 : Int32) ≤ a3 →
      Q σ) ∧
    (¬ ((16 : Int32) ≤ a3) →
      inb (4 : Int32) 30 ∧
      ((σ.2.2.1 91 ((4 : Int32)).toNatClampNeg) ≤ a3 →
        w_keepWorth_83 C Q (fun a2' a3' τ => ∃ k < n, I k a2' a3' τ) a2 a3 ((a2 + (1 : Int32)) + a3) (0 : Int32) σ) ∧
      (¬ ((σ.2.2.1 91 ((4 : Int32)).toNatClampNeg) ≤ a3) →
        inb ((160000 : Int32) + a3) 1200000 ∧
        w_keepWorth_83 C Q (fun a2' a3' τ => ∃ k < n, I k a2' a3' τ) a2 a3 ((a2 + (1 : Int32)) + a3) (σ.2.2.1 90 (((160000 : Int32) + a3)).toNatClampNeg) σ))
theorem t_keepWorth_44 {C : rCx} (hC : cOK C) {Q : rS → Prop}   {a2 : Int32} {a3 : Int32} {σ : rS} (F : w_keepWorth_44 C Q  a2 a3 σ) : wG C 0 m_keepWorth 44 [some (.ref (co C)), none, some (.int a2), some (.int a3)] [] σ (qV Q) := by
  obtain ⟨I, ⟨n0, hI0⟩, F0⟩ := F
  have key : ∀ n a2 a3 σ, I n a2 a3 σ → wG C 0 m_keepWorth 44 [some (.ref (co C)), none, some (.int a2), some (.int a3)] [] σ (qV Q) := by
    intro n
    induction n using Nat.strongRecOn with
    | _ n ih =>
      intro a2 a3 σ hI
      have F := F0 n a2 a3 σ hI
      clear hI hI0
      refine s_iln dX13_keepWorth_44 rfl ?_
      refine s_bi dX13_keepWorth_45 kb_16 ?_
      refine s_ii (t := 125) ((16 : Int32) ≤ a3) dX13_keepWorth_47 rfl rfl (fun hc => ?_) (fun hc => ?_)
      · replace F := F.1 hc
        exact s_rv dX13_keepWorth_125 rfl F
      · replace F := F.2 hc
        refine s_aln dX13_keepWorth_50 rfl ?_
        refine gf_232 dX13_keepWorth_51 rfl ?_
        refine s_iln dX13_keepWorth_54 rfl ?_
        refine s_ic dX13_keepWorth_55 ki_1 ?_
        refine s_iadd dX13_keepWorth_56 ?_
        refine s_iln dX13_keepWorth_57 rfl ?_
        refine s_iadd dX13_keepWorth_58 ?_
        refine s_iln dX13_keepWorth_59 rfl ?_
        refine s_aln dX13_keepWorth_60 rfl ?_
        refine gf_188 dX13_keepWorth_61 rfl ?_
        refine s_ic dX13_keepWorth_64 ki_4 ?_
        refine s_ald hC dX13_keepWorth_65 rt_91 F.1 ?_
        replace F := F.2
        refine s_ii (t := 82) ((σ.2.2.1 91 ((4 : Int32)).toNatClampNeg) ≤ a3) dX13_keepWorth_66 rfl rfl (fun hc => ?_) (fun hc => ?_)
        · replace F := F.1 hc
          refine s_ic dX13_keepWorth_82 ki_0 ?_
          exact s_k (t_keepWorth_83 hC (fun a2' a3' τ hb => by obtain ⟨k, hk, hI⟩ := hb; exact ih k hk a2' a3' τ hI) F) ⟨rfl, rfl, rfl, trivial⟩
        · replace F := F.2 hc
          refine s_aln dX13_keepWorth_69 rfl ?_
          refine gf_185 dX13_keepWorth_70 rfl ?_
          refine s_ldcw dX13_keepWorth_73 rfl cn_733 ?_
          refine s_iln dX13_keepWorth_76 rfl ?_
          refine s_iadd dX13_keepWorth_77 ?_
          refine s_ald hC dX13_keepWorth_78 rt_90 F.1 ?_
          replace F := F.2
          refine s_goto (t := 83) dX13_keepWorth_79 rfl ?_
          exact s_k (t_keepWorth_83 hC (fun a2' a3' τ hb => by obtain ⟨k, hk, hI⟩ := hb; exact ih k hk a2' a3' τ hI) F) ⟨rfl, rfl, rfl, trivial⟩
  exact key n0 a2 a3 σ hI0

def w_keepWorth_0 (C : rCx) (Q : rS → Prop)  (a1 : Int32) (σ : rS) : Prop :=
  ∀ v2_1 : Int32, v2_1 = ((34 : Int32) * a1) →
  inb a1 1000 ∧
  ∀ σ2, σ2 = riU σ 118 (a1).toNatClampNeg (σ.1 92) →
  inb (4 : Int32) 30 ∧
  inb v2_1 34000 ∧
  ∀ σ3, σ3 = riU σ2 117 (v2_1).toNatClampNeg (σ2.2.2.1 91 ((4 : Int32)).toNatClampNeg) →
  inb (5 : Int32) 30 ∧
  inb (v2_1 + (17 : Int32)) 34000 ∧
  ∀ σ4, σ4 = riU σ3 117 ((v2_1 + (17 : Int32))).toNatClampNeg (σ3.2.2.1 91 ((5 : Int32)).toNatClampNeg) →
  w_keepWorth_44 C Q  v2_1 (0 : Int32) σ4
theorem t_keepWorth_0 {C : rCx} (hC : cOK C) {Q : rS → Prop}   {a1 : Int32} {σ : rS} (F : w_keepWorth_0 C Q  a1 σ) : wG C 0 m_keepWorth 0 [some (.ref (co C)), some (.int a1), none, none] [] σ (qV Q) := by
  unfold w_keepWorth_0 at F
  refine s_bi dX13_keepWorth_0 kb_34 ?_
  refine s_iln dX13_keepWorth_2 rfl ?_
  refine s_imul dX13_keepWorth_3 ?_
  refine s_isnb dX13_keepWorth_4 (Nat.le_of_ble_eq_true rfl) (fun v2_1 ev2_1 => ?_)
  replace F := F v2_1 ev2_1
  show wG _ _ _ _ [some (.ref (co C)), some (.int a1), some (.int v2_1), none] _ _ _
  refine s_aln dX13_keepWorth_5 rfl ?_
  refine gf_235 dX13_keepWorth_6 rfl ?_
  refine s_iln dX13_keepWorth_9 rfl ?_
  refine s_aln dX13_keepWorth_10 rfl ?_
  refine gf_710 dX13_keepWorth_11 rfl ?_
  refine s_astb hC dX13_keepWorth_14 rt_118 F.1 (fun σ2 eσ2 => ?_)
  replace F := F.2 σ2 eσ2
  refine s_aln dX13_keepWorth_15 rfl ?_
  refine gf_232 dX13_keepWorth_16 rfl ?_
  refine s_iln dX13_keepWorth_19 rfl ?_
  refine s_aln dX13_keepWorth_20 rfl ?_
  refine gf_188 dX13_keepWorth_21 rfl ?_
  refine s_ic dX13_keepWorth_24 ki_4 ?_
  refine s_ald hC dX13_keepWorth_25 rt_91 F.1 ?_
  replace F := F.2
  refine s_astb hC dX13_keepWorth_26 rt_117 F.1 (fun σ3 eσ3 => ?_)
  replace F := F.2 σ3 eσ3
  refine s_aln dX13_keepWorth_27 rfl ?_
  refine gf_232 dX13_keepWorth_28 rfl ?_
  refine s_iln dX13_keepWorth_31 rfl ?_
  refine s_bi dX13_keepWorth_32 kb_17 ?_
  refine s_iadd dX13_keepWorth_34 ?_
  refine s_aln dX13_keepWorth_35 rfl ?_
  refine gf_188 dX13_keepWorth_36 rfl ?_
  refine s_ic dX13_keepWorth_39 ki_5 ?_
  refine s_ald hC dX13_keepWorth_40 rt_91 F.1 ?_
  replace F := F.2
  refine s_astb hC dX13_keepWorth_41 rt_117 F.1 (fun σ4 eσ4 => ?_)
  replace F := F.2 σ4 eσ4
  refine s_ic dX13_keepWorth_42 ki_0 ?_
  refine s_isn dX13_keepWorth_43 (Nat.le_of_ble_eq_true rfl) rfl ?_
  show wG _ _ _ _ [some (.ref (co C)), some (.int a1), some (.int v2_1), some (.int (0 : Int32))] _ _ _
  exact s_k (t_keepWorth_44 hC  F) ⟨rfl, rfl, rfl, trivial⟩

theorem m_keepWorth_run {C : rCx} (hC : cOK C) {Q : rS → Prop} {a1 : Int32} {σ : rS} (F : w_keepWorth_0 C Q a1 σ) : cV C 0 m_keepWorth [.ref (co C), .int a1] σ Q := m_V (m_ent _ 2) (t_keepWorth_0 hC F)

theorem dX13_loadNext_0 : decode cX13_loadNext 0 = .ok (.aload_n 0, 1) := by decide +kernel
theorem dX13_loadNext_1 : decode cX13_loadNext 1 = .ok (.getfield 154, 3) := by decide +kernel
theorem dX13_loadNext_4 : decode cX13_loadNext 4 = .ok (.iload_n 1, 1) := by decide +kernel
theorem dX13_loadNext_5 : decode cX13_loadNext 5 = .ok (.iaload, 1) := by decide +kernel
theorem dX13_loadNext_6 : decode cX13_loadNext 6 = .ok (.ifCond .ne 29, 3) := by decide +kernel
theorem dX13_loadNext_9 : decode cX13_loadNext 9 = .ok (.aload_n 0, 1) := by decide +kernel
theorem dX13_loadNext_10 : decode cX13_loadNext 10 = .ok (.aload_n 0, 1) := by decide +kernel
theorem dX13_loadNext_11 : decode cX13_loadNext 11 = .ok (.getfield 232, 3) := by decide +kernel
theorem dX13_loadNext_14 : decode cX13_loadNext 14 = .ok (.aload_n 0, 1) := by decide +kernel
theorem dX13_loadNext_15 : decode cX13_loadNext 15 = .ok (.getfield 157, 3) := by decide +kernel
theorem dX13_loadNext_18 : decode cX13_loadNext 18 = .ok (.iload_n 1, 1) := by decide +kernel
theorem dX13_loadNext_19 : decode cX13_loadNext 19 = .ok (.iaload, 1) := by decide +kernel
theorem dX13_loadNext_20 : decode cX13_loadNext 20 = .ok (.invokevirtual 817, 3) := by decide +kernel
theorem dX13_loadNext_23 : decode cX13_loadNext 23 = .ok (.aload_n 0, 1) := by decide +kernel
theorem dX13_loadNext_24 : decode cX13_loadNext 24 = .ok (.getfield 235, 3) := by decide +kernel
theorem dX13_loadNext_27 : decode cX13_loadNext 27 = .ok (.aload_n 0, 1) := by decide +kernel
theorem dX13_loadNext_28 : decode cX13_loadNext 28 = .ok (.getfield 157, 3) := by decide +kernel
theorem dX13_loadNext_31 : decode cX13_loadNext 31 = .ok (.iload_n 1, 1) := by decide +kernel
theorem dX13_loadNext_32 : decode cX13_loadNext 32 = .ok (.iaload, 1) := by decide +kernel
theorem dX13_loadNext_33 : decode cX13_loadNext 33 = .ok (.iaload, 1) := by decide +kernel
theorem dX13_loadNext_34 : decode cX13_loadNext 34 = .ok (.ireturn, 1) := by decide +kernel
theorem dX13_loadNext_35 : decode cX13_loadNext 35 = .ok (.aload_n 0, 1) := by decide +kernel
theorem dX13_loadNext_36 : decode cX13_loadNext 36 = .ok (.bipush 6, 2) := by decide +kernel
theorem dX13_loadNext_38 : decode cX13_loadNext 38 = .ok (.lconst 0, 1) := by decide +kernel
theorem dX13_loadNext_39 : decode cX13_loadNext 39 = .ok (.invokevirtual 699, 3) := by decide +kernel
theorem dX13_loadNext_42 : decode cX13_loadNext 42 = .ok (.aload_n 0, 1) := by decide +kernel
theorem dX13_loadNext_43 : decode cX13_loadNext 43 = .ok (.bipush 7, 2) := by decide +kernel
theorem dX13_loadNext_45 : decode cX13_loadNext 45 = .ok (.lconst 1, 1) := by decide +kernel
theorem dX13_loadNext_46 : decode cX13_loadNext 46 = .ok (.invokevirtual 699, 3) := by decide +kernel
theorem dX13_loadNext_49 : decode cX13_loadNext 49 = .ok (.iconst 1, 1) := by decide +kernel
theorem dX13_loadNext_50 : decode cX13_loadNext 50 = .ok (.ireturn, 1) := by decide +kernel
def w_loadNext_0 (C : rCx) (Q : Int32 → rS → Prop)  (a1 : Int32) (σ : rS) : Prop :=
  inb a1 20000 ∧
  (¬ ((σ.2.2.1 77 (a1).toNatClampNeg) = 0) →
    cV C 0 m_set [.ref (co C), .int (6 : Int32), .long (0 : Int64)] σ (fun σ1 =>
      cV C 0 m_set [.ref (co C), .int (7 : Int32), .long (1 : Int64)] σ1 (fun σ3 =>
        Q (1 : Int32) σ3))) ∧
  ((σ.2.2.1 77 (a1).toNatClampNeg) = 0 →
    inb a1 20000 ∧
    cV C 0 m_loadWorth [.ref (co C), .ref (cad C 117), .int (σ.2.2.1 78 (a1).toNatClampNeg)] σ (fun σ5 =>
      inb a1 20000 ∧
      inb (σ5.2.2.1 78 (a1).toNatClampNeg) 1000 ∧
      Q (σ5.2.2.1 118 ((σ5.2.2.1 78 (a1).toNatClampNeg)).toNatClampNeg) σ5))
theorem t_loadNext_0 {C : rCx} (hC : cOK C) {Q : Int32 → rS → Prop}   {a1 : Int32} {σ : rS} (F : w_loadNext_0 C Q  a1 σ) : wG C 1 m_loadNext 0 [some (.ref (co C)), some (.int a1)] [] σ (qI Q) := by
  unfold w_loadNext_0 at F
  refine s_aln dX13_loadNext_0 rfl ?_
  refine gf_154 dX13_loadNext_1 rfl ?_
  refine s_iln dX13_loadNext_4 rfl ?_
  refine s_ald hC dX13_loadNext_5 rt_77 F.1 ?_
  replace F := F.2
  refine s_in (t := 35) ((σ.2.2.1 77 (a1).toNatClampNeg) = 0) dX13_loadNext_6 rfl rfl (fun hc => ?_) (fun hc => ?_)
  · replace F := F.1 hc
    refine s_aln dX13_loadNext_35 rfl ?_
    refine s_bi dX13_loadNext_36 kb_6 ?_
    refine s_lc dX13_loadNext_38 kl_0 ?_
    refine k_699 dX13_loadNext_39 rfl (Nat.le_of_ble_eq_true rfl) (Nat.le_of_ble_eq_true rfl) F (fun σ1 F => ?_)
    refine s_aln dX13_loadNext_42 rfl ?_
    refine s_bi dX13_loadNext_43 kb_7 ?_
    refine s_lc dX13_loadNext_45 kl_1 ?_
    refine k_699 dX13_loadNext_46 rfl (Nat.le_of_ble_eq_true rfl) (Nat.le_of_ble_eq_true rfl) F (fun σ3 F => ?_)
    refine s_ic dX13_loadNext_49 ki_1 ?_
    exact s_ri dX13_loadNext_50 rfl in_nar F
  · replace F := F.2 hc
    refine s_aln dX13_loadNext_9 rfl ?_
    refine s_aln dX13_loadNext_10 rfl ?_
    refine gf_232 dX13_loadNext_11 rfl ?_
    refine s_aln dX13_loadNext_14 rfl ?_
    refine gf_157 dX13_loadNext_15 rfl ?_
    refine s_iln dX13_loadNext_18 rfl ?_
    refine s_ald hC dX13_loadNext_19 rt_78 F.1 ?_
    replace F := F.2
    refine k_817 dX13_loadNext_20 rfl (Nat.le_of_ble_eq_true rfl) (Nat.le_of_ble_eq_true rfl) F (fun σ5 F => ?_)
    refine s_aln dX13_loadNext_23 rfl ?_
    refine gf_235 dX13_loadNext_24 rfl ?_
    refine s_aln dX13_loadNext_27 rfl ?_
    refine gf_157 dX13_loadNext_28 rfl ?_
    refine s_iln dX13_loadNext_31 rfl ?_
    refine s_ald hC dX13_loadNext_32 rt_78 F.1 ?_
    replace F := F.2
    refine s_ald hC dX13_loadNext_33 rt_118 F.1 ?_
    replace F := F.2
    exact s_ri dX13_loadNext_34 rfl in_nar F

theorem m_loadNext_run {C : rCx} (hC : cOK C) {Q : Int32 → rS → Prop} {a1 : Int32} {σ : rS} (F : w_loadNext_0 C Q a1 σ) : cI C 1 m_loadNext [.ref (co C), .int a1] σ Q := m_I (m_ent _ 0) (t_loadNext_0 hC F)

theorem dX13_isWorthDone_0 : decode cX13_isWorthDone 0 = .ok (.iconst 1, 1) := by decide +kernel
theorem dX13_isWorthDone_1 : decode cX13_isWorthDone 1 = .ok (.istore_n 2, 1) := by decide +kernel
theorem dX13_isWorthDone_2 : decode cX13_isWorthDone 2 = .ok (.aload_n 0, 1) := by decide +kernel
theorem dX13_isWorthDone_3 : decode cX13_isWorthDone 3 = .ok (.getfield 151, 3) := by decide +kernel
theorem dX13_isWorthDone_6 : decode cX13_isWorthDone 6 = .ok (.iload_n 1, 1) := by decide +kernel
theorem dX13_isWorthDone_7 : decode cX13_isWorthDone 7 = .ok (.iaload, 1) := by decide +kernel
theorem dX13_isWorthDone_8 : decode cX13_isWorthDone 8 = .ok (.istore_n 3, 1) := by decide +kernel
theorem dX13_isWorthDone_9 : decode cX13_isWorthDone 9 = .ok (.iload_n 3, 1) := by decide +kernel
theorem dX13_isWorthDone_10 : decode cX13_isWorthDone 10 = .ok (.aload_n 0, 1) := by decide +kernel
theorem dX13_isWorthDone_11 : decode cX13_isWorthDone 11 = .ok (.getfield 151, 3) := by decide +kernel
theorem dX13_isWorthDone_14 : decode cX13_isWorthDone 14 = .ok (.iload_n 1, 1) := by decide +kernel
theorem dX13_isWorthDone_15 : decode cX13_isWorthDone 15 = .ok (.iconst 1, 1) := by decide +kernel
theorem dX13_isWorthDone_16 : decode cX13_isWorthDone 16 = .ok (.iadd, 1) := by decide +kernel
theorem dX13_isWorthDone_17 : decode cX13_isWorthDone 17 = .ok (.iaload, 1) := by decide +kernel
theorem dX13_isWorthDone_18 : decode cX13_isWorthDone 18 = .ok (.if_icmp .ge 42, 3) := by decide +kernel
theorem dX13_isWorthDone_21 : decode cX13_isWorthDone 21 = .ok (.iload_n 2, 1) := by decide +kernel
theorem dX13_isWorthDone_22 : decode cX13_isWorthDone 22 = .ok (.ifCond .eq 30, 3) := by decide +kernel
theorem dX13_isWorthDone_25 : decode cX13_isWorthDone 25 = .ok (.aload_n 0, 1) := by decide +kernel
theorem dX13_isWorthDone_26 : decode cX13_isWorthDone 26 = .ok (.getfield 154, 3) := by decide +kernel
theorem dX13_isWorthDone_29 : decode cX13_isWorthDone 29 = .ok (.iload_n 3, 1) := by decide +kernel
theorem dX13_isWorthDone_30 : decode cX13_isWorthDone 30 = .ok (.iaload, 1) := by decide +kernel
theorem dX13_isWorthDone_31 : decode cX13_isWorthDone 31 = .ok (.ifCond .ne 17, 3) := by decide +kernel
theorem dX13_isWorthDone_34 : decode cX13_isWorthDone 34 = .ok (.aload_n 0, 1) := by decide +kernel
theorem dX13_isWorthDone_35 : decode cX13_isWorthDone 35 = .ok (.getfield 198, 3) := by decide +kernel
theorem dX13_isWorthDone_38 : decode cX13_isWorthDone 38 = .ok (.aload_n 0, 1) := by decide +kernel
theorem dX13_isWorthDone_39 : decode cX13_isWorthDone 39 = .ok (.getfield 157, 3) := by decide +kernel
theorem dX13_isWorthDone_42 : decode cX13_isWorthDone 42 = .ok (.iload_n 3, 1) := by decide +kernel
theorem dX13_isWorthDone_43 : decode cX13_isWorthDone 43 = .ok (.iaload, 1) := by decide +kernel
theorem dX13_isWorthDone_44 : decode cX13_isWorthDone 44 = .ok (.baload, 1) := by decide +kernel
theorem dX13_isWorthDone_45 : decode cX13_isWorthDone 45 = .ok (.ifCond .eq 7, 3) := by decide +kernel
theorem dX13_isWorthDone_48 : decode cX13_isWorthDone 48 = .ok (.iconst 1, 1) := by decide +kernel
theorem dX13_isWorthDone_49 : decode cX13_isWorthDone 49 = .ok (.goto 4, 3) := by decide +kernel
theorem dX13_isWorthDone_52 : decode cX13_isWorthDone 52 = .ok (.iconst 0, 1) := by decide +kernel
theorem dX13_isWorthDone_53 : decode cX13_isWorthDone 53 = .ok (.istore_n 2, 1) := by decide +kernel
theorem dX13_isWorthDone_54 : decode cX13_isWorthDone 54 = .ok (.iinc 3 1, 3) := by decide +kernel
theorem dX13_isWorthDone_57 : decode cX13_isWorthDone 57 = .ok (.goto (-48), 3) := by decide +kernel
theorem dX13_isWorthDone_60 : decode cX13_isWorthDone 60 = .ok (.iload_n 2, 1) := by decide +kernel
theorem dX13_isWorthDone_61 : decode cX13_isWorthDone 61 = .ok (.ireturn, 1) := by decide +kernel
def w_isWorthDone_53 (C : rCx) (Q : Int32 → rS → Prop) (B9 : Int32 → Int32 → Int32 → rS → Prop) (a1 : Int32) (a3 : Int32) (s0 : Int32) (σ : rS) : Prop :=
  ∀ v3_1 : Int32, v3_1 = a3 + (1 : Int32) →
  B9 a1 s0 v3_1 σ
theorem t_isWorthDone_53 {C : rCx} (hC : cOK C) {Q : Int32 → rS → Prop} {B9 : Int32 → Int32 → Int32 → rS → Prop} (hB9 : ∀ a1' a2' a3' τ, B9 a1' a2' a3' τ → wG C 0 m_isWorthDone 9 [some (.ref (co C)), some (.int a1'), some (.int a2'), some (.int a3')] [] τ (qI Q)) {a1 : Int32} {a3 : Int32} {s0 : Int32} {σ : rS} (F : w_isWorthDone_53 C Q B9 a1 a3 s0 σ) : wG C 0 m_isWorthDone 53 [some (.ref (co C)), some (.int a1), none, some (.int a3)] [.int s0] σ (qI Q) := by
  unfold w_isWorthDone_53 at F
  refine s_isn dX13_isWorthDone_53 (Nat.le_of_ble_eq_true rfl) rfl ?_
  show wG _ _ _ _ [some (.ref (co C)), some (.int a1), some (.int s0), some (.int a3)] _ _ _
  refine s_incb dX13_isWorthDone_54 ki_1 rfl (Nat.le_of_ble_eq_true rfl) (fun v3_1 ev3_1 => ?_)
  replace F := F v3_1 ev3_1
  show wG _ _ _ _ [some (.ref (co C)), some (.int a1), some (.int s0), some (.int v3_1)] _ _ _
  refine s_goto (t := 9) dX13_isWorthDone_57 rfl ?_
  exact s_k (hB9 _ _ _ _ F) ⟨rfl, rfl, rfl, rfl, trivial⟩

def w_isWorthDone_9 (C : rCx) (Q : Int32 → rS → Prop)  (a1 : Int32) (a2 : Int32) (a3 : Int32) (σ : rS) : Prop :=
  ∃ I : Nat → Int32 → Int32 → Int32 → rS → Prop, (∃ n, I n a1 a2 a3 σ) ∧ ∀ n a1 a2 a3 σ, I n a1 a2 a3 σ →
    inb (a1 + (1 : Int32)) 1001 ∧
    ((σ.2.2.1 76 ((a1 + (1 : Int32))).toNatClampNeg) ≤ a3 →
      nb a2 ∧ Q a2 σ) ∧
    (¬ ((σ.2.2.1 76 ((a1 + (1 : Int32))).toNatClampNeg) ≤ a3) →
      (a2 = 0 →
        w_isWorthDone_53 C Q (fun a1' a2' a3' τ => ∃ k < n, I k a1' a2' a3' τ) a1 a3 (0 : Int32) σ) ∧
      (¬ (a2 = 0) →
        inb a3 20000 ∧
        (¬ ((σ.2.2.1 77 (a3).toNatClampNeg) = 0) →
          w_isWorthDone_53 C Q (fun a1' a2' a3' τ => ∃ k < n, I k a1' a2' a3' τ) a1 a3 (1 : Int32) σ) ∧
        ((σ.2.2.1 77 (a3).toNatClampNeg) = 0 →
          inb a3 20000 ∧
          inb (σ.2.2.1 78 (a3).toNatClampNeg) 1000 ∧
          ((σ.2.2.1 96 ((σ.2.2.1 78 (a3).toNatClampNeg)).toNatClampNeg) = 0 →
            w_isWorthDone_53 C Q (fun a1' a2' a3' τ => ∃ k < n, I k a1' a2' a3' τ) a1 a3 (0 : Int32) σ) ∧
          (¬ ((σ.2.2.1 96 ((σ.2.2.1 78 (a3).toNatClampNeg)).toNatClampNeg) = 0) →
            w_isWorthDone_53 C Q (fun a1' a2' a3' τ => ∃ k < n, I k a1' a2' a3' τ) a1 a3 (1 : Int32) σ))))
theorem t_isWorthDone_9 {C : rCx} (hC : cOK C) {Q : Int32 → rS → Prop}   {a1 : Int32} {a2 : Int32} {a3 : Int32} {σ : rS} (F : w_isWorthDone_9 C Q  a1 a2 a3 σ) : wG C 0 m_isWorthDone 9 [some (.ref (co C)), some (.int a1), some (.int a2), some (.int a3)] [] σ (qI Q) := by
  obtain ⟨I, ⟨n0, hI0⟩, F0⟩ := F
  have key : ∀ n a1 a2 a3 σ, I n a1 a2 a3 σ → wG C 0 m_isWorthDone 9 [some (.ref (co C)), some (.int a1), some (.int a2), some (.int a3)] [] σ (qI Q) := by
    intro n
    induction n using Nat.strongRecOn with
    | _ n ih =>
      intro a1 a2 a3 σ hI
      have F := F0 n a1 a2 a3 σ hI
      clear hI hI0
      refine s_iln dX13_isWorthDone_9 rfl ?_
      refine s_aln dX13_isWorthDone_10 rfl ?_
      refine gf_151 dX13_isWorthDone_11 rfl ?_
      refine s_iln dX13_isWorthDone_14 rfl ?_
      refine s_ic dX13_isWorthDone_15 ki_1 ?_
      refine s_iadd dX13_isWorthDone_16 ?_
      refine s_ald hC dX13_isWorthDone_17 rt_76 F.1 ?_
      replace F := F.2
      refine s_ii (t := 60) ((σ.2.2.1 76 ((a1 + (1 : Int32))).toNatClampNeg) ≤ a3) dX13_isWorthDone_18 rfl rfl (fun hc => ?_) (fun hc => ?_)
      · replace F := F.1 hc
        refine s_iln dX13_isWorthDone_60 rfl ?_
        exact s_ri dX13_isWorthDone_61 rfl (nb_nar F.1) F.2
      · replace F := F.2 hc
        refine s_iln dX13_isWorthDone_21 rfl ?_
        refine s_i (t := 52) (a2 = 0) dX13_isWorthDone_22 rfl rfl (fun hc => ?_) (fun hc => ?_)
        · replace F := F.1 hc
          refine s_ic dX13_isWorthDone_52 ki_0 ?_
          exact s_k (t_isWorthDone_53 hC (fun a1' a2' a3' τ hb => by obtain ⟨k, hk, hI⟩ := hb; exact ih k hk a1' a2' a3' τ hI) F) ⟨rfl, rfl, rfl, trivial⟩
        · replace F := F.2 hc
          refine s_aln dX13_isWorthDone_25 rfl ?_
          refine gf_154 dX13_isWorthDone_26 rfl ?_
          refine s_iln dX13_isWorthDone_29 rfl ?_
          refine s_ald hC dX13_isWorthDone_30 rt_77 F.1 ?_
          replace F := F.2
          refine s_in (t := 48) ((σ.2.2.1 77 (a3).toNatClampNeg) = 0) dX13_isWorthDone_31 rfl rfl (fun hc => ?_) (fun hc => ?_)
          · replace F := F.1 hc
            refine s_ic dX13_isWorthDone_48 ki_1 ?_
            refine s_goto (t := 53) dX13_isWorthDone_49 rfl ?_
            exact s_k (t_isWorthDone_53 hC (fun a1' a2' a3' τ hb => by obtain ⟨k, hk, hI⟩ := hb; exact ih k hk a1' a2' a3' τ hI) F) ⟨rfl, rfl, rfl, trivial⟩
          · replace F := F.2 hc
            refine s_aln dX13_isWorthDone_34 rfl ?_
            refine gf_198 dX13_isWorthDone_35 rfl ?_
            refine s_aln dX13_isWorthDone_38 rfl ?_
            refine gf_157 dX13_isWorthDone_39 rfl ?_
            refine s_iln dX13_isWorthDone_42 rfl ?_
            refine s_ald hC dX13_isWorthDone_43 rt_78 F.1 ?_
            replace F := F.2
            refine s_zld hC dX13_isWorthDone_44 rt_96 F.1 ?_
            replace F := F.2
            refine s_i (t := 52) ((σ.2.2.1 96 ((σ.2.2.1 78 (a3).toNatClampNeg)).toNatClampNeg) = 0) dX13_isWorthDone_45 rfl rfl (fun hc => ?_) (fun hc => ?_)
            · replace F := F.1 hc
              refine s_ic dX13_isWorthDone_52 ki_0 ?_
              exact s_k (t_isWorthDone_53 hC (fun a1' a2' a3' τ hb => by obtain ⟨k, hk, hI⟩ := hb; exact ih k hk a1' a2' a3' τ hI) F) ⟨rfl, rfl, rfl, trivial⟩
            · replace F := F.2 hc
              refine s_ic dX13_isWorthDone_48 ki_1 ?_
              refine s_goto (t := 53) dX13_isWorthDone_49 rfl ?_
              exact s_k (t_isWorthDone_53 hC (fun a1' a2' a3' τ hb => by obtain ⟨k, hk, hI⟩ := hb; exact ih k hk a1' a2' a3' τ hI) F) ⟨rfl, rfl, rfl, trivial⟩
  exact key n0 a1 a2 a3 σ hI0

def w_isWorthDone_0 (C : rCx) (Q : Int32 → rS → Prop)  (a1 : Int32) (σ : rS) : Prop :=
  inb a1 1001 ∧
  ∀ v3_1 : Int32, v3_1 = (σ.2.2.1 76 (a1).toNatClampNeg) →
  w_isWorthDone_9 C Q  a1 (1 : Int32) v3_1 σ
theorem t_isWorthDone_0 {C : rCx} (hC : cOK C) {Q : Int32 → rS → Prop}   {a1 : Int32} {σ : rS} (F : w_isWorthDone_0 C Q  a1 σ) : wG C 0 m_isWorthDone 0 [some (.ref (co C)), some (.int a1), none, none] [] σ (qI Q) := by
  unfold w_isWorthDone_0 at F
  refine s_ic dX13_isWorthDone_0 ki_1 ?_
  refine s_isn dX13_isWorthDone_1 (Nat.le_of_ble_eq_true rfl) rfl ?_
  show wG _ _ _ _ [some (.ref (co C)), some (.int a1), some (.int (1 : Int32)), none] _ _ _
  refine s_aln dX13_isWorthDone_2 rfl ?_
  refine gf_151 dX13_isWorthDone_3 rfl ?_
  refine s_iln dX13_isWorthDone_6 rfl ?_
  refine s_ald hC dX13_isWorthDone_7 rt_76 F.1 ?_
  replace F := F.2
  refine s_isnb dX13_isWorthDone_8 (Nat.le_of_ble_eq_true rfl) (fun v3_1 ev3_1 => ?_)
  replace F := F v3_1 ev3_1
  show wG _ _ _ _ [some (.ref (co C)), some (.int a1), some (.int (1 : Int32)), some (.int v3_1)] _ _ _
  exact s_k (t_isWorthDone_9 hC  F) ⟨rfl, rfl, rfl, rfl, trivial⟩

theorem m_isWorthDone_run {C : rCx} (hC : cOK C) {Q : Int32 → rS → Prop} {a1 : Int32} {σ : rS} (F : w_isWorthDone_0 C Q a1 σ) : cI C 0 m_isWorthDone [.ref (co C), .int a1] σ Q := m_I (m_ent _ 2) (t_isWorthDone_0 hC F)

theorem dX13_isGreater_0 : decode cX13_isGreater 0 = .ok (.aload_n 0, 1) := by decide +kernel
theorem dX13_isGreater_1 : decode cX13_isGreater 1 = .ok (.iload_n 1, 1) := by decide +kernel
theorem dX13_isGreater_2 : decode cX13_isGreater 2 = .ok (.invokevirtual 864, 3) := by decide +kernel
theorem dX13_isGreater_5 : decode cX13_isGreater 5 = .ok (.istore_n 2, 1) := by decide +kernel
theorem dX13_isGreater_6 : decode cX13_isGreater 6 = .ok (.aload_n 0, 1) := by decide +kernel
theorem dX13_isGreater_7 : decode cX13_isGreater 7 = .ok (.bipush 6, 2) := by decide +kernel
theorem dX13_isGreater_9 : decode cX13_isGreater 9 = .ok (.invokevirtual 696, 3) := by decide +kernel
theorem dX13_isGreater_12 : decode cX13_isGreater 12 = .ok (.ifCond .eq 7, 3) := by decide +kernel
theorem dX13_isGreater_15 : decode cX13_isGreater 15 = .ok (.iconst 0, 1) := by decide +kernel
theorem dX13_isGreater_16 : decode cX13_isGreater 16 = .ok (.goto 4, 3) := by decide +kernel
theorem dX13_isGreater_19 : decode cX13_isGreater 19 = .ok (.iload_n 2, 1) := by decide +kernel
theorem dX13_isGreater_20 : decode cX13_isGreater 20 = .ok (.istore_n 2, 1) := by decide +kernel
theorem dX13_isGreater_21 : decode cX13_isGreater 21 = .ok (.aload_n 0, 1) := by decide +kernel
theorem dX13_isGreater_22 : decode cX13_isGreater 22 = .ok (.iconst 4, 1) := by decide +kernel
theorem dX13_isGreater_23 : decode cX13_isGreater 23 = .ok (.invokevirtual 696, 3) := by decide +kernel
theorem dX13_isGreater_26 : decode cX13_isGreater 26 = .ok (.ifCond .eq 7, 3) := by decide +kernel
theorem dX13_isGreater_29 : decode cX13_isGreater 29 = .ok (.iconst 0, 1) := by decide +kernel
theorem dX13_isGreater_30 : decode cX13_isGreater 30 = .ok (.goto 7, 3) := by decide +kernel
theorem dX13_isGreater_33 : decode cX13_isGreater 33 = .ok (.aload_n 0, 1) := by decide +kernel
theorem dX13_isGreater_34 : decode cX13_isGreater 34 = .ok (.getfield 710, 3) := by decide +kernel
theorem dX13_isGreater_37 : decode cX13_isGreater 37 = .ok (.istore_n 3, 1) := by decide +kernel
theorem dX13_isGreater_38 : decode cX13_isGreater 38 = .ok (.iload_n 2, 1) := by decide +kernel
theorem dX13_isGreater_39 : decode cX13_isGreater 39 = .ok (.iload_n 3, 1) := by decide +kernel
theorem dX13_isGreater_40 : decode cX13_isGreater 40 = .ok (.if_icmp .eq 14, 3) := by decide +kernel
theorem dX13_isGreater_43 : decode cX13_isGreater 43 = .ok (.iload_n 2, 1) := by decide +kernel
theorem dX13_isGreater_44 : decode cX13_isGreater 44 = .ok (.iload_n 3, 1) := by decide +kernel
theorem dX13_isGreater_45 : decode cX13_isGreater 45 = .ok (.if_icmp .le 7, 3) := by decide +kernel
theorem dX13_isGreater_48 : decode cX13_isGreater 48 = .ok (.iconst 1, 1) := by decide +kernel
theorem dX13_isGreater_49 : decode cX13_isGreater 49 = .ok (.goto 4, 3) := by decide +kernel
theorem dX13_isGreater_52 : decode cX13_isGreater 52 = .ok (.iconst 0, 1) := by decide +kernel
theorem dX13_isGreater_53 : decode cX13_isGreater 53 = .ok (.ireturn, 1) := by decide +kernel
theorem dX13_isGreater_54 : decode cX13_isGreater 54 = .ok (.aload_n 0, 1) := by decide +kernel
theorem dX13_isGreater_55 : decode cX13_isGreater 55 = .ok (.bipush 8, 2) := by decide +kernel
theorem dX13_isGreater_57 : decode cX13_isGreater 57 = .ok (.bipush 6, 2) := by decide +kernel
theorem dX13_isGreater_59 : decode cX13_isGreater 59 = .ok (.iconst 5, 1) := by decide +kernel
theorem dX13_isGreater_60 : decode cX13_isGreater 60 = .ok (.invokevirtual 712, 3) := by decide +kernel
theorem dX13_isGreater_63 : decode cX13_isGreater 63 = .ok (.aload_n 0, 1) := by decide +kernel
theorem dX13_isGreater_64 : decode cX13_isGreater 64 = .ok (.bipush 9, 2) := by decide +kernel
theorem dX13_isGreater_66 : decode cX13_isGreater 66 = .ok (.iconst 4, 1) := by decide +kernel
theorem dX13_isGreater_67 : decode cX13_isGreater 67 = .ok (.bipush 7, 2) := by decide +kernel
theorem dX13_isGreater_69 : decode cX13_isGreater 69 = .ok (.invokevirtual 712, 3) := by decide +kernel
theorem dX13_isGreater_72 : decode cX13_isGreater 72 = .ok (.aload_n 0, 1) := by decide +kernel
theorem dX13_isGreater_73 : decode cX13_isGreater 73 = .ok (.bipush 8, 2) := by decide +kernel
theorem dX13_isGreater_75 : decode cX13_isGreater 75 = .ok (.bipush 9, 2) := by decide +kernel
theorem dX13_isGreater_77 : decode cX13_isGreater 77 = .ok (.invokevirtual 683, 3) := by decide +kernel
theorem dX13_isGreater_80 : decode cX13_isGreater 80 = .ok (.istore 4, 2) := by decide +kernel
theorem dX13_isGreater_82 : decode cX13_isGreater 82 = .ok (.iload_n 2, 1) := by decide +kernel
theorem dX13_isGreater_83 : decode cX13_isGreater 83 = .ok (.ifCond .ge 16, 3) := by decide +kernel
theorem dX13_isGreater_86 : decode cX13_isGreater 86 = .ok (.iload 4, 2) := by decide +kernel
theorem dX13_isGreater_88 : decode cX13_isGreater 88 = .ok (.ifCond .ge 7, 3) := by decide +kernel
theorem dX13_isGreater_91 : decode cX13_isGreater 91 = .ok (.iconst 1, 1) := by decide +kernel
theorem dX13_isGreater_92 : decode cX13_isGreater 92 = .ok (.goto 17, 3) := by decide +kernel
theorem dX13_isGreater_95 : decode cX13_isGreater 95 = .ok (.iconst 0, 1) := by decide +kernel
theorem dX13_isGreater_96 : decode cX13_isGreater 96 = .ok (.goto 13, 3) := by decide +kernel
theorem dX13_isGreater_99 : decode cX13_isGreater 99 = .ok (.iload 4, 2) := by decide +kernel
theorem dX13_isGreater_101 : decode cX13_isGreater 101 = .ok (.ifCond .le 7, 3) := by decide +kernel
theorem dX13_isGreater_104 : decode cX13_isGreater 104 = .ok (.iconst 1, 1) := by decide +kernel
theorem dX13_isGreater_105 : decode cX13_isGreater 105 = .ok (.goto 4, 3) := by decide +kernel
theorem dX13_isGreater_108 : decode cX13_isGreater 108 = .ok (.iconst 0, 1) := by decide +kernel
theorem dX13_isGreater_109 : decode cX13_isGreater 109 = .ok (.ireturn, 1) := by decide +kernel
def w_isGreater_37 (C : rCx) (Q : Int32 → rS → Prop)  (a2 : Int32) (s0 : Int32) (σ : rS) : Prop :=
  (a2 = s0 →
    cV C 1 m_times [.ref (co C), .int (8 : Int32), .int (6 : Int32), .int (5 : Int32)] σ (fun σ1 =>
      cV C 1 m_times [.ref (co C), .int (9 : Int32), .int (4 : Int32), .int (7 : Int32)] σ1 (fun σ3 =>
        cI C 0 m_compare [.ref (co C), .int (8 : Int32), .int (9 : Int32)] σ3 (fun r6 σ5 =>
          (0 ≤ a2 →
            (r6 ≤ 0 →
              Q (0 : Int32) σ5) ∧
            (¬ (r6 ≤ 0) →
              Q (1 : Int32) σ5)) ∧
          (¬ (0 ≤ a2) →
            (0 ≤ r6 →
              Q (0 : Int32) σ5) ∧
            (¬ (0 ≤ r6) →
              Q (1 : Int32) σ5)))))) ∧
  (¬ (a2 = s0) →
    (a2 ≤ s0 →
      Q (0 : Int32) σ) ∧
    (¬ (a2 ≤ s0) →
      Q (1 : Int32) σ))
theorem t_isGreater_37 {C : rCx} (hC : cOK C) {Q : Int32 → rS → Prop}   {a2 : Int32} {s0 : Int32} {σ : rS} (F : w_isGreater_37 C Q  a2 s0 σ) : wG C 2 m_isGreater 37 [some (.ref (co C)), none, some (.int a2), none, none] [.int s0] σ (qI Q) := by
  unfold w_isGreater_37 at F
  refine s_isn dX13_isGreater_37 (Nat.le_of_ble_eq_true rfl) rfl ?_
  show wG _ _ _ _ [some (.ref (co C)), none, some (.int a2), some (.int s0), none] _ _ _
  refine s_iln dX13_isGreater_38 rfl ?_
  refine s_iln dX13_isGreater_39 rfl ?_
  refine s_ii (t := 54) (a2 = s0) dX13_isGreater_40 rfl rfl (fun hc => ?_) (fun hc => ?_)
  · replace F := F.1 hc
    refine s_aln dX13_isGreater_54 rfl ?_
    refine s_bi dX13_isGreater_55 kb_8 ?_
    refine s_bi dX13_isGreater_57 kb_6 ?_
    refine s_ic dX13_isGreater_59 ki_5 ?_
    refine k_712 dX13_isGreater_60 rfl (Nat.le_of_ble_eq_true rfl) (Nat.le_of_ble_eq_true rfl) F (fun σ1 F => ?_)
    refine s_aln dX13_isGreater_63 rfl ?_
    refine s_bi dX13_isGreater_64 kb_9 ?_
    refine s_ic dX13_isGreater_66 ki_4 ?_
    refine s_bi dX13_isGreater_67 kb_7 ?_
    refine k_712 dX13_isGreater_69 rfl (Nat.le_of_ble_eq_true rfl) (Nat.le_of_ble_eq_true rfl) F (fun σ3 F => ?_)
    refine s_aln dX13_isGreater_72 rfl ?_
    refine s_bi dX13_isGreater_73 kb_8 ?_
    refine s_bi dX13_isGreater_75 kb_9 ?_
    refine k_683 dX13_isGreater_77 rfl (Nat.le_of_ble_eq_true rfl) (Nat.le_of_ble_eq_true rfl) F (fun r6 σ5 F => ?_)
    refine s_is dX13_isGreater_80 (Nat.le_of_ble_eq_true rfl) rfl ?_
    show wG _ _ _ _ [some (.ref (co C)), none, some (.int a2), some (.int s0), some (.int r6)] _ _ _
    refine s_iln dX13_isGreater_82 rfl ?_
    refine s_i (t := 99) (0 ≤ a2) dX13_isGreater_83 rfl rfl (fun hc => ?_) (fun hc => ?_)
    · replace F := F.1 hc
      refine s_il dX13_isGreater_99 rfl ?_
      refine s_i (t := 108) (r6 ≤ 0) dX13_isGreater_101 rfl rfl (fun hc => ?_) (fun hc => ?_)
      · replace F := F.1 hc
        refine s_ic dX13_isGreater_108 ki_0 ?_
        exact s_ri dX13_isGreater_109 rfl (nb_nar nb_0) F
      · replace F := F.2 hc
        refine s_ic dX13_isGreater_104 ki_1 ?_
        refine s_goto (t := 109) dX13_isGreater_105 rfl ?_
        exact s_ri dX13_isGreater_109 rfl (nb_nar nb_1) F
    · replace F := F.2 hc
      refine s_il dX13_isGreater_86 rfl ?_
      refine s_i (t := 95) (0 ≤ r6) dX13_isGreater_88 rfl rfl (fun hc => ?_) (fun hc => ?_)
      · replace F := F.1 hc
        refine s_ic dX13_isGreater_95 ki_0 ?_
        refine s_goto (t := 109) dX13_isGreater_96 rfl ?_
        exact s_ri dX13_isGreater_109 rfl (nb_nar nb_0) F
      · replace F := F.2 hc
        refine s_ic dX13_isGreater_91 ki_1 ?_
        refine s_goto (t := 109) dX13_isGreater_92 rfl ?_
        exact s_ri dX13_isGreater_109 rfl (nb_nar nb_1) F
  · replace F := F.2 hc
    refine s_iln dX13_isGreater_43 rfl ?_
    refine s_iln dX13_isGreater_44 rfl ?_
    refine s_ii (t := 52) (a2 ≤ s0) dX13_isGreater_45 rfl rfl (fun hc => ?_) (fun hc => ?_)
    · replace F := F.1 hc
      refine s_ic dX13_isGreater_52 ki_0 ?_
      exact s_ri dX13_isGreater_53 rfl (nb_nar nb_0) F
    · replace F := F.2 hc
      refine s_ic dX13_isGreater_48 ki_1 ?_
      refine s_goto (t := 53) dX13_isGreater_49 rfl ?_
      exact s_ri dX13_isGreater_53 rfl (nb_nar nb_1) F

def w_isGreater_20 (C : rCx) (Q : Int32 → rS → Prop)  (s0 : Int32) (σ : rS) : Prop :=
  cI C 0 m_isZero [.ref (co C), .int (4 : Int32)] σ (fun r2 σ1 =>
    (r2 = 0 →
      w_isGreater_37 C Q  s0 (σ1.1 92) σ1) ∧
    (¬ (r2 = 0) →
      w_isGreater_37 C Q  s0 (0 : Int32) σ1))
theorem t_isGreater_20 {C : rCx} (hC : cOK C) {Q : Int32 → rS → Prop}   {s0 : Int32} {σ : rS} (F : w_isGreater_20 C Q  s0 σ) : wG C 2 m_isGreater 20 [some (.ref (co C)), none, none, none, none] [.int s0] σ (qI Q) := by
  unfold w_isGreater_20 at F
  refine s_isn dX13_isGreater_20 (Nat.le_of_ble_eq_true rfl) rfl ?_
  show wG _ _ _ _ [some (.ref (co C)), none, some (.int s0), none, none] _ _ _
  refine s_aln dX13_isGreater_21 rfl ?_
  refine s_ic dX13_isGreater_22 ki_4 ?_
  refine k_696 dX13_isGreater_23 rfl (Nat.le_of_ble_eq_true rfl) (Nat.le_of_ble_eq_true rfl) F (fun r2 σ1 F => ?_)
  refine s_i (t := 33) (r2 = 0) dX13_isGreater_26 rfl rfl (fun hc => ?_) (fun hc => ?_)
  · replace F := F.1 hc
    refine s_aln dX13_isGreater_33 rfl ?_
    refine gf_710 dX13_isGreater_34 rfl ?_
    exact s_k (t_isGreater_37 hC  F) ⟨rfl, rfl, trivial⟩
  · replace F := F.2 hc
    refine s_ic dX13_isGreater_29 ki_0 ?_
    refine s_goto (t := 37) dX13_isGreater_30 rfl ?_
    exact s_k (t_isGreater_37 hC  F) ⟨rfl, rfl, trivial⟩

def w_isGreater_0 (C : rCx) (Q : Int32 → rS → Prop)  (a1 : Int32) (σ : rS) : Prop :=
  cI C 1 m_loadNext [.ref (co C), .int a1] σ (fun r2 σ1 =>
    cI C 0 m_isZero [.ref (co C), .int (6 : Int32)] σ1 (fun r4 σ3 =>
      (r4 = 0 →
        w_isGreater_20 C Q  r2 σ3) ∧
      (¬ (r4 = 0) →
        w_isGreater_20 C Q  (0 : Int32) σ3)))
theorem t_isGreater_0 {C : rCx} (hC : cOK C) {Q : Int32 → rS → Prop}   {a1 : Int32} {σ : rS} (F : w_isGreater_0 C Q  a1 σ) : wG C 2 m_isGreater 0 [some (.ref (co C)), some (.int a1), none, none, none] [] σ (qI Q) := by
  unfold w_isGreater_0 at F
  refine s_aln dX13_isGreater_0 rfl ?_
  refine s_iln dX13_isGreater_1 rfl ?_
  refine k_864 dX13_isGreater_2 rfl (Nat.le_of_ble_eq_true rfl) (Nat.le_of_ble_eq_true rfl) F (fun r2 σ1 F => ?_)
  refine s_isn dX13_isGreater_5 (Nat.le_of_ble_eq_true rfl) rfl ?_
  show wG _ _ _ _ [some (.ref (co C)), some (.int a1), some (.int r2), none, none] _ _ _
  refine s_aln dX13_isGreater_6 rfl ?_
  refine s_bi dX13_isGreater_7 kb_6 ?_
  refine k_696 dX13_isGreater_9 rfl (Nat.le_of_ble_eq_true rfl) (Nat.le_of_ble_eq_true rfl) F (fun r4 σ3 F => ?_)
  refine s_i (t := 19) (r4 = 0) dX13_isGreater_12 rfl rfl (fun hc => ?_) (fun hc => ?_)
  · replace F := F.1 hc
    refine s_iln dX13_isGreater_19 rfl ?_
    exact s_k (t_isGreater_20 hC  F) ⟨rfl, trivial⟩
  · replace F := F.2 hc
    refine s_ic dX13_isGreater_15 ki_0 ?_
    refine s_goto (t := 20) dX13_isGreater_16 rfl ?_
    exact s_k (t_isGreater_20 hC  F) ⟨rfl, trivial⟩

theorem m_isGreater_run {C : rCx} (hC : cOK C) {Q : Int32 → rS → Prop} {a1 : Int32} {σ : rS} (F : w_isGreater_0 C Q a1 σ) : cI C 2 m_isGreater [.ref (co C), .int a1] σ Q := m_I (m_ent _ 3) (t_isGreater_0 hC F)

theorem dX13_takeNext_0 : decode cX13_takeNext 0 = .ok (.aload_n 0, 1) := by decide +kernel
theorem dX13_takeNext_1 : decode cX13_takeNext 1 = .ok (.invokevirtual 762, 3) := by decide +kernel
theorem dX13_takeNext_4 : decode cX13_takeNext 4 = .ok (.aload_n 0, 1) := by decide +kernel
theorem dX13_takeNext_5 : decode cX13_takeNext 5 = .ok (.iload_n 1, 1) := by decide +kernel
theorem dX13_takeNext_6 : decode cX13_takeNext 6 = .ok (.invokevirtual 864, 3) := by decide +kernel
theorem dX13_takeNext_9 : decode cX13_takeNext 9 = .ok (.istore_n 2, 1) := by decide +kernel
theorem dX13_takeNext_10 : decode cX13_takeNext 10 = .ok (.aload_n 0, 1) := by decide +kernel
theorem dX13_takeNext_11 : decode cX13_takeNext 11 = .ok (.iload_n 2, 1) := by decide +kernel
theorem dX13_takeNext_12 : decode cX13_takeNext 12 = .ok (.invokevirtual 727, 3) := by decide +kernel
theorem dX13_takeNext_15 : decode cX13_takeNext 15 = .ok (.return_, 1) := by decide +kernel
def w_takeNext_0 (C : rCx) (Q : rS → Prop)  (a1 : Int32) (σ : rS) : Prop :=
  cV C 1 m_clearSum [.ref (co C)] σ (fun σ1 =>
    cI C 1 m_loadNext [.ref (co C), .int a1] σ1 (fun r4 σ3 =>
      cV C 4 m_add [.ref (co C), .int r4] σ3 (fun σ5 =>
        Q σ5)))
theorem t_takeNext_0 {C : rCx} (hC : cOK C) {Q : rS → Prop}   {a1 : Int32} {σ : rS} (F : w_takeNext_0 C Q  a1 σ) : wG C 5 m_takeNext 0 [some (.ref (co C)), some (.int a1), none] [] σ (qV Q) := by
  unfold w_takeNext_0 at F
  refine s_aln dX13_takeNext_0 rfl ?_
  refine k_762 dX13_takeNext_1 rfl (Nat.le_of_ble_eq_true rfl) (Nat.le_of_ble_eq_true rfl) F (fun σ1 F => ?_)
  refine s_aln dX13_takeNext_4 rfl ?_
  refine s_iln dX13_takeNext_5 rfl ?_
  refine k_864 dX13_takeNext_6 rfl (Nat.le_of_ble_eq_true rfl) (Nat.le_of_ble_eq_true rfl) F (fun r4 σ3 F => ?_)
  refine s_isn dX13_takeNext_9 (Nat.le_of_ble_eq_true rfl) rfl ?_
  show wG _ _ _ _ [some (.ref (co C)), some (.int a1), some (.int r4)] _ _ _
  refine s_aln dX13_takeNext_10 rfl ?_
  refine s_iln dX13_takeNext_11 rfl ?_
  refine k_727 dX13_takeNext_12 rfl (Nat.le_of_ble_eq_true rfl) (Nat.le_of_ble_eq_true rfl) F (fun σ5 F => ?_)
  exact s_rv dX13_takeNext_15 rfl F

theorem m_takeNext_run {C : rCx} (hC : cOK C) {Q : rS → Prop} {a1 : Int32} {σ : rS} (F : w_takeNext_0 C Q a1 σ) : cV C 5 m_takeNext [.ref (co C), .int a1] σ Q := m_V (m_ent _ 1) (t_takeNext_0 hC F)

theorem dX13_findWorth_0 : decode cX13_findWorth 0 = .ok (.aload_n 0, 1) := by decide +kernel
theorem dX13_findWorth_1 : decode cX13_findWorth 1 = .ok (.getfield 166, 3) := by decide +kernel
theorem dX13_findWorth_4 : decode cX13_findWorth 4 = .ok (.iload_n 1, 1) := by decide +kernel
theorem dX13_findWorth_5 : decode cX13_findWorth 5 = .ok (.baload, 1) := by decide +kernel
theorem dX13_findWorth_6 : decode cX13_findWorth 6 = .ok (.ifCond .eq 75, 3) := by decide +kernel
theorem dX13_findWorth_9 : decode cX13_findWorth 9 = .ok (.aload_n 0, 1) := by decide +kernel
theorem dX13_findWorth_10 : decode cX13_findWorth 10 = .ok (.getfield 238, 3) := by decide +kernel
theorem dX13_findWorth_13 : decode cX13_findWorth 13 = .ok (.iload_n 1, 1) := by decide +kernel
theorem dX13_findWorth_14 : decode cX13_findWorth 14 = .ok (.iconst 0, 1) := by decide +kernel
theorem dX13_findWorth_15 : decode cX13_findWorth 15 = .ok (.iastore, 1) := by decide +kernel
theorem dX13_findWorth_16 : decode cX13_findWorth 16 = .ok (.aload_n 0, 1) := by decide +kernel
theorem dX13_findWorth_17 : decode cX13_findWorth 17 = .ok (.aload_n 0, 1) := by decide +kernel
theorem dX13_findWorth_18 : decode cX13_findWorth 18 = .ok (.getfield 151, 3) := by decide +kernel
theorem dX13_findWorth_21 : decode cX13_findWorth 21 = .ok (.iload_n 1, 1) := by decide +kernel
theorem dX13_findWorth_22 : decode cX13_findWorth 22 = .ok (.iaload, 1) := by decide +kernel
theorem dX13_findWorth_23 : decode cX13_findWorth 23 = .ok (.invokevirtual 867, 3) := by decide +kernel
theorem dX13_findWorth_26 : decode cX13_findWorth 26 = .ok (.aload_n 0, 1) := by decide +kernel
theorem dX13_findWorth_27 : decode cX13_findWorth 27 = .ok (.getfield 151, 3) := by decide +kernel
theorem dX13_findWorth_30 : decode cX13_findWorth 30 = .ok (.iload_n 1, 1) := by decide +kernel
theorem dX13_findWorth_31 : decode cX13_findWorth 31 = .ok (.iaload, 1) := by decide +kernel
theorem dX13_findWorth_32 : decode cX13_findWorth 32 = .ok (.iconst 1, 1) := by decide +kernel
theorem dX13_findWorth_33 : decode cX13_findWorth 33 = .ok (.iadd, 1) := by decide +kernel
theorem dX13_findWorth_34 : decode cX13_findWorth 34 = .ok (.istore_n 2, 1) := by decide +kernel
theorem dX13_findWorth_35 : decode cX13_findWorth 35 = .ok (.iload_n 2, 1) := by decide +kernel
theorem dX13_findWorth_36 : decode cX13_findWorth 36 = .ok (.aload_n 0, 1) := by decide +kernel
theorem dX13_findWorth_37 : decode cX13_findWorth 37 = .ok (.getfield 151, 3) := by decide +kernel
theorem dX13_findWorth_40 : decode cX13_findWorth 40 = .ok (.iload_n 1, 1) := by decide +kernel
theorem dX13_findWorth_41 : decode cX13_findWorth 41 = .ok (.iconst 1, 1) := by decide +kernel
theorem dX13_findWorth_42 : decode cX13_findWorth 42 = .ok (.iadd, 1) := by decide +kernel
theorem dX13_findWorth_43 : decode cX13_findWorth 43 = .ok (.iaload, 1) := by decide +kernel
theorem dX13_findWorth_44 : decode cX13_findWorth 44 = .ok (.if_icmp .ge 36, 3) := by decide +kernel
theorem dX13_findWorth_47 : decode cX13_findWorth 47 = .ok (.aload_n 0, 1) := by decide +kernel
theorem dX13_findWorth_48 : decode cX13_findWorth 48 = .ok (.iload_n 2, 1) := by decide +kernel
theorem dX13_findWorth_49 : decode cX13_findWorth 49 = .ok (.invokevirtual 870, 3) := by decide +kernel
theorem dX13_findWorth_52 : decode cX13_findWorth 52 = .ok (.ifCond .eq 22, 3) := by decide +kernel
theorem dX13_findWorth_55 : decode cX13_findWorth 55 = .ok (.aload_n 0, 1) := by decide +kernel
theorem dX13_findWorth_56 : decode cX13_findWorth 56 = .ok (.getfield 238, 3) := by decide +kernel
theorem dX13_findWorth_59 : decode cX13_findWorth 59 = .ok (.iload_n 1, 1) := by decide +kernel
theorem dX13_findWorth_60 : decode cX13_findWorth 60 = .ok (.iload_n 2, 1) := by decide +kernel
theorem dX13_findWorth_61 : decode cX13_findWorth 61 = .ok (.aload_n 0, 1) := by decide +kernel
theorem dX13_findWorth_62 : decode cX13_findWorth 62 = .ok (.getfield 151, 3) := by decide +kernel
theorem dX13_findWorth_65 : decode cX13_findWorth 65 = .ok (.iload_n 1, 1) := by decide +kernel
theorem dX13_findWorth_66 : decode cX13_findWorth 66 = .ok (.iaload, 1) := by decide +kernel
theorem dX13_findWorth_67 : decode cX13_findWorth 67 = .ok (.isub, 1) := by decide +kernel
theorem dX13_findWorth_68 : decode cX13_findWorth 68 = .ok (.iastore, 1) := by decide +kernel
theorem dX13_findWorth_69 : decode cX13_findWorth 69 = .ok (.aload_n 0, 1) := by decide +kernel
theorem dX13_findWorth_70 : decode cX13_findWorth 70 = .ok (.iload_n 2, 1) := by decide +kernel
theorem dX13_findWorth_71 : decode cX13_findWorth 71 = .ok (.invokevirtual 867, 3) := by decide +kernel
theorem dX13_findWorth_74 : decode cX13_findWorth 74 = .ok (.iinc 2 1, 3) := by decide +kernel
theorem dX13_findWorth_77 : decode cX13_findWorth 77 = .ok (.goto (-42), 3) := by decide +kernel
theorem dX13_findWorth_80 : decode cX13_findWorth 80 = .ok (.return_, 1) := by decide +kernel
theorem dX13_findWorth_81 : decode cX13_findWorth 81 = .ok (.aload_n 0, 1) := by decide +kernel
theorem dX13_findWorth_82 : decode cX13_findWorth 82 = .ok (.invokevirtual 762, 3) := by decide +kernel
theorem dX13_findWorth_85 : decode cX13_findWorth 85 = .ok (.aload_n 0, 1) := by decide +kernel
theorem dX13_findWorth_86 : decode cX13_findWorth 86 = .ok (.getfield 151, 3) := by decide +kernel
theorem dX13_findWorth_89 : decode cX13_findWorth 89 = .ok (.iload_n 1, 1) := by decide +kernel
theorem dX13_findWorth_90 : decode cX13_findWorth 90 = .ok (.iaload, 1) := by decide +kernel
theorem dX13_findWorth_91 : decode cX13_findWorth 91 = .ok (.istore_n 2, 1) := by decide +kernel
theorem dX13_findWorth_92 : decode cX13_findWorth 92 = .ok (.iload_n 2, 1) := by decide +kernel
theorem dX13_findWorth_93 : decode cX13_findWorth 93 = .ok (.aload_n 0, 1) := by decide +kernel
theorem dX13_findWorth_94 : decode cX13_findWorth 94 = .ok (.getfield 151, 3) := by decide +kernel
theorem dX13_findWorth_97 : decode cX13_findWorth 97 = .ok (.iload_n 1, 1) := by decide +kernel
theorem dX13_findWorth_98 : decode cX13_findWorth 98 = .ok (.iconst 1, 1) := by decide +kernel
theorem dX13_findWorth_99 : decode cX13_findWorth 99 = .ok (.iadd, 1) := by decide +kernel
theorem dX13_findWorth_100 : decode cX13_findWorth 100 = .ok (.iaload, 1) := by decide +kernel
theorem dX13_findWorth_101 : decode cX13_findWorth 101 = .ok (.if_icmp .ge 47, 3) := by decide +kernel
theorem dX13_findWorth_104 : decode cX13_findWorth 104 = .ok (.aload_n 0, 1) := by decide +kernel
theorem dX13_findWorth_105 : decode cX13_findWorth 105 = .ok (.iload_n 2, 1) := by decide +kernel
theorem dX13_findWorth_106 : decode cX13_findWorth 106 = .ok (.invokevirtual 864, 3) := by decide +kernel
theorem dX13_findWorth_109 : decode cX13_findWorth 109 = .ok (.istore_n 3, 1) := by decide +kernel
theorem dX13_findWorth_110 : decode cX13_findWorth 110 = .ok (.aload_n 0, 1) := by decide +kernel
theorem dX13_findWorth_111 : decode cX13_findWorth 111 = .ok (.bipush 6, 2) := by decide +kernel
theorem dX13_findWorth_113 : decode cX13_findWorth 113 = .ok (.invokevirtual 696, 3) := by decide +kernel
theorem dX13_findWorth_116 : decode cX13_findWorth 116 = .ok (.ifCond .ne 26, 3) := by decide +kernel
theorem dX13_findWorth_119 : decode cX13_findWorth 119 = .ok (.aload_n 0, 1) := by decide +kernel
theorem dX13_findWorth_120 : decode cX13_findWorth 120 = .ok (.aload_n 0, 1) := by decide +kernel
theorem dX13_findWorth_121 : decode cX13_findWorth 121 = .ok (.getfield 160, 3) := by decide +kernel
theorem dX13_findWorth_124 : decode cX13_findWorth 124 = .ok (.iload_n 2, 1) := by decide +kernel
theorem dX13_findWorth_125 : decode cX13_findWorth 125 = .ok (.iaload, 1) := by decide +kernel
theorem dX13_findWorth_126 : decode cX13_findWorth 126 = .ok (.i2l, 1) := by decide +kernel
theorem dX13_findWorth_127 : decode cX13_findWorth 127 = .ok (.aload_n 0, 1) := by decide +kernel
theorem dX13_findWorth_128 : decode cX13_findWorth 128 = .ok (.getfield 163, 3) := by decide +kernel
theorem dX13_findWorth_131 : decode cX13_findWorth 131 = .ok (.iload_n 1, 1) := by decide +kernel
theorem dX13_findWorth_132 : decode cX13_findWorth 132 = .ok (.iaload, 1) := by decide +kernel
theorem dX13_findWorth_133 : decode cX13_findWorth 133 = .ok (.i2l, 1) := by decide +kernel
theorem dX13_findWorth_134 : decode cX13_findWorth 134 = .ok (.invokevirtual 748, 3) := by decide +kernel
theorem dX13_findWorth_137 : decode cX13_findWorth 137 = .ok (.aload_n 0, 1) := by decide +kernel
theorem dX13_findWorth_138 : decode cX13_findWorth 138 = .ok (.iload_n 3, 1) := by decide +kernel
theorem dX13_findWorth_139 : decode cX13_findWorth 139 = .ok (.invokevirtual 727, 3) := by decide +kernel
theorem dX13_findWorth_142 : decode cX13_findWorth 142 = .ok (.iinc 2 1, 3) := by decide +kernel
theorem dX13_findWorth_145 : decode cX13_findWorth 145 = .ok (.goto (-53), 3) := by decide +kernel
theorem dX13_findWorth_148 : decode cX13_findWorth 148 = .ok (.aload_n 0, 1) := by decide +kernel
theorem dX13_findWorth_149 : decode cX13_findWorth 149 = .ok (.getfield 169, 3) := by decide +kernel
theorem dX13_findWorth_152 : decode cX13_findWorth 152 = .ok (.iload_n 1, 1) := by decide +kernel
theorem dX13_findWorth_153 : decode cX13_findWorth 153 = .ok (.iaload, 1) := by decide +kernel
theorem dX13_findWorth_154 : decode cX13_findWorth 154 = .ok (.i2l, 1) := by decide +kernel
theorem dX13_findWorth_155 : decode cX13_findWorth 155 = .ok (.lstore_n 2, 1) := by decide +kernel
theorem dX13_findWorth_156 : decode cX13_findWorth 156 = .ok (.lload_n 2, 1) := by decide +kernel
theorem dX13_findWorth_157 : decode cX13_findWorth 157 = .ok (.lconst 0, 1) := by decide +kernel
theorem dX13_findWorth_158 : decode cX13_findWorth 158 = .ok (.lcmp, 1) := by decide +kernel
theorem dX13_findWorth_159 : decode cX13_findWorth 159 = .ok (.ifCond .eq 43, 3) := by decide +kernel
theorem dX13_findWorth_162 : decode cX13_findWorth 162 = .ok (.aload_n 0, 1) := by decide +kernel
theorem dX13_findWorth_163 : decode cX13_findWorth 163 = .ok (.bipush 6, 2) := by decide +kernel
theorem dX13_findWorth_165 : decode cX13_findWorth 165 = .ok (.lload_n 2, 1) := by decide +kernel
theorem dX13_findWorth_166 : decode cX13_findWorth 166 = .ok (.lconst 0, 1) := by decide +kernel
theorem dX13_findWorth_167 : decode cX13_findWorth 167 = .ok (.lcmp, 1) := by decide +kernel
theorem dX13_findWorth_168 : decode cX13_findWorth 168 = .ok (.ifCond .ge 8, 3) := by decide +kernel
theorem dX13_findWorth_171 : decode cX13_findWorth 171 = .ok (.lload_n 2, 1) := by decide +kernel
theorem dX13_findWorth_172 : decode cX13_findWorth 172 = .ok (.lneg, 1) := by decide +kernel
theorem dX13_findWorth_173 : decode cX13_findWorth 173 = .ok (.goto 4, 3) := by decide +kernel
theorem dX13_findWorth_176 : decode cX13_findWorth 176 = .ok (.lload_n 2, 1) := by decide +kernel
theorem dX13_findWorth_177 : decode cX13_findWorth 177 = .ok (.invokevirtual 699, 3) := by decide +kernel
theorem dX13_findWorth_180 : decode cX13_findWorth 180 = .ok (.aload_n 0, 1) := by decide +kernel
theorem dX13_findWorth_181 : decode cX13_findWorth 181 = .ok (.bipush 7, 2) := by decide +kernel
theorem dX13_findWorth_183 : decode cX13_findWorth 183 = .ok (.lconst 1, 1) := by decide +kernel
theorem dX13_findWorth_184 : decode cX13_findWorth 184 = .ok (.invokevirtual 699, 3) := by decide +kernel
theorem dX13_findWorth_187 : decode cX13_findWorth 187 = .ok (.aload_n 0, 1) := by decide +kernel
theorem dX13_findWorth_188 : decode cX13_findWorth 188 = .ok (.lload_n 2, 1) := by decide +kernel
theorem dX13_findWorth_189 : decode cX13_findWorth 189 = .ok (.lconst 0, 1) := by decide +kernel
theorem dX13_findWorth_190 : decode cX13_findWorth 190 = .ok (.lcmp, 1) := by decide +kernel
theorem dX13_findWorth_191 : decode cX13_findWorth 191 = .ok (.ifCond .ge 7, 3) := by decide +kernel
theorem dX13_findWorth_194 : decode cX13_findWorth 194 = .ok (.iconst (-1), 1) := by decide +kernel
theorem dX13_findWorth_195 : decode cX13_findWorth 195 = .ok (.goto 4, 3) := by decide +kernel
theorem dX13_findWorth_198 : decode cX13_findWorth 198 = .ok (.iconst 1, 1) := by decide +kernel
theorem dX13_findWorth_199 : decode cX13_findWorth 199 = .ok (.invokevirtual 727, 3) := by decide +kernel
theorem dX13_findWorth_202 : decode cX13_findWorth 202 = .ok (.return_, 1) := by decide +kernel
def w_findWorth_35 (C : rCx) (Q : rS → Prop)  (a1 : Int32) (a2 : Int32) (σ : rS) : Prop :=
  ∃ I : Nat → Int32 → Int32 → rS → Prop, (∃ n, I n a1 a2 σ) ∧ ∀ n a1 a2 σ, I n a1 a2 σ →
    inb (a1 + (1 : Int32)) 1001 ∧
    ((σ.2.2.1 76 ((a1 + (1 : Int32))).toNatClampNeg) ≤ a2 →
      Q σ) ∧
    (¬ ((σ.2.2.1 76 ((a1 + (1 : Int32))).toNatClampNeg) ≤ a2) →
      cI C 2 m_isGreater [.ref (co C), .int a2] σ (fun r2 σ1 =>
        (r2 = 0 →
          ∀ v2_3 : Int32, v2_3 = a2 + (1 : Int32) →
          ∃ k < n, I k a1 v2_3 σ1) ∧
        (¬ (r2 = 0) →
          inb a1 1001 ∧
          inb a1 1000 ∧
          ∀ σ4, σ4 = riU σ1 119 (a1).toNatClampNeg (a2 - (σ1.2.2.1 76 (a1).toNatClampNeg)) →
          cV C 5 m_takeNext [.ref (co C), .int a2] σ4 (fun σ5 =>
            ∀ v2_7 : Int32, v2_7 = a2 + (1 : Int32) →
            ∃ k < n, I k a1 v2_7 σ5))))
theorem t_findWorth_35 {C : rCx} (hC : cOK C) {Q : rS → Prop}   {a1 : Int32} {a2 : Int32} {σ : rS} (F : w_findWorth_35 C Q  a1 a2 σ) : wG C 6 m_findWorth 35 [some (.ref (co C)), some (.int a1), some (.int a2), none] [] σ (qV Q) := by
  obtain ⟨I, ⟨n0, hI0⟩, F0⟩ := F
  have key : ∀ n a1 a2 σ, I n a1 a2 σ → wG C 6 m_findWorth 35 [some (.ref (co C)), some (.int a1), some (.int a2), none] [] σ (qV Q) := by
    intro n
    induction n using Nat.strongRecOn with
    | _ n ih =>
      intro a1 a2 σ hI
      have F := F0 n a1 a2 σ hI
      clear hI hI0
      refine s_iln dX13_findWorth_35 rfl ?_
      refine s_aln dX13_findWorth_36 rfl ?_
      refine gf_151 dX13_findWorth_37 rfl ?_
      refine s_iln dX13_findWorth_40 rfl ?_
      refine s_ic dX13_findWorth_41 ki_1 ?_
      refine s_iadd dX13_findWorth_42 ?_
      refine s_ald hC dX13_findWorth_43 rt_76 F.1 ?_
      replace F := F.2
      refine s_ii (t := 80) ((σ.2.2.1 76 ((a1 + (1 : Int32))).toNatClampNeg) ≤ a2) dX13_findWorth_44 rfl rfl (fun hc => ?_) (fun hc => ?_)
      · replace F := F.1 hc
        exact s_rv dX13_findWorth_80 rfl F
      · replace F := F.2 hc
        refine s_aln dX13_findWorth_47 rfl ?_
        refine s_iln dX13_findWorth_48 rfl ?_
        refine k_870 dX13_findWorth_49 rfl (Nat.le_of_ble_eq_true rfl) (Nat.le_of_ble_eq_true rfl) F (fun r2 σ1 F => ?_)
        refine s_i (t := 74) (r2 = 0) dX13_findWorth_52 rfl rfl (fun hc => ?_) (fun hc => ?_)
        · replace F := F.1 hc
          refine s_incb dX13_findWorth_74 ki_1 rfl (Nat.le_of_ble_eq_true rfl) (fun v2_3 ev2_3 => ?_)
          replace F := F v2_3 ev2_3
          show wG _ _ _ _ [some (.ref (co C)), some (.int a1), some (.int v2_3), none] _ _ _
          refine s_goto (t := 35) dX13_findWorth_77 rfl ?_
          obtain ⟨k, hk, hI⟩ := F
          exact s_k (ih k hk _ _ _ hI) ⟨rfl, rfl, rfl, trivial⟩
        · replace F := F.2 hc
          refine s_aln dX13_findWorth_55 rfl ?_
          refine gf_238 dX13_findWorth_56 rfl ?_
          refine s_iln dX13_findWorth_59 rfl ?_
          refine s_iln dX13_findWorth_60 rfl ?_
          refine s_aln dX13_findWorth_61 rfl ?_
          refine gf_151 dX13_findWorth_62 rfl ?_
          refine s_iln dX13_findWorth_65 rfl ?_
          refine s_ald hC dX13_findWorth_66 rt_76 F.1 ?_
          replace F := F.2
          refine s_isub dX13_findWorth_67 ?_
          refine s_astb hC dX13_findWorth_68 rt_119 F.1 (fun σ4 eσ4 => ?_)
          replace F := F.2 σ4 eσ4
          refine s_aln dX13_findWorth_69 rfl ?_
          refine s_iln dX13_findWorth_70 rfl ?_
          refine k_867 dX13_findWorth_71 rfl (Nat.le_of_ble_eq_true rfl) (Nat.le_of_ble_eq_true rfl) F (fun σ5 F => ?_)
          refine s_incb dX13_findWorth_74 ki_1 rfl (Nat.le_of_ble_eq_true rfl) (fun v2_7 ev2_7 => ?_)
          replace F := F v2_7 ev2_7
          show wG _ _ _ _ [some (.ref (co C)), some (.int a1), some (.int v2_7), none] _ _ _
          refine s_goto (t := 35) dX13_findWorth_77 rfl ?_
          obtain ⟨k, hk, hI⟩ := F
          exact s_k (ih k hk _ _ _ hI) ⟨rfl, rfl, rfl, trivial⟩
  exact key n0 a1 a2 σ hI0

def w_findWorth_177 (C : rCx) (Q : rS → Prop)  (a2 : Int64) (s1 : Int32) (s2 : Int64) (σ : rS) : Prop :=
  cV C 0 m_set [.ref (co C), .int s1, .long s2] σ (fun σ1 =>
    cV C 0 m_set [.ref (co C), .int (7 : Int32), .long (1 : Int64)] σ1 (fun σ3 =>
      (0 ≤ (lg_cmp a2 (0 : Int64)) →
        cV C 4 m_add [.ref (co C), .int (1 : Int32)] σ3 (fun σ5 =>
          Q σ5)) ∧
      (¬ (0 ≤ (lg_cmp a2 (0 : Int64))) →
        cV C 4 m_add [.ref (co C), .int (-1 : Int32)] σ3 (fun σ7 =>
          Q σ7))))
theorem t_findWorth_177 {C : rCx} (hC : cOK C) {Q : rS → Prop}   {a2 : Int64} {s1 : Int32} {s2 : Int64} {σ : rS} (F : w_findWorth_177 C Q  a2 s1 s2 σ) : wG C 6 m_findWorth 177 [some (.ref (co C)), none, some (.long a2), none] [.long s2, .int s1, .ref (co C)] σ (qV Q) := by
  unfold w_findWorth_177 at F
  refine k_699 dX13_findWorth_177 rfl (Nat.le_of_ble_eq_true rfl) (Nat.le_of_ble_eq_true rfl) F (fun σ1 F => ?_)
  refine s_aln dX13_findWorth_180 rfl ?_
  refine s_bi dX13_findWorth_181 kb_7 ?_
  refine s_lc dX13_findWorth_183 kl_1 ?_
  refine k_699 dX13_findWorth_184 rfl (Nat.le_of_ble_eq_true rfl) (Nat.le_of_ble_eq_true rfl) F (fun σ3 F => ?_)
  refine s_aln dX13_findWorth_187 rfl ?_
  refine s_lln dX13_findWorth_188 rfl ?_
  refine s_lc dX13_findWorth_189 kl_0 ?_
  refine s_lcmp dX13_findWorth_190 ?_
  refine s_i (t := 198) (0 ≤ (lg_cmp a2 (0 : Int64))) dX13_findWorth_191 rfl rfl (fun hc => ?_) (fun hc => ?_)
  · replace F := F.1 hc
    refine s_ic dX13_findWorth_198 ki_1 ?_
    refine k_727 dX13_findWorth_199 rfl (Nat.le_of_ble_eq_true rfl) (Nat.le_of_ble_eq_true rfl) F (fun σ5 F => ?_)
    exact s_rv dX13_findWorth_202 rfl F
  · replace F := F.2 hc
    refine s_ic dX13_findWorth_194 ki_m1 ?_
    refine s_goto (t := 199) dX13_findWorth_195 rfl ?_
    refine k_727 dX13_findWorth_199 rfl (Nat.le_of_ble_eq_true rfl) (Nat.le_of_ble_eq_true rfl) F (fun σ7 F => ?_)
    exact s_rv dX13_findWorth_202 rfl F

def w_findWorth_92 (C : rCx) (Q : rS → Prop)  (a1 : Int32) (a2 : Int32) (σ : rS) : Prop :=
  ∃ I : Nat → Int32 → Int32 → rS → Prop, (∃ n, I n a1 a2 σ) ∧ ∀ n a1 a2 σ, I n a1 a2 σ →
    inb (a1 + (1 : Int32)) 1001 ∧
    ((σ.2.2.1 76 ((a1 + (1 : Int32))).toNatClampNeg) ≤ a2 →
      inb a1 1000 ∧
      ∀ v2_1 : Int64, v2_1 = ((σ.2.2.1 82 (a1).toNatClampNeg)).toInt64 →
      ((lg_cmp v2_1 (0 : Int64)) = 0 →
        Q σ) ∧
      (¬ ((lg_cmp v2_1 (0 : Int64)) = 0) →
        (0 ≤ (lg_cmp v2_1 (0 : Int64)) →
          w_findWorth_177 C Q  v2_1 (6 : Int32) v2_1 σ) ∧
        (¬ (0 ≤ (lg_cmp v2_1 (0 : Int64))) →
          w_findWorth_177 C Q  v2_1 (6 : Int32) (-v2_1) σ))) ∧
    (¬ ((σ.2.2.1 76 ((a1 + (1 : Int32))).toNatClampNeg) ≤ a2) →
      cI C 1 m_loadNext [.ref (co C), .int a2] σ (fun r3 σ2 =>
        cI C 0 m_isZero [.ref (co C), .int (6 : Int32)] σ2 (fun r5 σ4 =>
          (¬ (r5 = 0) →
            ∀ v2_6 : Int32, v2_6 = a2 + (1 : Int32) →
            ∃ k < n, I k a1 v2_6 σ4) ∧
          (r5 = 0 →
            inb a2 20000 ∧
            inb a1 1000 ∧
            cV C 4 m_scale [.ref (co C), .long ((σ4.2.2.1 79 (a2).toNatClampNeg)).toInt64, .long ((σ4.2.2.1 80 (a1).toNatClampNeg)).toInt64] σ4 (fun σ7 =>
              cV C 4 m_add [.ref (co C), .int r3] σ7 (fun σ9 =>
                ∀ v2_11 : Int32, v2_11 = a2 + (1 : Int32) →
                ∃ k < n, I k a1 v2_11 σ9))))))
theorem t_findWorth_92 {C : rCx} (hC : cOK C) {Q : rS → Prop}   {a1 : Int32} {a2 : Int32} {σ : rS} (F : w_findWorth_92 C Q  a1 a2 σ) : wG C 6 m_findWorth 92 [some (.ref (co C)), some (.int a1), some (.int a2), none] [] σ (qV Q) := by
  obtain ⟨I, ⟨n0, hI0⟩, F0⟩ := F
  have key : ∀ n a1 a2 σ, I n a1 a2 σ → wG C 6 m_findWorth 92 [some (.ref (co C)), some (.int a1), some (.int a2), none] [] σ (qV Q) := by
    intro n
    induction n using Nat.strongRecOn with
    | _ n ih =>
      intro a1 a2 σ hI
      have F := F0 n a1 a2 σ hI
      clear hI hI0
      refine s_iln dX13_findWorth_92 rfl ?_
      refine s_aln dX13_findWorth_93 rfl ?_
      refine gf_151 dX13_findWorth_94 rfl ?_
      refine s_iln dX13_findWorth_97 rfl ?_
      refine s_ic dX13_findWorth_98 ki_1 ?_
      refine s_iadd dX13_findWorth_99 ?_
      refine s_ald hC dX13_findWorth_100 rt_76 F.1 ?_
      replace F := F.2
      refine s_ii (t := 148) ((σ.2.2.1 76 ((a1 + (1 : Int32))).toNatClampNeg) ≤ a2) dX13_findWorth_101 rfl rfl (fun hc => ?_) (fun hc => ?_)
      · replace F := F.1 hc
        refine s_aln dX13_findWorth_148 rfl ?_
        refine gf_169 dX13_findWorth_149 rfl ?_
        refine s_iln dX13_findWorth_152 rfl ?_
        refine s_ald hC dX13_findWorth_153 rt_82 F.1 ?_
        replace F := F.2
        refine s_i2l dX13_findWorth_154 ?_
        refine s_lsnb dX13_findWorth_155 (Nat.le_of_ble_eq_true rfl) (fun v2_1 ev2_1 => ?_)
        replace F := F v2_1 ev2_1
        show wG _ _ _ _ [some (.ref (co C)), some (.int a1), some (.long v2_1), none] _ _ _
        refine s_lln dX13_findWorth_156 rfl ?_
        refine s_lc dX13_findWorth_157 kl_0 ?_
        refine s_lcmp dX13_findWorth_158 ?_
        refine s_i (t := 202) ((lg_cmp v2_1 (0 : Int64)) = 0) dX13_findWorth_159 rfl rfl (fun hc => ?_) (fun hc => ?_)
        · replace F := F.1 hc
          exact s_rv dX13_findWorth_202 rfl F
        · replace F := F.2 hc
          refine s_aln dX13_findWorth_162 rfl ?_
          refine s_bi dX13_findWorth_163 kb_6 ?_
          refine s_lln dX13_findWorth_165 rfl ?_
          refine s_lc dX13_findWorth_166 kl_0 ?_
          refine s_lcmp dX13_findWorth_167 ?_
          refine s_i (t := 176) (0 ≤ (lg_cmp v2_1 (0 : Int64))) dX13_findWorth_168 rfl rfl (fun hc => ?_) (fun hc => ?_)
          · replace F := F.1 hc
            refine s_lln dX13_findWorth_176 rfl ?_
            exact s_k (t_findWorth_177 hC  F) ⟨rfl, rfl, trivial⟩
          · replace F := F.2 hc
            refine s_lln dX13_findWorth_171 rfl ?_
            refine s_lneg dX13_findWorth_172 ?_
            refine s_goto (t := 177) dX13_findWorth_173 rfl ?_
            exact s_k (t_findWorth_177 hC  F) ⟨rfl, rfl, trivial⟩
      · replace F := F.2 hc
        refine s_aln dX13_findWorth_104 rfl ?_
        refine s_iln dX13_findWorth_105 rfl ?_
        refine k_864 dX13_findWorth_106 rfl (Nat.le_of_ble_eq_true rfl) (Nat.le_of_ble_eq_true rfl) F (fun r3 σ2 F => ?_)
        refine s_isn dX13_findWorth_109 (Nat.le_of_ble_eq_true rfl) rfl ?_
        show wG _ _ _ _ [some (.ref (co C)), some (.int a1), some (.int a2), some (.int r3)] _ _ _
        refine s_aln dX13_findWorth_110 rfl ?_
        refine s_bi dX13_findWorth_111 kb_6 ?_
        refine k_696 dX13_findWorth_113 rfl (Nat.le_of_ble_eq_true rfl) (Nat.le_of_ble_eq_true rfl) F (fun r5 σ4 F => ?_)
        refine s_in (t := 142) (r5 = 0) dX13_findWorth_116 rfl rfl (fun hc => ?_) (fun hc => ?_)
        · replace F := F.1 hc
          refine s_incb dX13_findWorth_142 ki_1 rfl (Nat.le_of_ble_eq_true rfl) (fun v2_6 ev2_6 => ?_)
          replace F := F v2_6 ev2_6
          show wG _ _ _ _ [some (.ref (co C)), some (.int a1), some (.int v2_6), some (.int r3)] _ _ _
          refine s_goto (t := 92) dX13_findWorth_145 rfl ?_
          obtain ⟨k, hk, hI⟩ := F
          exact s_k (ih k hk _ _ _ hI) ⟨rfl, rfl, rfl, trivial⟩
        · replace F := F.2 hc
          refine s_aln dX13_findWorth_119 rfl ?_
          refine s_aln dX13_findWorth_120 rfl ?_
          refine gf_160 dX13_findWorth_121 rfl ?_
          refine s_iln dX13_findWorth_124 rfl ?_
          refine s_ald hC dX13_findWorth_125 rt_79 F.1 ?_
          replace F := F.2
          refine s_i2l dX13_findWorth_126 ?_
          refine s_aln dX13_findWorth_127 rfl ?_
          refine gf_163 dX13_findWorth_128 rfl ?_
          refine s_iln dX13_findWorth_131 rfl ?_
          refine s_ald hC dX13_findWorth_132 rt_80 F.1 ?_
          replace F := F.2
          refine s_i2l dX13_findWorth_133 ?_
          refine k_748 dX13_findWorth_134 rfl (Nat.le_of_ble_eq_true rfl) (Nat.le_of_ble_eq_true rfl) F (fun σ7 F => ?_)
          refine s_aln dX13_findWorth_137 rfl ?_
          refine s_iln dX13_findWorth_138 rfl ?_
          refine k_727 dX13_findWorth_139 rfl (Nat.le_of_ble_eq_true rfl) (Nat.le_of_ble_eq_true rfl) F (fun σ9 F => ?_)
          refine s_incb dX13_findWorth_142 ki_1 rfl (Nat.le_of_ble_eq_true rfl) (fun v2_11 ev2_11 => ?_)
          replace F := F v2_11 ev2_11
          show wG _ _ _ _ [some (.ref (co C)), some (.int a1), some (.int v2_11), some (.int r3)] _ _ _
          refine s_goto (t := 92) dX13_findWorth_145 rfl ?_
          obtain ⟨k, hk, hI⟩ := F
          exact s_k (ih k hk _ _ _ hI) ⟨rfl, rfl, rfl, trivial⟩
  exact key n0 a1 a2 σ hI0

def w_findWorth_0 (C : rCx) (Q : rS → Prop)  (a1 : Int32) (σ : rS) : Prop :=
  inb a1 1000 ∧
  ((σ.2.2.1 81 (a1).toNatClampNeg) = 0 →
    cV C 1 m_clearSum [.ref (co C)] σ (fun σ1 =>
      inb a1 1001 ∧
      ∀ v2_3 : Int32, v2_3 = (σ1.2.2.1 76 (a1).toNatClampNeg) →
      w_findWorth_92 C Q  a1 v2_3 σ1)) ∧
  (¬ ((σ.2.2.1 81 (a1).toNatClampNeg) = 0) →
    inb a1 1000 ∧
    ∀ σ4, σ4 = riU σ 119 (a1).toNatClampNeg (0 : Int32) →
    inb a1 1001 ∧
    cV C 5 m_takeNext [.ref (co C), .int (σ4.2.2.1 76 (a1).toNatClampNeg)] σ4 (fun σ5 =>
      inb a1 1001 ∧
      ∀ v2_7 : Int32, v2_7 = ((σ5.2.2.1 76 (a1).toNatClampNeg) + (1 : Int32)) →
      w_findWorth_35 C Q  a1 v2_7 σ5))
theorem t_findWorth_0 {C : rCx} (hC : cOK C) {Q : rS → Prop}   {a1 : Int32} {σ : rS} (F : w_findWorth_0 C Q  a1 σ) : wG C 6 m_findWorth 0 [some (.ref (co C)), some (.int a1), none, none] [] σ (qV Q) := by
  unfold w_findWorth_0 at F
  refine s_aln dX13_findWorth_0 rfl ?_
  refine gf_166 dX13_findWorth_1 rfl ?_
  refine s_iln dX13_findWorth_4 rfl ?_
  refine s_zld hC dX13_findWorth_5 rt_81 F.1 ?_
  replace F := F.2
  refine s_i (t := 81) ((σ.2.2.1 81 (a1).toNatClampNeg) = 0) dX13_findWorth_6 rfl rfl (fun hc => ?_) (fun hc => ?_)
  · replace F := F.1 hc
    refine s_aln dX13_findWorth_81 rfl ?_
    refine k_762 dX13_findWorth_82 rfl (Nat.le_of_ble_eq_true rfl) (Nat.le_of_ble_eq_true rfl) F (fun σ1 F => ?_)
    refine s_aln dX13_findWorth_85 rfl ?_
    refine gf_151 dX13_findWorth_86 rfl ?_
    refine s_iln dX13_findWorth_89 rfl ?_
    refine s_ald hC dX13_findWorth_90 rt_76 F.1 ?_
    replace F := F.2
    refine s_isnb dX13_findWorth_91 (Nat.le_of_ble_eq_true rfl) (fun v2_3 ev2_3 => ?_)
    replace F := F v2_3 ev2_3
    show wG _ _ _ _ [some (.ref (co C)), some (.int a1), some (.int v2_3), none] _ _ _
    exact s_k (t_findWorth_92 hC  F) ⟨rfl, rfl, rfl, trivial⟩
  · replace F := F.2 hc
    refine s_aln dX13_findWorth_9 rfl ?_
    refine gf_238 dX13_findWorth_10 rfl ?_
    refine s_iln dX13_findWorth_13 rfl ?_
    refine s_ic dX13_findWorth_14 ki_0 ?_
    refine s_astb hC dX13_findWorth_15 rt_119 F.1 (fun σ4 eσ4 => ?_)
    replace F := F.2 σ4 eσ4
    refine s_aln dX13_findWorth_16 rfl ?_
    refine s_aln dX13_findWorth_17 rfl ?_
    refine gf_151 dX13_findWorth_18 rfl ?_
    refine s_iln dX13_findWorth_21 rfl ?_
    refine s_ald hC dX13_findWorth_22 rt_76 F.1 ?_
    replace F := F.2
    refine k_867 dX13_findWorth_23 rfl (Nat.le_of_ble_eq_true rfl) (Nat.le_of_ble_eq_true rfl) F (fun σ5 F => ?_)
    refine s_aln dX13_findWorth_26 rfl ?_
    refine gf_151 dX13_findWorth_27 rfl ?_
    refine s_iln dX13_findWorth_30 rfl ?_
    refine s_ald hC dX13_findWorth_31 rt_76 F.1 ?_
    replace F := F.2
    refine s_ic dX13_findWorth_32 ki_1 ?_
    refine s_iadd dX13_findWorth_33 ?_
    refine s_isnb dX13_findWorth_34 (Nat.le_of_ble_eq_true rfl) (fun v2_7 ev2_7 => ?_)
    replace F := F v2_7 ev2_7
    show wG _ _ _ _ [some (.ref (co C)), some (.int a1), some (.int v2_7), none] _ _ _
    exact s_k (t_findWorth_35 hC  F) ⟨rfl, rfl, rfl, trivial⟩

theorem m_findWorth_run {C : rCx} (hC : cOK C) {Q : rS → Prop} {a1 : Int32} {σ : rS} (F : w_findWorth_0 C Q a1 σ) : cV C 6 m_findWorth [.ref (co C), .int a1] σ Q := m_V (m_ent _ 2) (t_findWorth_0 hC F)

theorem dX13_best_0 : decode cX13_best 0 = .ok (.aload_n 0, 1) := by decide +kernel
theorem dX13_best_1 : decode cX13_best 1 = .ok (.aload_n 0, 1) := by decide +kernel
theorem dX13_best_2 : decode cX13_best 2 = .ok (.getfield 533, 3) := by decide +kernel
theorem dX13_best_5 : decode cX13_best 5 = .ok (.ifCond .eq 7, 3) := by decide +kernel
theorem dX13_best_8 : decode cX13_best 8 = .ok (.iconst 0, 1) := by decide +kernel
theorem dX13_best_9 : decode cX13_best 9 = .ok (.goto 4, 3) := by decide +kernel
theorem dX13_best_12 : decode cX13_best 12 = .ok (.iconst 1, 1) := by decide +kernel
theorem dX13_best_13 : decode cX13_best 13 = .ok (.putfield 1, 3) := by decide +kernel
theorem dX13_best_16 : decode cX13_best 16 = .ok (.aload_n 0, 1) := by decide +kernel
theorem dX13_best_17 : decode cX13_best 17 = .ok (.getfield 1, 3) := by decide +kernel
theorem dX13_best_20 : decode cX13_best 20 = .ok (.ifCond .le 5, 3) := by decide +kernel
theorem dX13_best_23 : decode cX13_best 23 = .ok (.iconst 0, 1) := by decide +kernel
theorem dX13_best_24 : decode cX13_best 24 = .ok (.ireturn, 1) := by decide +kernel
theorem dX13_best_25 : decode cX13_best 25 = .ok (.aload_n 0, 1) := by decide +kernel
theorem dX13_best_26 : decode cX13_best 26 = .ok (.getfield 658, 3) := by decide +kernel
theorem dX13_best_29 : decode cX13_best 29 = .ok (.ifCond .le 6, 3) := by decide +kernel
theorem dX13_best_32 : decode cX13_best 32 = .ok (.bipush (-2), 2) := by decide +kernel
theorem dX13_best_34 : decode cX13_best 34 = .ok (.ireturn, 1) := by decide +kernel
theorem dX13_best_35 : decode cX13_best 35 = .ok (.iconst 0, 1) := by decide +kernel
theorem dX13_best_36 : decode cX13_best 36 = .ok (.istore_n 1, 1) := by decide +kernel
theorem dX13_best_37 : decode cX13_best 37 = .ok (.iconst 0, 1) := by decide +kernel
theorem dX13_best_38 : decode cX13_best 38 = .ok (.istore_n 2, 1) := by decide +kernel
theorem dX13_best_39 : decode cX13_best 39 = .ok (.iload_n 2, 1) := by decide +kernel
theorem dX13_best_40 : decode cX13_best 40 = .ok (.aload_n 0, 1) := by decide +kernel
theorem dX13_best_41 : decode cX13_best 41 = .ok (.getfield 542, 3) := by decide +kernel
theorem dX13_best_44 : decode cX13_best 44 = .ok (.if_icmp .ge 16, 3) := by decide +kernel
theorem dX13_best_47 : decode cX13_best 47 = .ok (.aload_n 0, 1) := by decide +kernel
theorem dX13_best_48 : decode cX13_best 48 = .ok (.getfield 198, 3) := by decide +kernel
theorem dX13_best_51 : decode cX13_best 51 = .ok (.iload_n 2, 1) := by decide +kernel
theorem dX13_best_52 : decode cX13_best 52 = .ok (.iconst 0, 1) := by decide +kernel
theorem dX13_best_53 : decode cX13_best 53 = .ok (.bastore, 1) := by decide +kernel
theorem dX13_best_54 : decode cX13_best 54 = .ok (.iinc 2 1, 3) := by decide +kernel
theorem dX13_best_57 : decode cX13_best 57 = .ok (.goto (-18), 3) := by decide +kernel
theorem dX13_best_60 : decode cX13_best 60 = .ok (.iload_n 1, 1) := by decide +kernel
theorem dX13_best_61 : decode cX13_best 61 = .ok (.aload_n 0, 1) := by decide +kernel
theorem dX13_best_62 : decode cX13_best 62 = .ok (.getfield 542, 3) := by decide +kernel
theorem dX13_best_65 : decode cX13_best 65 = .ok (.if_icmp .ge 79, 3) := by decide +kernel
theorem dX13_best_68 : decode cX13_best 68 = .ok (.aload_n 0, 1) := by decide +kernel
theorem dX13_best_69 : decode cX13_best 69 = .ok (.getfield 542, 3) := by decide +kernel
theorem dX13_best_72 : decode cX13_best 72 = .ok (.iconst 1, 1) := by decide +kernel
theorem dX13_best_73 : decode cX13_best 73 = .ok (.isub, 1) := by decide +kernel
theorem dX13_best_74 : decode cX13_best 74 = .ok (.istore_n 2, 1) := by decide +kernel
theorem dX13_best_75 : decode cX13_best 75 = .ok (.iload_n 2, 1) := by decide +kernel
theorem dX13_best_76 : decode cX13_best 76 = .ok (.ifCond .lt 65, 3) := by decide +kernel
theorem dX13_best_79 : decode cX13_best 79 = .ok (.aload_n 0, 1) := by decide +kernel
theorem dX13_best_80 : decode cX13_best 80 = .ok (.getfield 198, 3) := by decide +kernel
theorem dX13_best_83 : decode cX13_best 83 = .ok (.iload_n 2, 1) := by decide +kernel
theorem dX13_best_84 : decode cX13_best 84 = .ok (.baload, 1) := by decide +kernel
theorem dX13_best_85 : decode cX13_best 85 = .ok (.ifCond .ne 50, 3) := by decide +kernel
theorem dX13_best_88 : decode cX13_best 88 = .ok (.aload_n 0, 1) := by decide +kernel
theorem dX13_best_89 : decode cX13_best 89 = .ok (.iload_n 2, 1) := by decide +kernel
theorem dX13_best_90 : decode cX13_best 90 = .ok (.invokevirtual 873, 3) := by decide +kernel
theorem dX13_best_93 : decode cX13_best 93 = .ok (.ifCond .eq 42, 3) := by decide +kernel
theorem dX13_best_96 : decode cX13_best 96 = .ok (.aload_n 0, 1) := by decide +kernel
theorem dX13_best_97 : decode cX13_best 97 = .ok (.iload_n 2, 1) := by decide +kernel
theorem dX13_best_98 : decode cX13_best 98 = .ok (.invokevirtual 876, 3) := by decide +kernel
theorem dX13_best_101 : decode cX13_best 101 = .ok (.aload_n 0, 1) := by decide +kernel
theorem dX13_best_102 : decode cX13_best 102 = .ok (.iconst 4, 1) := by decide +kernel
theorem dX13_best_103 : decode cX13_best 103 = .ok (.invokevirtual 781, 3) := by decide +kernel
theorem dX13_best_106 : decode cX13_best 106 = .ok (.ifCond .ne 11, 3) := by decide +kernel
theorem dX13_best_109 : decode cX13_best 109 = .ok (.aload_n 0, 1) := by decide +kernel
theorem dX13_best_110 : decode cX13_best 110 = .ok (.iconst 5, 1) := by decide +kernel
theorem dX13_best_111 : decode cX13_best 111 = .ok (.invokevirtual 781, 3) := by decide +kernel
theorem dX13_best_114 : decode cX13_best 114 = .ok (.ifCond .eq 6, 3) := by decide +kernel
theorem dX13_best_117 : decode cX13_best 117 = .ok (.bipush (-3), 2) := by decide +kernel
theorem dX13_best_119 : decode cX13_best 119 = .ok (.ireturn, 1) := by decide +kernel
theorem dX13_best_120 : decode cX13_best 120 = .ok (.aload_n 0, 1) := by decide +kernel
theorem dX13_best_121 : decode cX13_best 121 = .ok (.iload_n 2, 1) := by decide +kernel
theorem dX13_best_122 : decode cX13_best 122 = .ok (.invokevirtual 879, 3) := by decide +kernel
theorem dX13_best_125 : decode cX13_best 125 = .ok (.aload_n 0, 1) := by decide +kernel
theorem dX13_best_126 : decode cX13_best 126 = .ok (.getfield 198, 3) := by decide +kernel
theorem dX13_best_129 : decode cX13_best 129 = .ok (.iload_n 2, 1) := by decide +kernel
theorem dX13_best_130 : decode cX13_best 130 = .ok (.iconst 1, 1) := by decide +kernel
theorem dX13_best_131 : decode cX13_best 131 = .ok (.bastore, 1) := by decide +kernel
theorem dX13_best_132 : decode cX13_best 132 = .ok (.iinc 1 1, 3) := by decide +kernel
theorem dX13_best_135 : decode cX13_best 135 = .ok (.iinc 2 (-1), 3) := by decide +kernel
theorem dX13_best_138 : decode cX13_best 138 = .ok (.goto (-63), 3) := by decide +kernel
theorem dX13_best_141 : decode cX13_best 141 = .ok (.goto (-81), 3) := by decide +kernel
theorem dX13_best_144 : decode cX13_best 144 = .ok (.iconst 0, 1) := by decide +kernel
theorem dX13_best_145 : decode cX13_best 145 = .ok (.istore_n 2, 1) := by decide +kernel
theorem dX13_best_146 : decode cX13_best 146 = .ok (.iload_n 2, 1) := by decide +kernel
theorem dX13_best_147 : decode cX13_best 147 = .ok (.aload_n 0, 1) := by decide +kernel
theorem dX13_best_148 : decode cX13_best 148 = .ok (.getfield 542, 3) := by decide +kernel
theorem dX13_best_151 : decode cX13_best 151 = .ok (.if_icmp .ge 80, 3) := by decide +kernel
theorem dX13_best_154 : decode cX13_best 154 = .ok (.aload_n 0, 1) := by decide +kernel
theorem dX13_best_155 : decode cX13_best 155 = .ok (.getfield 172, 3) := by decide +kernel
theorem dX13_best_158 : decode cX13_best 158 = .ok (.iload_n 2, 1) := by decide +kernel
theorem dX13_best_159 : decode cX13_best 159 = .ok (.aload_n 0, 1) := by decide +kernel
theorem dX13_best_160 : decode cX13_best 160 = .ok (.getfield 166, 3) := by decide +kernel
theorem dX13_best_163 : decode cX13_best 163 = .ok (.iload_n 2, 1) := by decide +kernel
theorem dX13_best_164 : decode cX13_best 164 = .ok (.baload, 1) := by decide +kernel
theorem dX13_best_165 : decode cX13_best 165 = .ok (.ifCond .eq 12, 3) := by decide +kernel
theorem dX13_best_168 : decode cX13_best 168 = .ok (.aload_n 0, 1) := by decide +kernel
theorem dX13_best_169 : decode cX13_best 169 = .ok (.getfield 238, 3) := by decide +kernel
theorem dX13_best_172 : decode cX13_best 172 = .ok (.iload_n 2, 1) := by decide +kernel
theorem dX13_best_173 : decode cX13_best 173 = .ok (.iaload, 1) := by decide +kernel
theorem dX13_best_174 : decode cX13_best 174 = .ok (.goto 4, 3) := by decide +kernel
theorem dX13_best_177 : decode cX13_best 177 = .ok (.iconst 0, 1) := by decide +kernel
theorem dX13_best_178 : decode cX13_best 178 = .ok (.iastore, 1) := by decide +kernel
theorem dX13_best_179 : decode cX13_best 179 = .ok (.aload_n 0, 1) := by decide +kernel
theorem dX13_best_180 : decode cX13_best 180 = .ok (.getfield 229, 3) := by decide +kernel
theorem dX13_best_183 : decode cX13_best 183 = .ok (.iload_n 2, 1) := by decide +kernel
theorem dX13_best_184 : decode cX13_best 184 = .ok (.aload_n 0, 1) := by decide +kernel
theorem dX13_best_185 : decode cX13_best 185 = .ok (.getfield 235, 3) := by decide +kernel
theorem dX13_best_188 : decode cX13_best 188 = .ok (.iload_n 2, 1) := by decide +kernel
theorem dX13_best_189 : decode cX13_best 189 = .ok (.iaload, 1) := by decide +kernel
theorem dX13_best_190 : decode cX13_best 190 = .ok (.iastore, 1) := by decide +kernel
theorem dX13_best_191 : decode cX13_best 191 = .ok (.bipush 34, 2) := by decide +kernel
theorem dX13_best_193 : decode cX13_best 193 = .ok (.iload_n 2, 1) := by decide +kernel
theorem dX13_best_194 : decode cX13_best 194 = .ok (.imul, 1) := by decide +kernel
theorem dX13_best_195 : decode cX13_best 195 = .ok (.istore_n 3, 1) := by decide +kernel
theorem dX13_best_196 : decode cX13_best 196 = .ok (.iload_n 3, 1) := by decide +kernel
theorem dX13_best_197 : decode cX13_best 197 = .ok (.bipush 34, 2) := by decide +kernel
theorem dX13_best_199 : decode cX13_best 199 = .ok (.iload_n 2, 1) := by decide +kernel
theorem dX13_best_200 : decode cX13_best 200 = .ok (.imul, 1) := by decide +kernel
theorem dX13_best_201 : decode cX13_best 201 = .ok (.bipush 34, 2) := by decide +kernel
theorem dX13_best_203 : decode cX13_best 203 = .ok (.iadd, 1) := by decide +kernel
theorem dX13_best_204 : decode cX13_best 204 = .ok (.if_icmp .ge 21, 3) := by decide +kernel
theorem dX13_best_207 : decode cX13_best 207 = .ok (.aload_n 0, 1) := by decide +kernel
theorem dX13_best_208 : decode cX13_best 208 = .ok (.getfield 226, 3) := by decide +kernel
theorem dX13_best_211 : decode cX13_best 211 = .ok (.iload_n 3, 1) := by decide +kernel
theorem dX13_best_212 : decode cX13_best 212 = .ok (.aload_n 0, 1) := by decide +kernel
theorem dX13_best_213 : decode cX13_best 213 = .ok (.getfield 232, 3) := by decide +kernel
theorem dX13_best_216 : decode cX13_best 216 = .ok (.iload_n 3, 1) := by decide +kernel
theorem dX13_best_217 : decode cX13_best 217 = .ok (.iaload, 1) := by decide +kernel
theorem dX13_best_218 : decode cX13_best 218 = .ok (.iastore, 1) := by decide +kernel
theorem dX13_best_219 : decode cX13_best 219 = .ok (.iinc 3 1, 3) := by decide +kernel
theorem dX13_best_222 : decode cX13_best 222 = .ok (.goto (-26), 3) := by decide +kernel
theorem dX13_best_225 : decode cX13_best 225 = .ok (.iinc 2 1, 3) := by decide +kernel
theorem dX13_best_228 : decode cX13_best 228 = .ok (.goto (-82), 3) := by decide +kernel
theorem dX13_best_231 : decode cX13_best 231 = .ok (.aload_n 0, 1) := by decide +kernel
theorem dX13_best_232 : decode cX13_best 232 = .ok (.iconst 1, 1) := by decide +kernel
theorem dX13_best_233 : decode cX13_best 233 = .ok (.putfield 539, 3) := by decide +kernel
theorem dX13_best_236 : decode cX13_best 236 = .ok (.aload_n 0, 1) := by decide +kernel
theorem dX13_best_237 : decode cX13_best 237 = .ok (.iconst 0, 1) := by decide +kernel
theorem dX13_best_238 : decode cX13_best 238 = .ok (.putfield 536, 3) := by decide +kernel
theorem dX13_best_241 : decode cX13_best 241 = .ok (.iconst 0, 1) := by decide +kernel
theorem dX13_best_242 : decode cX13_best 242 = .ok (.ireturn, 1) := by decide +kernel
def w_best_75 (C : rCx) (Q : Int32 → rS → Prop) (B60 : Int32 → rS → Prop) (a1 : Int32) (a2 : Int32) (σ : rS) : Prop :=
  ∃ I : Nat → Int32 → Int32 → rS → Prop, (∃ n, I n a1 a2 σ) ∧ ∀ n a1 a2 σ, I n a1 a2 σ →
    (a2 < 0 →
      B60 a1 σ) ∧
    (¬ (a2 < 0) →
      inb a2 1000 ∧
      (¬ ((σ.2.2.1 96 (a2).toNatClampNeg) = 0) →
        ∀ v2_1 : Int32, v2_1 = a2 + (-1 : Int32) →
        ∃ k < n, I k a1 v2_1 σ) ∧
      ((σ.2.2.1 96 (a2).toNatClampNeg) = 0 →
        cI C 0 m_isWorthDone [.ref (co C), .int a2] σ (fun r3 σ2 =>
          (r3 = 0 →
            ∀ v2_4 : Int32, v2_4 = a2 + (-1 : Int32) →
            ∃ k < n, I k a1 v2_4 σ2) ∧
          (¬ (r3 = 0) →
            cV C 6 m_findWorth [.ref (co C), .int a2] σ2 (fun σ5 =>
              cI C 0 m_isLong [.ref (co C), .int (4 : Int32)] σ5 (fun r8 σ7 =>
                (¬ (r8 = 0) →
                  Q (-3 : Int32) σ7) ∧
                (r8 = 0 →
                  cI C 0 m_isLong [.ref (co C), .int (5 : Int32)] σ7 (fun r10 σ9 =>
                    (r10 = 0 →
                      cV C 0 m_keepWorth [.ref (co C), .int a2] σ9 (fun σ11 =>
                        inb a2 1000 ∧
                        ∀ σ13, σ13 = riU σ11 96 (a2).toNatClampNeg (vp_nar .boolean (1 : Int32)) →
                        ∀ v1_14 : Int32, v1_14 = a1 + (1 : Int32) →
                        ∀ v2_15 : Int32, v2_15 = a2 + (-1 : Int32) →
                        ∃ k < n, I k v1_14 v2_15 σ13)) ∧
                    (¬ (r10 = 0) →
                      Q (-3 : Int32) σ9)))))))))
theorem t_best_75 {C : rCx} (hC : cOK C) {Q : Int32 → rS → Prop} {B60 : Int32 → rS → Prop} (hB60 : ∀ a1' τ, B60 a1' τ → wG C 7 m_best 60 [some (.ref (co C)), some (.int a1'), none, none] [] τ (qI Q)) {a1 : Int32} {a2 : Int32} {σ : rS} (F : w_best_75 C Q B60 a1 a2 σ) : wG C 7 m_best 75 [some (.ref (co C)), some (.int a1), some (.int a2), none] [] σ (qI Q) := by
  obtain ⟨I, ⟨n0, hI0⟩, F0⟩ := F
  have key : ∀ n a1 a2 σ, I n a1 a2 σ → wG C 7 m_best 75 [some (.ref (co C)), some (.int a1), some (.int a2), none] [] σ (qI Q) := by
    intro n
    induction n using Nat.strongRecOn with
    | _ n ih =>
      intro a1 a2 σ hI
      have F := F0 n a1 a2 σ hI
      clear hI hI0
      refine s_iln dX13_best_75 rfl ?_
      refine s_i (t := 141) (a2 < 0) dX13_best_76 rfl rfl (fun hc => ?_) (fun hc => ?_)
      · replace F := F.1 hc
        refine s_goto (t := 60) dX13_best_141 rfl ?_
        exact s_k (hB60 _ _ F) ⟨rfl, rfl, trivial⟩
      · replace F := F.2 hc
        refine s_aln dX13_best_79 rfl ?_
        refine gf_198 dX13_best_80 rfl ?_
        refine s_iln dX13_best_83 rfl ?_
        refine s_zld hC dX13_best_84 rt_96 F.1 ?_
        replace F := F.2
        refine s_in (t := 135) ((σ.2.2.1 96 (a2).toNatClampNeg) = 0) dX13_best_85 rfl rfl (fun hc => ?_) (fun hc => ?_)
        · replace F := F.1 hc
          refine s_incb dX13_best_135 ki_m1 rfl (Nat.le_of_ble_eq_true rfl) (fun v2_1 ev2_1 => ?_)
          replace F := F v2_1 ev2_1
          show wG _ _ _ _ [some (.ref (co C)), some (.int a1), some (.int v2_1), none] _ _ _
          refine s_goto (t := 75) dX13_best_138 rfl ?_
          obtain ⟨k, hk, hI⟩ := F
          exact s_k (ih k hk _ _ _ hI) ⟨rfl, rfl, rfl, trivial⟩
        · replace F := F.2 hc
          refine s_aln dX13_best_88 rfl ?_
          refine s_iln dX13_best_89 rfl ?_
          refine k_873 dX13_best_90 rfl (Nat.le_of_ble_eq_true rfl) (Nat.le_of_ble_eq_true rfl) F (fun r3 σ2 F => ?_)
          refine s_i (t := 135) (r3 = 0) dX13_best_93 rfl rfl (fun hc => ?_) (fun hc => ?_)
          · replace F := F.1 hc
            refine s_incb dX13_best_135 ki_m1 rfl (Nat.le_of_ble_eq_true rfl) (fun v2_4 ev2_4 => ?_)
            replace F := F v2_4 ev2_4
            show wG _ _ _ _ [some (.ref (co C)), some (.int a1), some (.int v2_4), none] _ _ _
            refine s_goto (t := 75) dX13_best_138 rfl ?_
            obtain ⟨k, hk, hI⟩ := F
            exact s_k (ih k hk _ _ _ hI) ⟨rfl, rfl, rfl, trivial⟩
          · replace F := F.2 hc
            refine s_aln dX13_best_96 rfl ?_
            refine s_iln dX13_best_97 rfl ?_
            refine k_876 dX13_best_98 rfl (Nat.le_of_ble_eq_true rfl) (Nat.le_of_ble_eq_true rfl) F (fun σ5 F => ?_)
            refine s_aln dX13_best_101 rfl ?_
            refine s_ic dX13_best_102 ki_4 ?_
            refine k_781 dX13_best_103 rfl (Nat.le_of_ble_eq_true rfl) (Nat.le_of_ble_eq_true rfl) F (fun r8 σ7 F => ?_)
            refine s_in (t := 117) (r8 = 0) dX13_best_106 rfl rfl (fun hc => ?_) (fun hc => ?_)
            · replace F := F.1 hc
              refine s_bi dX13_best_117 kb_m3 ?_
              exact s_ri dX13_best_119 rfl in_nar F
            · replace F := F.2 hc
              refine s_aln dX13_best_109 rfl ?_
              refine s_ic dX13_best_110 ki_5 ?_
              refine k_781 dX13_best_111 rfl (Nat.le_of_ble_eq_true rfl) (Nat.le_of_ble_eq_true rfl) F (fun r10 σ9 F => ?_)
              refine s_i (t := 120) (r10 = 0) dX13_best_114 rfl rfl (fun hc => ?_) (fun hc => ?_)
              · replace F := F.1 hc
                refine s_aln dX13_best_120 rfl ?_
                refine s_iln dX13_best_121 rfl ?_
                refine k_879 dX13_best_122 rfl (Nat.le_of_ble_eq_true rfl) (Nat.le_of_ble_eq_true rfl) F (fun σ11 F => ?_)
                refine s_aln dX13_best_125 rfl ?_
                refine gf_198 dX13_best_126 rfl ?_
                refine s_iln dX13_best_129 rfl ?_
                refine s_ic dX13_best_130 ki_1 ?_
                refine s_zstb hC dX13_best_131 rt_96 F.1 (fun σ13 eσ13 => ?_)
                replace F := F.2 σ13 eσ13
                refine s_incb dX13_best_132 ki_1 rfl (Nat.le_of_ble_eq_true rfl) (fun v1_14 ev1_14 => ?_)
                replace F := F v1_14 ev1_14
                show wG _ _ _ _ [some (.ref (co C)), some (.int v1_14), some (.int a2), none] _ _ _
                refine s_incb dX13_best_135 ki_m1 rfl (Nat.le_of_ble_eq_true rfl) (fun v2_15 ev2_15 => ?_)
                replace F := F v2_15 ev2_15
                show wG _ _ _ _ [some (.ref (co C)), some (.int v1_14), some (.int v2_15), none] _ _ _
                refine s_goto (t := 75) dX13_best_138 rfl ?_
                obtain ⟨k, hk, hI⟩ := F
                exact s_k (ih k hk _ _ _ hI) ⟨rfl, rfl, rfl, trivial⟩
              · replace F := F.2 hc
                refine s_bi dX13_best_117 kb_m3 ?_
                exact s_ri dX13_best_119 rfl in_nar F
  exact key n0 a1 a2 σ hI0

def w_best_196 (C : rCx) (Q : Int32 → rS → Prop) (B146 : Int32 → rS → Prop) (a2 : Int32) (a3 : Int32) (σ : rS) : Prop :=
  ∃ I : Nat → Int32 → Int32 → rS → Prop, (∃ n, I n a2 a3 σ) ∧ ∀ n a2 a3 σ, I n a2 a3 σ →
    ((((34 : Int32) * a2) + (34 : Int32)) ≤ a3 →
      ∀ v2_1 : Int32, v2_1 = a2 + (1 : Int32) →
      B146 v2_1 σ) ∧
    (¬ ((((34 : Int32) * a2) + (34 : Int32)) ≤ a3) →
      inb a3 34000 ∧
      inb a3 34000 ∧
      ∀ σ2, σ2 = riU σ 115 (a3).toNatClampNeg (σ.2.2.1 117 (a3).toNatClampNeg) →
      ∀ v3_3 : Int32, v3_3 = a3 + (1 : Int32) →
      ∃ k < n, I k a2 v3_3 σ2)
theorem t_best_196 {C : rCx} (hC : cOK C) {Q : Int32 → rS → Prop} {B146 : Int32 → rS → Prop} (hB146 : ∀ a2' τ, B146 a2' τ → wG C 7 m_best 146 [some (.ref (co C)), none, some (.int a2'), none] [] τ (qI Q)) {a2 : Int32} {a3 : Int32} {σ : rS} (F : w_best_196 C Q B146 a2 a3 σ) : wG C 7 m_best 196 [some (.ref (co C)), none, some (.int a2), some (.int a3)] [] σ (qI Q) := by
  obtain ⟨I, ⟨n0, hI0⟩, F0⟩ := F
  have key : ∀ n a2 a3 σ, I n a2 a3 σ → wG C 7 m_best 196 [some (.ref (co C)), none, some (.int a2), some (.int a3)] [] σ (qI Q) := by
    intro n
    induction n using Nat.strongRecOn with
    | _ n ih =>
      intro a2 a3 σ hI
      have F := F0 n a2 a3 σ hI
      clear hI hI0
      refine s_iln dX13_best_196 rfl ?_
      refine s_bi dX13_best_197 kb_34 ?_
      refine s_iln dX13_best_199 rfl ?_
      refine s_imul dX13_best_200 ?_
      refine s_bi dX13_best_201 kb_34 ?_
      refine s_iadd dX13_best_203 ?_
      refine s_ii (t := 225) ((((34 : Int32) * a2) + (34 : Int32)) ≤ a3) dX13_best_204 rfl rfl (fun hc => ?_) (fun hc => ?_)
      · replace F := F.1 hc
        refine s_incb dX13_best_225 ki_1 rfl (Nat.le_of_ble_eq_true rfl) (fun v2_1 ev2_1 => ?_)
        replace F := F v2_1 ev2_1
        show wG _ _ _ _ [some (.ref (co C)), none, some (.int v2_1), some (.int a3)] _ _ _
        refine s_goto (t := 146) dX13_best_228 rfl ?_
        exact s_k (hB146 _ _ F) ⟨rfl, rfl, trivial⟩
      · replace F := F.2 hc
        refine s_aln dX13_best_207 rfl ?_
        refine gf_226 dX13_best_208 rfl ?_
        refine s_iln dX13_best_211 rfl ?_
        refine s_aln dX13_best_212 rfl ?_
        refine gf_232 dX13_best_213 rfl ?_
        refine s_iln dX13_best_216 rfl ?_
        refine s_ald hC dX13_best_217 rt_117 F.1 ?_
        replace F := F.2
        refine s_astb hC dX13_best_218 rt_115 F.1 (fun σ2 eσ2 => ?_)
        replace F := F.2 σ2 eσ2
        refine s_incb dX13_best_219 ki_1 rfl (Nat.le_of_ble_eq_true rfl) (fun v3_3 ev3_3 => ?_)
        replace F := F v3_3 ev3_3
        show wG _ _ _ _ [some (.ref (co C)), none, some (.int a2), some (.int v3_3)] _ _ _
        refine s_goto (t := 196) dX13_best_222 rfl ?_
        obtain ⟨k, hk, hI⟩ := F
        exact s_k (ih k hk _ _ _ hI) ⟨rfl, rfl, rfl, trivial⟩
  exact key n0 a2 a3 σ hI0

def w_best_178 (C : rCx) (Q : Int32 → rS → Prop) (B146 : Int32 → rS → Prop) (a2 : Int32) (s1 : Int32) (s2 : Int32) (σ : rS) : Prop :=
  inb s1 1000 ∧
  ∀ σ1, σ1 = riU σ 83 (s1).toNatClampNeg s2 →
  inb a2 1000 ∧
  inb a2 1000 ∧
  ∀ σ2, σ2 = riU σ1 116 (a2).toNatClampNeg (σ1.2.2.1 118 (a2).toNatClampNeg) →
  ∀ v3_3 : Int32, v3_3 = ((34 : Int32) * a2) →
  w_best_196 C Q B146 a2 v3_3 σ2
theorem t_best_178 {C : rCx} (hC : cOK C) {Q : Int32 → rS → Prop} {B146 : Int32 → rS → Prop} (hB146 : ∀ a2' τ, B146 a2' τ → wG C 7 m_best 146 [some (.ref (co C)), none, some (.int a2'), none] [] τ (qI Q)) {a2 : Int32} {s1 : Int32} {s2 : Int32} {σ : rS} (F : w_best_178 C Q B146 a2 s1 s2 σ) : wG C 7 m_best 178 [some (.ref (co C)), none, some (.int a2), none] [.int s2, .int s1, .ref (cad C 83)] σ (qI Q) := by
  unfold w_best_178 at F
  refine s_astb hC dX13_best_178 rt_83 F.1 (fun σ1 eσ1 => ?_)
  replace F := F.2 σ1 eσ1
  refine s_aln dX13_best_179 rfl ?_
  refine gf_229 dX13_best_180 rfl ?_
  refine s_iln dX13_best_183 rfl ?_
  refine s_aln dX13_best_184 rfl ?_
  refine gf_235 dX13_best_185 rfl ?_
  refine s_iln dX13_best_188 rfl ?_
  refine s_ald hC dX13_best_189 rt_118 F.1 ?_
  replace F := F.2
  refine s_astb hC dX13_best_190 rt_116 F.1 (fun σ2 eσ2 => ?_)
  replace F := F.2 σ2 eσ2
  refine s_bi dX13_best_191 kb_34 ?_
  refine s_iln dX13_best_193 rfl ?_
  refine s_imul dX13_best_194 ?_
  refine s_isnb dX13_best_195 (Nat.le_of_ble_eq_true rfl) (fun v3_3 ev3_3 => ?_)
  replace F := F v3_3 ev3_3
  show wG _ _ _ _ [some (.ref (co C)), none, some (.int a2), some (.int v3_3)] _ _ _
  exact s_k (t_best_196 hC hB146 F) ⟨rfl, rfl, rfl, trivial⟩

def w_best_146 (C : rCx) (Q : Int32 → rS → Prop)  (a2 : Int32) (σ : rS) : Prop :=
  ∃ I : Nat → Int32 → rS → Prop, (∃ n, I n a2 σ) ∧ ∀ n a2 σ, I n a2 σ →
    ((σ.1 70) ≤ a2 →
      ∀ σ1, σ1 = siU σ 114 (1 : Int32) →
      ∀ σ2, σ2 = siU σ1 94 (0 : Int32) →
      Q (0 : Int32) σ2) ∧
    (¬ ((σ.1 70) ≤ a2) →
      inb a2 1000 ∧
      ((σ.2.2.1 81 (a2).toNatClampNeg) = 0 →
        w_best_178 C Q (fun a2' τ => ∃ k < n, I k a2' τ) a2 a2 (0 : Int32) σ) ∧
      (¬ ((σ.2.2.1 81 (a2).toNatClampNeg) = 0) →
        inb a2 1000 ∧
        w_best_178 C Q (fun a2' τ => ∃ k < n, I k a2' τ) a2 a2 (σ.2.2.1 119 (a2).toNatClampNeg) σ))
theorem t_best_146 {C : rCx} (hC : cOK C) {Q : Int32 → rS → Prop}   {a2 : Int32} {σ : rS} (F : w_best_146 C Q  a2 σ) : wG C 7 m_best 146 [some (.ref (co C)), none, some (.int a2), none] [] σ (qI Q) := by
  obtain ⟨I, ⟨n0, hI0⟩, F0⟩ := F
  have key : ∀ n a2 σ, I n a2 σ → wG C 7 m_best 146 [some (.ref (co C)), none, some (.int a2), none] [] σ (qI Q) := by
    intro n
    induction n using Nat.strongRecOn with
    | _ n ih =>
      intro a2 σ hI
      have F := F0 n a2 σ hI
      clear hI hI0
      refine s_iln dX13_best_146 rfl ?_
      refine s_aln dX13_best_147 rfl ?_
      refine gf_542 dX13_best_148 rfl ?_
      refine s_ii (t := 231) ((σ.1 70) ≤ a2) dX13_best_151 rfl rfl (fun hc => ?_) (fun hc => ?_)
      · replace F := F.1 hc
        refine s_aln dX13_best_231 rfl ?_
        refine s_ic dX13_best_232 ki_1 ?_
        refine pf_539 hC dX13_best_233 rfl (nb_nar nb_1) (fun σ1 eσ1 => ?_)
        replace F := F σ1 eσ1
        refine s_aln dX13_best_236 rfl ?_
        refine s_ic dX13_best_237 ki_0 ?_
        refine pf_536 hC dX13_best_238 rfl (nb_nar nb_0) (fun σ2 eσ2 => ?_)
        replace F := F σ2 eσ2
        refine s_ic dX13_best_241 ki_0 ?_
        exact s_ri dX13_best_242 rfl in_nar F
      · replace F := F.2 hc
        refine s_aln dX13_best_154 rfl ?_
        refine gf_172 dX13_best_155 rfl ?_
        refine s_iln dX13_best_158 rfl ?_
        refine s_aln dX13_best_159 rfl ?_
        refine gf_166 dX13_best_160 rfl ?_
        refine s_iln dX13_best_163 rfl ?_
        refine s_zld hC dX13_best_164 rt_81 F.1 ?_
        replace F := F.2
        refine s_i (t := 177) ((σ.2.2.1 81 (a2).toNatClampNeg) = 0) dX13_best_165 rfl rfl (fun hc => ?_) (fun hc => ?_)
        · replace F := F.1 hc
          refine s_ic dX13_best_177 ki_0 ?_
          exact s_k (t_best_178 hC (fun a2' τ hb => by obtain ⟨k, hk, hI⟩ := hb; exact ih k hk a2' τ hI) F) ⟨rfl, rfl, trivial⟩
        · replace F := F.2 hc
          refine s_aln dX13_best_168 rfl ?_
          refine gf_238 dX13_best_169 rfl ?_
          refine s_iln dX13_best_172 rfl ?_
          refine s_ald hC dX13_best_173 rt_119 F.1 ?_
          replace F := F.2
          refine s_goto (t := 178) dX13_best_174 rfl ?_
          exact s_k (t_best_178 hC (fun a2' τ hb => by obtain ⟨k, hk, hI⟩ := hb; exact ih k hk a2' τ hI) F) ⟨rfl, rfl, trivial⟩
  exact key n0 a2 σ hI0

def w_best_60 (C : rCx) (Q : Int32 → rS → Prop)  (a1 : Int32) (σ : rS) : Prop :=
  ∃ I : Nat → Int32 → rS → Prop, (∃ n, I n a1 σ) ∧ ∀ n a1 σ, I n a1 σ →
    ((σ.1 70) ≤ a1 →
      w_best_146 C Q  (0 : Int32) σ) ∧
    (¬ ((σ.1 70) ≤ a1) →
      ∀ v2_1 : Int32, v2_1 = ((σ.1 70) - (1 : Int32)) →
      w_best_75 C Q (fun a1' τ => ∃ k < n, I k a1' τ) a1 v2_1 σ)
theorem t_best_60 {C : rCx} (hC : cOK C) {Q : Int32 → rS → Prop}   {a1 : Int32} {σ : rS} (F : w_best_60 C Q  a1 σ) : wG C 7 m_best 60 [some (.ref (co C)), some (.int a1), none, none] [] σ (qI Q) := by
  obtain ⟨I, ⟨n0, hI0⟩, F0⟩ := F
  have key : ∀ n a1 σ, I n a1 σ → wG C 7 m_best 60 [some (.ref (co C)), some (.int a1), none, none] [] σ (qI Q) := by
    intro n
    induction n using Nat.strongRecOn with
    | _ n ih =>
      intro a1 σ hI
      have F := F0 n a1 σ hI
      clear hI hI0
      refine s_iln dX13_best_60 rfl ?_
      refine s_aln dX13_best_61 rfl ?_
      refine gf_542 dX13_best_62 rfl ?_
      refine s_ii (t := 144) ((σ.1 70) ≤ a1) dX13_best_65 rfl rfl (fun hc => ?_) (fun hc => ?_)
      · replace F := F.1 hc
        refine s_ic dX13_best_144 ki_0 ?_
        refine s_isn dX13_best_145 (Nat.le_of_ble_eq_true rfl) rfl ?_
        show wG _ _ _ _ [some (.ref (co C)), some (.int a1), some (.int (0 : Int32)), none] _ _ _
        exact s_k (t_best_146 hC  F) ⟨rfl, rfl, trivial⟩
      · replace F := F.2 hc
        refine s_aln dX13_best_68 rfl ?_
        refine gf_542 dX13_best_69 rfl ?_
        refine s_ic dX13_best_72 ki_1 ?_
        refine s_isub dX13_best_73 ?_
        refine s_isnb dX13_best_74 (Nat.le_of_ble_eq_true rfl) (fun v2_1 ev2_1 => ?_)
        replace F := F v2_1 ev2_1
        show wG _ _ _ _ [some (.ref (co C)), some (.int a1), some (.int v2_1), none] _ _ _
        exact s_k (t_best_75 hC (fun a1' τ hb => by obtain ⟨k, hk, hI⟩ := hb; exact ih k hk a1' τ hI) F) ⟨rfl, rfl, rfl, trivial⟩
  exact key n0 a1 σ hI0

def w_best_39 (C : rCx) (Q : Int32 → rS → Prop)  (a1 : Int32) (a2 : Int32) (σ : rS) : Prop :=
  ∃ I : Nat → Int32 → Int32 → rS → Prop, (∃ n, I n a1 a2 σ) ∧ ∀ n a1 a2 σ, I n a1 a2 σ →
    ((σ.1 70) ≤ a2 →
      w_best_60 C Q  a1 σ) ∧
    (¬ ((σ.1 70) ≤ a2) →
      inb a2 1000 ∧
      ∀ σ1, σ1 = riU σ 96 (a2).toNatClampNeg (vp_nar .boolean (0 : Int32)) →
      ∀ v2_2 : Int32, v2_2 = a2 + (1 : Int32) →
      ∃ k < n, I k a1 v2_2 σ1)
theorem t_best_39 {C : rCx} (hC : cOK C) {Q : Int32 → rS → Prop}   {a1 : Int32} {a2 : Int32} {σ : rS} (F : w_best_39 C Q  a1 a2 σ) : wG C 7 m_best 39 [some (.ref (co C)), some (.int a1), some (.int a2), none] [] σ (qI Q) := by
  obtain ⟨I, ⟨n0, hI0⟩, F0⟩ := F
  have key : ∀ n a1 a2 σ, I n a1 a2 σ → wG C 7 m_best 39 [some (.ref (co C)), some (.int a1), some (.int a2), none] [] σ (qI Q) := by
    intro n
    induction n using Nat.strongRecOn with
    | _ n ih =>
      intro a1 a2 σ hI
      have F := F0 n a1 a2 σ hI
      clear hI hI0
      refine s_iln dX13_best_39 rfl ?_
      refine s_aln dX13_best_40 rfl ?_
      refine gf_542 dX13_best_41 rfl ?_
      refine s_ii (t := 60) ((σ.1 70) ≤ a2) dX13_best_44 rfl rfl (fun hc => ?_) (fun hc => ?_)
      · replace F := F.1 hc
        exact s_k (t_best_60 hC  F) ⟨rfl, rfl, trivial⟩
      · replace F := F.2 hc
        refine s_aln dX13_best_47 rfl ?_
        refine gf_198 dX13_best_48 rfl ?_
        refine s_iln dX13_best_51 rfl ?_
        refine s_ic dX13_best_52 ki_0 ?_
        refine s_zstb hC dX13_best_53 rt_96 F.1 (fun σ1 eσ1 => ?_)
        replace F := F.2 σ1 eσ1
        refine s_incb dX13_best_54 ki_1 rfl (Nat.le_of_ble_eq_true rfl) (fun v2_2 ev2_2 => ?_)
        replace F := F v2_2 ev2_2
        show wG _ _ _ _ [some (.ref (co C)), some (.int a1), some (.int v2_2), none] _ _ _
        refine s_goto (t := 39) dX13_best_57 rfl ?_
        obtain ⟨k, hk, hI⟩ := F
        exact s_k (ih k hk _ _ _ hI) ⟨rfl, rfl, rfl, trivial⟩
  exact key n0 a1 a2 σ hI0

def w_best_13 (C : rCx) (Q : Int32 → rS → Prop)  (s1 : Int32) (σ : rS) : Prop :=
  ∀ σ1, σ1 = siU σ 0 s1 →
  ((σ1.1 0) ≤ 0 →
    ((σ1.1 88) ≤ 0 →
      w_best_39 C Q  (0 : Int32) (0 : Int32) σ1) ∧
    (¬ ((σ1.1 88) ≤ 0) →
      Q (-2 : Int32) σ1)) ∧
  (¬ ((σ1.1 0) ≤ 0) →
    Q (0 : Int32) σ1)
theorem t_best_13 {C : rCx} (hC : cOK C) {Q : Int32 → rS → Prop}   {s1 : Int32} {σ : rS} (F : w_best_13 C Q  s1 σ) : wG C 7 m_best 13 [some (.ref (co C)), none, none, none] [.int s1, .ref (co C)] σ (qI Q) := by
  unfold w_best_13 at F
  refine pf_1 hC dX13_best_13 rfl (fun σ1 eσ1 => ?_)
  replace F := F σ1 eσ1
  refine s_aln dX13_best_16 rfl ?_
  refine gf_1 dX13_best_17 rfl ?_
  refine s_i (t := 25) ((σ1.1 0) ≤ 0) dX13_best_20 rfl rfl (fun hc => ?_) (fun hc => ?_)
  · replace F := F.1 hc
    refine s_aln dX13_best_25 rfl ?_
    refine gf_658 dX13_best_26 rfl ?_
    refine s_i (t := 35) ((σ1.1 88) ≤ 0) dX13_best_29 rfl rfl (fun hc => ?_) (fun hc => ?_)
    · replace F := F.1 hc
      refine s_ic dX13_best_35 ki_0 ?_
      refine s_isn dX13_best_36 (Nat.le_of_ble_eq_true rfl) rfl ?_
      show wG _ _ _ _ [some (.ref (co C)), some (.int (0 : Int32)), none, none] _ _ _
      refine s_ic dX13_best_37 ki_0 ?_
      refine s_isn dX13_best_38 (Nat.le_of_ble_eq_true rfl) rfl ?_
      show wG _ _ _ _ [some (.ref (co C)), some (.int (0 : Int32)), some (.int (0 : Int32)), none] _ _ _
      exact s_k (t_best_39 hC  F) ⟨rfl, rfl, rfl, trivial⟩
    · replace F := F.2 hc
      refine s_bi dX13_best_32 kb_m2 ?_
      exact s_ri dX13_best_34 rfl in_nar F
  · replace F := F.2 hc
    refine s_ic dX13_best_23 ki_0 ?_
    exact s_ri dX13_best_24 rfl in_nar F

def w_best_0 (C : rCx) (Q : Int32 → rS → Prop)   (σ : rS) : Prop :=
  ((σ.1 69) = 0 →
    w_best_13 C Q  (1 : Int32) σ) ∧
  (¬ ((σ.1 69) = 0) →
    w_best_13 C Q  (0 : Int32) σ)
theorem t_best_0 {C : rCx} (hC : cOK C) {Q : Int32 → rS → Prop}    {σ : rS} (F : w_best_0 C Q   σ) : wG C 7 m_best 0 [some (.ref (co C)), none, none, none] [] σ (qI Q) := by
  unfold w_best_0 at F
  refine s_aln dX13_best_0 rfl ?_
  refine s_aln dX13_best_1 rfl ?_
  refine gf_533 dX13_best_2 rfl ?_
  refine s_i (t := 12) ((σ.1 69) = 0) dX13_best_5 rfl rfl (fun hc => ?_) (fun hc => ?_)
  · replace F := F.1 hc
    refine s_ic dX13_best_12 ki_1 ?_
    exact s_k (t_best_13 hC  F) ⟨rfl, trivial⟩
  · replace F := F.2 hc
    refine s_ic dX13_best_8 ki_0 ?_
    refine s_goto (t := 13) dX13_best_9 rfl ?_
    exact s_k (t_best_13 hC  F) ⟨rfl, trivial⟩

theorem m_best_run {C : rCx} (hC : cOK C) {Q : Int32 → rS → Prop}  {σ : rS} (F : w_best_0 C Q  σ) : cI C 7 m_best [.ref (co C)] σ Q := m_I (m_ent _ 3) (t_best_0 hC F)

