/-! methods of the reference: endsAtOnce, canEnd, isRingWith, ringOf, findRings, explore, count, isState, latestAt -/
theorem dX13_endsAtOnce_0 : decode cX13_endsAtOnce 0 = .ok (.iconst 0, 1) := by decide +kernel
theorem dX13_endsAtOnce_1 : decode cX13_endsAtOnce 1 = .ok (.istore_n 3, 1) := by decide +kernel
theorem dX13_endsAtOnce_2 : decode cX13_endsAtOnce 2 = .ok (.aload_n 0, 1) := by decide +kernel
theorem dX13_endsAtOnce_3 : decode cX13_endsAtOnce 3 = .ok (.getfield 151, 3) := by decide +kernel
theorem dX13_endsAtOnce_6 : decode cX13_endsAtOnce 6 = .ok (.iload_n 1, 1) := by decide +kernel
theorem dX13_endsAtOnce_7 : decode cX13_endsAtOnce 7 = .ok (.iaload, 1) := by decide +kernel
theorem dX13_endsAtOnce_8 : decode cX13_endsAtOnce 8 = .ok (.istore 4, 2) := by decide +kernel
theorem dX13_endsAtOnce_10 : decode cX13_endsAtOnce 10 = .ok (.iload 4, 2) := by decide +kernel
theorem dX13_endsAtOnce_12 : decode cX13_endsAtOnce 12 = .ok (.aload_n 0, 1) := by decide +kernel
theorem dX13_endsAtOnce_13 : decode cX13_endsAtOnce 13 = .ok (.getfield 151, 3) := by decide +kernel
theorem dX13_endsAtOnce_16 : decode cX13_endsAtOnce 16 = .ok (.iload_n 1, 1) := by decide +kernel
theorem dX13_endsAtOnce_17 : decode cX13_endsAtOnce 17 = .ok (.iconst 1, 1) := by decide +kernel
theorem dX13_endsAtOnce_18 : decode cX13_endsAtOnce 18 = .ok (.iadd, 1) := by decide +kernel
theorem dX13_endsAtOnce_19 : decode cX13_endsAtOnce 19 = .ok (.iaload, 1) := by decide +kernel
theorem dX13_endsAtOnce_20 : decode cX13_endsAtOnce 20 = .ok (.if_icmp .ge 40, 3) := by decide +kernel
theorem dX13_endsAtOnce_23 : decode cX13_endsAtOnce 23 = .ok (.iload_n 3, 1) := by decide +kernel
theorem dX13_endsAtOnce_24 : decode cX13_endsAtOnce 24 = .ok (.ifCond .ne 24, 3) := by decide +kernel
theorem dX13_endsAtOnce_27 : decode cX13_endsAtOnce 27 = .ok (.aload_n 0, 1) := by decide +kernel
theorem dX13_endsAtOnce_28 : decode cX13_endsAtOnce 28 = .ok (.getfield 154, 3) := by decide +kernel
theorem dX13_endsAtOnce_31 : decode cX13_endsAtOnce 31 = .ok (.iload 4, 2) := by decide +kernel
theorem dX13_endsAtOnce_33 : decode cX13_endsAtOnce 33 = .ok (.iaload, 1) := by decide +kernel
theorem dX13_endsAtOnce_34 : decode cX13_endsAtOnce 34 = .ok (.ifCond .eq 18, 3) := by decide +kernel
theorem dX13_endsAtOnce_37 : decode cX13_endsAtOnce 37 = .ok (.aload_n 0, 1) := by decide +kernel
theorem dX13_endsAtOnce_38 : decode cX13_endsAtOnce 38 = .ok (.iload_n 1, 1) := by decide +kernel
theorem dX13_endsAtOnce_39 : decode cX13_endsAtOnce 39 = .ok (.iload 4, 2) := by decide +kernel
theorem dX13_endsAtOnce_41 : decode cX13_endsAtOnce 41 = .ok (.iload_n 2, 1) := by decide +kernel
theorem dX13_endsAtOnce_42 : decode cX13_endsAtOnce 42 = .ok (.invokevirtual 640, 3) := by decide +kernel
theorem dX13_endsAtOnce_45 : decode cX13_endsAtOnce 45 = .ok (.ifCond .eq 7, 3) := by decide +kernel
theorem dX13_endsAtOnce_48 : decode cX13_endsAtOnce 48 = .ok (.iconst 1, 1) := by decide +kernel
theorem dX13_endsAtOnce_49 : decode cX13_endsAtOnce 49 = .ok (.goto 4, 3) := by decide +kernel
theorem dX13_endsAtOnce_52 : decode cX13_endsAtOnce 52 = .ok (.iconst 0, 1) := by decide +kernel
theorem dX13_endsAtOnce_53 : decode cX13_endsAtOnce 53 = .ok (.istore_n 3, 1) := by decide +kernel
theorem dX13_endsAtOnce_54 : decode cX13_endsAtOnce 54 = .ok (.iinc 4 1, 3) := by decide +kernel
theorem dX13_endsAtOnce_57 : decode cX13_endsAtOnce 57 = .ok (.goto (-47), 3) := by decide +kernel
theorem dX13_endsAtOnce_60 : decode cX13_endsAtOnce 60 = .ok (.iload_n 3, 1) := by decide +kernel
theorem dX13_endsAtOnce_61 : decode cX13_endsAtOnce 61 = .ok (.ireturn, 1) := by decide +kernel
def w_endsAtOnce_53 (C : rCx) (Q : Int32 → rS → Prop) (B10 : Int32 → Int32 → Int32 → Int32 → rS → Prop) (a1 : Int32) (a2 : Int32) (a4 : Int32) (s0 : Int32) (σ : rS) : Prop :=
  ∀ v4_1 : Int32, v4_1 = a4 + (1 : Int32) →
  B10 a1 a2 s0 v4_1 σ
theorem t_endsAtOnce_53 {C : rCx} (hC : cOK C) {Q : Int32 → rS → Prop} {B10 : Int32 → Int32 → Int32 → Int32 → rS → Prop} (hB10 : ∀ a1' a2' a3' a4' τ, B10 a1' a2' a3' a4' τ → wG C 1 m_endsAtOnce 10 [some (.ref (co C)), some (.int a1'), some (.int a2'), some (.int a3'), some (.int a4')] [] τ (qI Q)) {a1 : Int32} {a2 : Int32} {a4 : Int32} {s0 : Int32} {σ : rS} (F : w_endsAtOnce_53 C Q B10 a1 a2 a4 s0 σ) : wG C 1 m_endsAtOnce 53 [some (.ref (co C)), some (.int a1), some (.int a2), none, some (.int a4)] [.int s0] σ (qI Q) := by
  unfold w_endsAtOnce_53 at F
  refine s_isn dX13_endsAtOnce_53 (Nat.le_of_ble_eq_true rfl) rfl ?_
  refine s_incb dX13_endsAtOnce_54 ki_1 rfl (Nat.le_of_ble_eq_true rfl) (fun v4_1 ev4_1 => ?_)
  replace F := F v4_1 ev4_1
  refine s_goto (t := 10) dX13_endsAtOnce_57 rfl ?_
  exact s_k (hB10 _ _ _ _ _ F) ⟨rfl, rfl, rfl, rfl, rfl, trivial⟩

def w_endsAtOnce_10 (C : rCx) (Q : Int32 → rS → Prop)  (a1 : Int32) (a2 : Int32) (a3 : Int32) (a4 : Int32) (σ : rS) : Prop :=
  ∃ I : Nat → Int32 → Int32 → Int32 → Int32 → rS → Prop, (∃ n, I n a1 a2 a3 a4 σ) ∧ ∀ n a1 a2 a3 a4 σ, I n a1 a2 a3 a4 σ →
    inb (a1 + (1 : Int32)) 1001 ∧
    ((σ.2.2.1 76 ((a1 + (1 : Int32))).toNatClampNeg) ≤ a4 →
      nb a3 ∧ Q a3 σ) ∧
    (¬ ((σ.2.2.1 76 ((a1 + (1 : Int32))).toNatClampNeg) ≤ a4) →
      (¬ (a3 = 0) →
        w_endsAtOnce_53 C Q (fun a1' a2' a3' a4' τ => ∃ k < n, I k a1' a2' a3' a4' τ) a1 a2 a4 (1 : Int32) σ) ∧
      (a3 = 0 →
        inb a4 20000 ∧
        ((σ.2.2.1 77 (a4).toNatClampNeg) = 0 →
          w_endsAtOnce_53 C Q (fun a1' a2' a3' a4' τ => ∃ k < n, I k a1' a2' a3' a4' τ) a1 a2 a4 (0 : Int32) σ) ∧
        (¬ ((σ.2.2.1 77 (a4).toNatClampNeg) = 0) →
          cI C 0 m_isTaken [.ref (co C), .int a1, .int a4, .int a2] σ (fun r2 σ1 =>
            (r2 = 0 →
              w_endsAtOnce_53 C Q (fun a1' a2' a3' a4' τ => ∃ k < n, I k a1' a2' a3' a4' τ) a1 a2 a4 (0 : Int32) σ1) ∧
            (¬ (r2 = 0) →
              w_endsAtOnce_53 C Q (fun a1' a2' a3' a4' τ => ∃ k < n, I k a1' a2' a3' a4' τ) a1 a2 a4 (1 : Int32) σ1)))))
theorem t_endsAtOnce_10 {C : rCx} (hC : cOK C) {Q : Int32 → rS → Prop}   {a1 : Int32} {a2 : Int32} {a3 : Int32} {a4 : Int32} {σ : rS} (F : w_endsAtOnce_10 C Q  a1 a2 a3 a4 σ) : wG C 1 m_endsAtOnce 10 [some (.ref (co C)), some (.int a1), some (.int a2), some (.int a3), some (.int a4)] [] σ (qI Q) := by
  obtain ⟨I, ⟨n0, hI0⟩, F0⟩ := F
  have key : ∀ n a1 a2 a3 a4 σ, I n a1 a2 a3 a4 σ → wG C 1 m_endsAtOnce 10 [some (.ref (co C)), some (.int a1), some (.int a2), some (.int a3), some (.int a4)] [] σ (qI Q) := by
    intro n
    induction n using Nat.strongRecOn with
    | _ n ih =>
      intro a1 a2 a3 a4 σ hI
      have F := F0 n a1 a2 a3 a4 σ hI
      clear hI hI0
      refine s_il dX13_endsAtOnce_10 rfl ?_
      refine s_aln dX13_endsAtOnce_12 rfl ?_
      refine gf_151 dX13_endsAtOnce_13 rfl ?_
      refine s_iln dX13_endsAtOnce_16 rfl ?_
      refine s_ic dX13_endsAtOnce_17 ki_1 ?_
      refine s_iadd dX13_endsAtOnce_18 ?_
      refine s_ald hC dX13_endsAtOnce_19 rt_76 F.1 ?_
      replace F := F.2
      refine s_ii (t := 60) ((σ.2.2.1 76 ((a1 + (1 : Int32))).toNatClampNeg) ≤ a4) dX13_endsAtOnce_20 rfl rfl (fun hc => ?_) (fun hc => ?_)
      · replace F := F.1 hc
        refine s_iln dX13_endsAtOnce_60 rfl ?_
        exact s_ri dX13_endsAtOnce_61 rfl (nb_nar F.1) F.2
      · replace F := F.2 hc
        refine s_iln dX13_endsAtOnce_23 rfl ?_
        refine s_in (t := 48) (a3 = 0) dX13_endsAtOnce_24 rfl rfl (fun hc => ?_) (fun hc => ?_)
        · replace F := F.1 hc
          refine s_ic dX13_endsAtOnce_48 ki_1 ?_
          refine s_goto (t := 53) dX13_endsAtOnce_49 rfl ?_
          exact s_k (t_endsAtOnce_53 hC (fun a1' a2' a3' a4' τ hb => by obtain ⟨k, hk, hI⟩ := hb; exact ih k hk a1' a2' a3' a4' τ hI) F) ⟨rfl, rfl, rfl, rfl, trivial⟩
        · replace F := F.2 hc
          refine s_aln dX13_endsAtOnce_27 rfl ?_
          refine gf_154 dX13_endsAtOnce_28 rfl ?_
          refine s_il dX13_endsAtOnce_31 rfl ?_
          refine s_ald hC dX13_endsAtOnce_33 rt_77 F.1 ?_
          replace F := F.2
          refine s_i (t := 52) ((σ.2.2.1 77 (a4).toNatClampNeg) = 0) dX13_endsAtOnce_34 rfl rfl (fun hc => ?_) (fun hc => ?_)
          · replace F := F.1 hc
            refine s_ic dX13_endsAtOnce_52 ki_0 ?_
            exact s_k (t_endsAtOnce_53 hC (fun a1' a2' a3' a4' τ hb => by obtain ⟨k, hk, hI⟩ := hb; exact ih k hk a1' a2' a3' a4' τ hI) F) ⟨rfl, rfl, rfl, rfl, trivial⟩
          · replace F := F.2 hc
            refine s_aln dX13_endsAtOnce_37 rfl ?_
            refine s_iln dX13_endsAtOnce_38 rfl ?_
            refine s_il dX13_endsAtOnce_39 rfl ?_
            refine s_iln dX13_endsAtOnce_41 rfl ?_
            refine k_640 dX13_endsAtOnce_42 rfl (Nat.le_of_ble_eq_true rfl) (Nat.le_of_ble_eq_true rfl) F (fun r2 σ1 F => ?_)
            refine s_i (t := 52) (r2 = 0) dX13_endsAtOnce_45 rfl rfl (fun hc => ?_) (fun hc => ?_)
            · replace F := F.1 hc
              refine s_ic dX13_endsAtOnce_52 ki_0 ?_
              exact s_k (t_endsAtOnce_53 hC (fun a1' a2' a3' a4' τ hb => by obtain ⟨k, hk, hI⟩ := hb; exact ih k hk a1' a2' a3' a4' τ hI) F) ⟨rfl, rfl, rfl, rfl, trivial⟩
            · replace F := F.2 hc
              refine s_ic dX13_endsAtOnce_48 ki_1 ?_
              refine s_goto (t := 53) dX13_endsAtOnce_49 rfl ?_
              exact s_k (t_endsAtOnce_53 hC (fun a1' a2' a3' a4' τ hb => by obtain ⟨k, hk, hI⟩ := hb; exact ih k hk a1' a2' a3' a4' τ hI) F) ⟨rfl, rfl, rfl, rfl, trivial⟩
  exact key n0 a1 a2 a3 a4 σ hI0

def w_endsAtOnce_0 (C : rCx) (Q : Int32 → rS → Prop)  (a1 : Int32) (a2 : Int32) (σ : rS) : Prop :=
  inb a1 1001 ∧
  ∀ v4_1 : Int32, v4_1 = (σ.2.2.1 76 (a1).toNatClampNeg) →
  w_endsAtOnce_10 C Q  a1 a2 (0 : Int32) v4_1 σ
theorem t_endsAtOnce_0 {C : rCx} (hC : cOK C) {Q : Int32 → rS → Prop}   {a1 : Int32} {a2 : Int32} {σ : rS} (F : w_endsAtOnce_0 C Q  a1 a2 σ) : wG C 1 m_endsAtOnce 0 [some (.ref (co C)), some (.int a1), some (.int a2), none, none] [] σ (qI Q) := by
  unfold w_endsAtOnce_0 at F
  refine s_ic dX13_endsAtOnce_0 ki_0 ?_
  refine s_isn dX13_endsAtOnce_1 (Nat.le_of_ble_eq_true rfl) rfl ?_
  refine s_aln dX13_endsAtOnce_2 rfl ?_
  refine gf_151 dX13_endsAtOnce_3 rfl ?_
  refine s_iln dX13_endsAtOnce_6 rfl ?_
  refine s_ald hC dX13_endsAtOnce_7 rt_76 F.1 ?_
  replace F := F.2
  refine s_isb dX13_endsAtOnce_8 (Nat.le_of_ble_eq_true rfl) (fun v4_1 ev4_1 => ?_)
  replace F := F v4_1 ev4_1
  exact s_k (t_endsAtOnce_10 hC  F) ⟨rfl, rfl, rfl, rfl, rfl, trivial⟩

theorem m_endsAtOnce_run {C : rCx} (hC : cOK C) {Q : Int32 → rS → Prop} {a1 : Int32} {a2 : Int32} {σ : rS} (F : w_endsAtOnce_0 C Q a1 a2 σ) : cI C 1 m_endsAtOnce [.ref (co C), .int a1, .int a2] σ Q := m_I (m_ent _ 2) (t_endsAtOnce_0 hC F)

theorem dX13_canEnd_0 : decode cX13_canEnd 0 = .ok (.aload_n 0, 1) := by decide +kernel
theorem dX13_canEnd_1 : decode cX13_canEnd 1 = .ok (.iload_n 1, 1) := by decide +kernel
theorem dX13_canEnd_2 : decode cX13_canEnd 2 = .ok (.iload_n 2, 1) := by decide +kernel
theorem dX13_canEnd_3 : decode cX13_canEnd 3 = .ok (.invokevirtual 647, 3) := by decide +kernel
theorem dX13_canEnd_6 : decode cX13_canEnd 6 = .ok (.istore_n 3, 1) := by decide +kernel
theorem dX13_canEnd_7 : decode cX13_canEnd 7 = .ok (.iconst 0, 1) := by decide +kernel
theorem dX13_canEnd_8 : decode cX13_canEnd 8 = .ok (.istore 4, 2) := by decide +kernel
theorem dX13_canEnd_10 : decode cX13_canEnd 10 = .ok (.iload 4, 2) := by decide +kernel
theorem dX13_canEnd_12 : decode cX13_canEnd 12 = .ok (.aload_n 0, 1) := by decide +kernel
theorem dX13_canEnd_13 : decode cX13_canEnd 13 = .ok (.getfield 542, 3) := by decide +kernel
theorem dX13_canEnd_16 : decode cX13_canEnd 16 = .ok (.if_icmp .ge 39, 3) := by decide +kernel
theorem dX13_canEnd_19 : decode cX13_canEnd 19 = .ok (.iload_n 3, 1) := by decide +kernel
theorem dX13_canEnd_20 : decode cX13_canEnd 20 = .ok (.ifCond .ne 35, 3) := by decide +kernel
theorem dX13_canEnd_23 : decode cX13_canEnd 23 = .ok (.aload_n 0, 1) := by decide +kernel
theorem dX13_canEnd_24 : decode cX13_canEnd 24 = .ok (.iload_n 1, 1) := by decide +kernel
theorem dX13_canEnd_25 : decode cX13_canEnd 25 = .ok (.iload 4, 2) := by decide +kernel
theorem dX13_canEnd_27 : decode cX13_canEnd 27 = .ok (.invokevirtual 644, 3) := by decide +kernel
theorem dX13_canEnd_30 : decode cX13_canEnd 30 = .ok (.ifCond .eq 17, 3) := by decide +kernel
theorem dX13_canEnd_33 : decode cX13_canEnd 33 = .ok (.aload_n 0, 1) := by decide +kernel
theorem dX13_canEnd_34 : decode cX13_canEnd 34 = .ok (.iload 4, 2) := by decide +kernel
theorem dX13_canEnd_36 : decode cX13_canEnd 36 = .ok (.iload_n 2, 1) := by decide +kernel
theorem dX13_canEnd_37 : decode cX13_canEnd 37 = .ok (.invokevirtual 647, 3) := by decide +kernel
theorem dX13_canEnd_40 : decode cX13_canEnd 40 = .ok (.ifCond .eq 7, 3) := by decide +kernel
theorem dX13_canEnd_43 : decode cX13_canEnd 43 = .ok (.iconst 1, 1) := by decide +kernel
theorem dX13_canEnd_44 : decode cX13_canEnd 44 = .ok (.goto 4, 3) := by decide +kernel
theorem dX13_canEnd_47 : decode cX13_canEnd 47 = .ok (.iconst 0, 1) := by decide +kernel
theorem dX13_canEnd_48 : decode cX13_canEnd 48 = .ok (.istore_n 3, 1) := by decide +kernel
theorem dX13_canEnd_49 : decode cX13_canEnd 49 = .ok (.iinc 4 1, 3) := by decide +kernel
theorem dX13_canEnd_52 : decode cX13_canEnd 52 = .ok (.goto (-42), 3) := by decide +kernel
theorem dX13_canEnd_55 : decode cX13_canEnd 55 = .ok (.iload_n 3, 1) := by decide +kernel
theorem dX13_canEnd_56 : decode cX13_canEnd 56 = .ok (.ireturn, 1) := by decide +kernel
def w_canEnd_48 (C : rCx) (Q : Int32 → rS → Prop) (B10 : Int32 → Int32 → Int32 → Int32 → rS → Prop) (a1 : Int32) (a2 : Int32) (a4 : Int32) (s0 : Int32) (σ : rS) : Prop :=
  ∀ v4_1 : Int32, v4_1 = a4 + (1 : Int32) →
  B10 a1 a2 s0 v4_1 σ
theorem t_canEnd_48 {C : rCx} (hC : cOK C) {Q : Int32 → rS → Prop} {B10 : Int32 → Int32 → Int32 → Int32 → rS → Prop} (hB10 : ∀ a1' a2' a3' a4' τ, B10 a1' a2' a3' a4' τ → wG C 2 m_canEnd 10 [some (.ref (co C)), some (.int a1'), some (.int a2'), some (.int a3'), some (.int a4')] [] τ (qI Q)) {a1 : Int32} {a2 : Int32} {a4 : Int32} {s0 : Int32} {σ : rS} (F : w_canEnd_48 C Q B10 a1 a2 a4 s0 σ) : wG C 2 m_canEnd 48 [some (.ref (co C)), some (.int a1), some (.int a2), none, some (.int a4)] [.int s0] σ (qI Q) := by
  unfold w_canEnd_48 at F
  refine s_isn dX13_canEnd_48 (Nat.le_of_ble_eq_true rfl) rfl ?_
  refine s_incb dX13_canEnd_49 ki_1 rfl (Nat.le_of_ble_eq_true rfl) (fun v4_1 ev4_1 => ?_)
  replace F := F v4_1 ev4_1
  refine s_goto (t := 10) dX13_canEnd_52 rfl ?_
  exact s_k (hB10 _ _ _ _ _ F) ⟨rfl, rfl, rfl, rfl, rfl, trivial⟩

def w_canEnd_10 (C : rCx) (Q : Int32 → rS → Prop)  (a1 : Int32) (a2 : Int32) (a3 : Int32) (a4 : Int32) (σ : rS) : Prop :=
  ∃ I : Nat → Int32 → Int32 → Int32 → Int32 → rS → Prop, (∃ n, I n a1 a2 a3 a4 σ) ∧ ∀ n a1 a2 a3 a4 σ, I n a1 a2 a3 a4 σ →
    ((σ.1 70) ≤ a4 →
      nb a3 ∧ Q a3 σ) ∧
    (¬ ((σ.1 70) ≤ a4) →
      (¬ (a3 = 0) →
        nb a3 ∧ Q a3 σ) ∧
      (a3 = 0 →
        cI C 0 m_leads [.ref (co C), .int a1, .int a4] σ (fun r2 σ1 =>
          (r2 = 0 →
            w_canEnd_48 C Q (fun a1' a2' a3' a4' τ => ∃ k < n, I k a1' a2' a3' a4' τ) a1 a2 a4 (0 : Int32) σ1) ∧
          (¬ (r2 = 0) →
            cI C 1 m_endsAtOnce [.ref (co C), .int a4, .int a2] σ1 (fun r4 σ3 =>
              (r4 = 0 →
                w_canEnd_48 C Q (fun a1' a2' a3' a4' τ => ∃ k < n, I k a1' a2' a3' a4' τ) a1 a2 a4 (0 : Int32) σ3) ∧
              (¬ (r4 = 0) →
                w_canEnd_48 C Q (fun a1' a2' a3' a4' τ => ∃ k < n, I k a1' a2' a3' a4' τ) a1 a2 a4 (1 : Int32) σ3))))))
theorem t_canEnd_10 {C : rCx} (hC : cOK C) {Q : Int32 → rS → Prop}   {a1 : Int32} {a2 : Int32} {a3 : Int32} {a4 : Int32} {σ : rS} (F : w_canEnd_10 C Q  a1 a2 a3 a4 σ) : wG C 2 m_canEnd 10 [some (.ref (co C)), some (.int a1), some (.int a2), some (.int a3), some (.int a4)] [] σ (qI Q) := by
  obtain ⟨I, ⟨n0, hI0⟩, F0⟩ := F
  have key : ∀ n a1 a2 a3 a4 σ, I n a1 a2 a3 a4 σ → wG C 2 m_canEnd 10 [some (.ref (co C)), some (.int a1), some (.int a2), some (.int a3), some (.int a4)] [] σ (qI Q) := by
    intro n
    induction n using Nat.strongRecOn with
    | _ n ih =>
      intro a1 a2 a3 a4 σ hI
      have F := F0 n a1 a2 a3 a4 σ hI
      clear hI hI0
      refine s_il dX13_canEnd_10 rfl ?_
      refine s_aln dX13_canEnd_12 rfl ?_
      refine gf_542 dX13_canEnd_13 rfl ?_
      refine s_ii (t := 55) ((σ.1 70) ≤ a4) dX13_canEnd_16 rfl rfl (fun hc => ?_) (fun hc => ?_)
      · replace F := F.1 hc
        refine s_iln dX13_canEnd_55 rfl ?_
        exact s_ri dX13_canEnd_56 rfl (nb_nar F.1) F.2
      · replace F := F.2 hc
        refine s_iln dX13_canEnd_19 rfl ?_
        refine s_in (t := 55) (a3 = 0) dX13_canEnd_20 rfl rfl (fun hc => ?_) (fun hc => ?_)
        · replace F := F.1 hc
          refine s_iln dX13_canEnd_55 rfl ?_
          exact s_ri dX13_canEnd_56 rfl (nb_nar F.1) F.2
        · replace F := F.2 hc
          refine s_aln dX13_canEnd_23 rfl ?_
          refine s_iln dX13_canEnd_24 rfl ?_
          refine s_il dX13_canEnd_25 rfl ?_
          refine k_644 dX13_canEnd_27 rfl (Nat.le_of_ble_eq_true rfl) (Nat.le_of_ble_eq_true rfl) F (fun r2 σ1 F => ?_)
          refine s_i (t := 47) (r2 = 0) dX13_canEnd_30 rfl rfl (fun hc => ?_) (fun hc => ?_)
          · replace F := F.1 hc
            refine s_ic dX13_canEnd_47 ki_0 ?_
            exact s_k (t_canEnd_48 hC (fun a1' a2' a3' a4' τ hb => by obtain ⟨k, hk, hI⟩ := hb; exact ih k hk a1' a2' a3' a4' τ hI) F) ⟨rfl, rfl, rfl, rfl, trivial⟩
          · replace F := F.2 hc
            refine s_aln dX13_canEnd_33 rfl ?_
            refine s_il dX13_canEnd_34 rfl ?_
            refine s_iln dX13_canEnd_36 rfl ?_
            refine k_647 dX13_canEnd_37 rfl (Nat.le_of_ble_eq_true rfl) (Nat.le_of_ble_eq_true rfl) F (fun r4 σ3 F => ?_)
            refine s_i (t := 47) (r4 = 0) dX13_canEnd_40 rfl rfl (fun hc => ?_) (fun hc => ?_)
            · replace F := F.1 hc
              refine s_ic dX13_canEnd_47 ki_0 ?_
              exact s_k (t_canEnd_48 hC (fun a1' a2' a3' a4' τ hb => by obtain ⟨k, hk, hI⟩ := hb; exact ih k hk a1' a2' a3' a4' τ hI) F) ⟨rfl, rfl, rfl, rfl, trivial⟩
            · replace F := F.2 hc
              refine s_ic dX13_canEnd_43 ki_1 ?_
              refine s_goto (t := 48) dX13_canEnd_44 rfl ?_
              exact s_k (t_canEnd_48 hC (fun a1' a2' a3' a4' τ hb => by obtain ⟨k, hk, hI⟩ := hb; exact ih k hk a1' a2' a3' a4' τ hI) F) ⟨rfl, rfl, rfl, rfl, trivial⟩
  exact key n0 a1 a2 a3 a4 σ hI0

def w_canEnd_0 (C : rCx) (Q : Int32 → rS → Prop)  (a1 : Int32) (a2 : Int32) (σ : rS) : Prop :=
  cI C 1 m_endsAtOnce [.ref (co C), .int a1, .int a2] σ (fun r2 σ1 =>
    w_canEnd_10 C Q  a1 a2 r2 (0 : Int32) σ1)
theorem t_canEnd_0 {C : rCx} (hC : cOK C) {Q : Int32 → rS → Prop}   {a1 : Int32} {a2 : Int32} {σ : rS} (F : w_canEnd_0 C Q  a1 a2 σ) : wG C 2 m_canEnd 0 [some (.ref (co C)), some (.int a1), some (.int a2), none, none] [] σ (qI Q) := by
  unfold w_canEnd_0 at F
  refine s_aln dX13_canEnd_0 rfl ?_
  refine s_iln dX13_canEnd_1 rfl ?_
  refine s_iln dX13_canEnd_2 rfl ?_
  refine k_647 dX13_canEnd_3 rfl (Nat.le_of_ble_eq_true rfl) (Nat.le_of_ble_eq_true rfl) F (fun r2 σ1 F => ?_)
  refine s_isn dX13_canEnd_6 (Nat.le_of_ble_eq_true rfl) rfl ?_
  refine s_ic dX13_canEnd_7 ki_0 ?_
  refine s_is dX13_canEnd_8 (Nat.le_of_ble_eq_true rfl) rfl ?_
  exact s_k (t_canEnd_10 hC  F) ⟨rfl, rfl, rfl, rfl, rfl, trivial⟩

theorem m_canEnd_run {C : rCx} (hC : cOK C) {Q : Int32 → rS → Prop} {a1 : Int32} {a2 : Int32} {σ : rS} (F : w_canEnd_0 C Q a1 a2 σ) : cI C 2 m_canEnd [.ref (co C), .int a1, .int a2] σ Q := m_I (m_ent _ 2) (t_canEnd_0 hC F)

theorem dX13_isRingWith_0 : decode cX13_isRingWith 0 = .ok (.aload_n 0, 1) := by decide +kernel
theorem dX13_isRingWith_1 : decode cX13_isRingWith 1 = .ok (.iload_n 1, 1) := by decide +kernel
theorem dX13_isRingWith_2 : decode cX13_isRingWith 2 = .ok (.iload_n 2, 1) := by decide +kernel
theorem dX13_isRingWith_3 : decode cX13_isRingWith 3 = .ok (.invokevirtual 644, 3) := by decide +kernel
theorem dX13_isRingWith_6 : decode cX13_isRingWith 6 = .ok (.ifCond .eq 16, 3) := by decide +kernel
theorem dX13_isRingWith_9 : decode cX13_isRingWith 9 = .ok (.aload_n 0, 1) := by decide +kernel
theorem dX13_isRingWith_10 : decode cX13_isRingWith 10 = .ok (.iload_n 2, 1) := by decide +kernel
theorem dX13_isRingWith_11 : decode cX13_isRingWith 11 = .ok (.iload_n 1, 1) := by decide +kernel
theorem dX13_isRingWith_12 : decode cX13_isRingWith 12 = .ok (.invokevirtual 644, 3) := by decide +kernel
theorem dX13_isRingWith_15 : decode cX13_isRingWith 15 = .ok (.ifCond .eq 7, 3) := by decide +kernel
theorem dX13_isRingWith_18 : decode cX13_isRingWith 18 = .ok (.iconst 1, 1) := by decide +kernel
theorem dX13_isRingWith_19 : decode cX13_isRingWith 19 = .ok (.goto 4, 3) := by decide +kernel
theorem dX13_isRingWith_22 : decode cX13_isRingWith 22 = .ok (.iconst 0, 1) := by decide +kernel
theorem dX13_isRingWith_23 : decode cX13_isRingWith 23 = .ok (.ireturn, 1) := by decide +kernel
def w_isRingWith_0 (C : rCx) (Q : Int32 → rS → Prop)  (a1 : Int32) (a2 : Int32) (σ : rS) : Prop :=
  cI C 0 m_leads [.ref (co C), .int a1, .int a2] σ (fun r2 σ1 =>
    (r2 = 0 →
      Q (0 : Int32) σ1) ∧
    (¬ (r2 = 0) →
      cI C 0 m_leads [.ref (co C), .int a2, .int a1] σ1 (fun r4 σ3 =>
        (r4 = 0 →
          Q (0 : Int32) σ3) ∧
        (¬ (r4 = 0) →
          Q (1 : Int32) σ3))))
theorem t_isRingWith_0 {C : rCx} (hC : cOK C) {Q : Int32 → rS → Prop}   {a1 : Int32} {a2 : Int32} {σ : rS} (F : w_isRingWith_0 C Q  a1 a2 σ) : wG C 1 m_isRingWith 0 [some (.ref (co C)), some (.int a1), some (.int a2)] [] σ (qI Q) := by
  unfold w_isRingWith_0 at F
  refine s_aln dX13_isRingWith_0 rfl ?_
  refine s_iln dX13_isRingWith_1 rfl ?_
  refine s_iln dX13_isRingWith_2 rfl ?_
  refine k_644 dX13_isRingWith_3 rfl (Nat.le_of_ble_eq_true rfl) (Nat.le_of_ble_eq_true rfl) F (fun r2 σ1 F => ?_)
  refine s_i (t := 22) (r2 = 0) dX13_isRingWith_6 rfl rfl (fun hc => ?_) (fun hc => ?_)
  · replace F := F.1 hc
    refine s_ic dX13_isRingWith_22 ki_0 ?_
    exact s_ri dX13_isRingWith_23 rfl (nb_nar nb_0) F
  · replace F := F.2 hc
    refine s_aln dX13_isRingWith_9 rfl ?_
    refine s_iln dX13_isRingWith_10 rfl ?_
    refine s_iln dX13_isRingWith_11 rfl ?_
    refine k_644 dX13_isRingWith_12 rfl (Nat.le_of_ble_eq_true rfl) (Nat.le_of_ble_eq_true rfl) F (fun r4 σ3 F => ?_)
    refine s_i (t := 22) (r4 = 0) dX13_isRingWith_15 rfl rfl (fun hc => ?_) (fun hc => ?_)
    · replace F := F.1 hc
      refine s_ic dX13_isRingWith_22 ki_0 ?_
      exact s_ri dX13_isRingWith_23 rfl (nb_nar nb_0) F
    · replace F := F.2 hc
      refine s_ic dX13_isRingWith_18 ki_1 ?_
      refine s_goto (t := 23) dX13_isRingWith_19 rfl ?_
      exact s_ri dX13_isRingWith_23 rfl (nb_nar nb_1) F

theorem m_isRingWith_run {C : rCx} (hC : cOK C) {Q : Int32 → rS → Prop} {a1 : Int32} {a2 : Int32} {σ : rS} (F : w_isRingWith_0 C Q a1 a2 σ) : cI C 1 m_isRingWith [.ref (co C), .int a1, .int a2] σ Q := m_I (m_ent _ 0) (t_isRingWith_0 hC F)

theorem dX13_ringOf_0 : decode cX13_ringOf 0 = .ok (.aload_n 0, 1) := by decide +kernel
theorem dX13_ringOf_1 : decode cX13_ringOf 1 = .ok (.iload_n 1, 1) := by decide +kernel
theorem dX13_ringOf_2 : decode cX13_ringOf 2 = .ok (.iload_n 1, 1) := by decide +kernel
theorem dX13_ringOf_3 : decode cX13_ringOf 3 = .ok (.invokevirtual 644, 3) := by decide +kernel
theorem dX13_ringOf_6 : decode cX13_ringOf 6 = .ok (.ifCond .ne 5, 3) := by decide +kernel
theorem dX13_ringOf_9 : decode cX13_ringOf 9 = .ok (.iconst 0, 1) := by decide +kernel
theorem dX13_ringOf_10 : decode cX13_ringOf 10 = .ok (.ireturn, 1) := by decide +kernel
theorem dX13_ringOf_11 : decode cX13_ringOf 11 = .ok (.iconst 0, 1) := by decide +kernel
theorem dX13_ringOf_12 : decode cX13_ringOf 12 = .ok (.istore_n 2, 1) := by decide +kernel
theorem dX13_ringOf_13 : decode cX13_ringOf 13 = .ok (.iconst 0, 1) := by decide +kernel
theorem dX13_ringOf_14 : decode cX13_ringOf 14 = .ok (.istore_n 3, 1) := by decide +kernel
theorem dX13_ringOf_15 : decode cX13_ringOf 15 = .ok (.iload_n 3, 1) := by decide +kernel
theorem dX13_ringOf_16 : decode cX13_ringOf 16 = .ok (.aload_n 0, 1) := by decide +kernel
theorem dX13_ringOf_17 : decode cX13_ringOf 17 = .ok (.getfield 542, 3) := by decide +kernel
theorem dX13_ringOf_20 : decode cX13_ringOf 20 = .ok (.if_icmp .ge 28, 3) := by decide +kernel
theorem dX13_ringOf_23 : decode cX13_ringOf 23 = .ok (.aload_n 0, 1) := by decide +kernel
theorem dX13_ringOf_24 : decode cX13_ringOf 24 = .ok (.iload_n 1, 1) := by decide +kernel
theorem dX13_ringOf_25 : decode cX13_ringOf 25 = .ok (.iload_n 3, 1) := by decide +kernel
theorem dX13_ringOf_26 : decode cX13_ringOf 26 = .ok (.invokevirtual 651, 3) := by decide +kernel
theorem dX13_ringOf_29 : decode cX13_ringOf 29 = .ok (.ifCond .eq 13, 3) := by decide +kernel
theorem dX13_ringOf_32 : decode cX13_ringOf 32 = .ok (.iload_n 3, 1) := by decide +kernel
theorem dX13_ringOf_33 : decode cX13_ringOf 33 = .ok (.iload_n 1, 1) := by decide +kernel
theorem dX13_ringOf_34 : decode cX13_ringOf 34 = .ok (.if_icmp .ge 5, 3) := by decide +kernel
theorem dX13_ringOf_37 : decode cX13_ringOf 37 = .ok (.iconst 0, 1) := by decide +kernel
theorem dX13_ringOf_38 : decode cX13_ringOf 38 = .ok (.ireturn, 1) := by decide +kernel
theorem dX13_ringOf_39 : decode cX13_ringOf 39 = .ok (.iinc 2 1, 3) := by decide +kernel
theorem dX13_ringOf_42 : decode cX13_ringOf 42 = .ok (.iinc 3 1, 3) := by decide +kernel
theorem dX13_ringOf_45 : decode cX13_ringOf 45 = .ok (.goto (-30), 3) := by decide +kernel
theorem dX13_ringOf_48 : decode cX13_ringOf 48 = .ok (.iload_n 2, 1) := by decide +kernel
theorem dX13_ringOf_49 : decode cX13_ringOf 49 = .ok (.ireturn, 1) := by decide +kernel
def w_ringOf_15 (C : rCx) (Q : Int32 → rS → Prop)  (a1 : Int32) (a2 : Int32) (a3 : Int32) (σ : rS) : Prop :=
  ∃ I : Nat → Int32 → Int32 → Int32 → rS → Prop, (∃ n, I n a1 a2 a3 σ) ∧ ∀ n a1 a2 a3 σ, I n a1 a2 a3 σ →
    ((σ.1 70) ≤ a3 →
      Q a2 σ) ∧
    (¬ ((σ.1 70) ≤ a3) →
      cI C 1 m_isRingWith [.ref (co C), .int a1, .int a3] σ (fun r2 σ1 =>
        (r2 = 0 →
          ∀ v3_3 : Int32, v3_3 = a3 + (1 : Int32) →
          ∃ k < n, I k a1 a2 v3_3 σ1) ∧
        (¬ (r2 = 0) →
          (a1 ≤ a3 →
            ∀ v2_4 : Int32, v2_4 = a2 + (1 : Int32) →
            ∀ v3_5 : Int32, v3_5 = a3 + (1 : Int32) →
            ∃ k < n, I k a1 v2_4 v3_5 σ1) ∧
          (¬ (a1 ≤ a3) →
            Q (0 : Int32) σ1))))
theorem t_ringOf_15 {C : rCx} (hC : cOK C) {Q : Int32 → rS → Prop}   {a1 : Int32} {a2 : Int32} {a3 : Int32} {σ : rS} (F : w_ringOf_15 C Q  a1 a2 a3 σ) : wG C 2 m_ringOf 15 [some (.ref (co C)), some (.int a1), some (.int a2), some (.int a3)] [] σ (qI Q) := by
  obtain ⟨I, ⟨n0, hI0⟩, F0⟩ := F
  have key : ∀ n a1 a2 a3 σ, I n a1 a2 a3 σ → wG C 2 m_ringOf 15 [some (.ref (co C)), some (.int a1), some (.int a2), some (.int a3)] [] σ (qI Q) := by
    intro n
    induction n using Nat.strongRecOn with
    | _ n ih =>
      intro a1 a2 a3 σ hI
      have F := F0 n a1 a2 a3 σ hI
      clear hI hI0
      refine s_iln dX13_ringOf_15 rfl ?_
      refine s_aln dX13_ringOf_16 rfl ?_
      refine gf_542 dX13_ringOf_17 rfl ?_
      refine s_ii (t := 48) ((σ.1 70) ≤ a3) dX13_ringOf_20 rfl rfl (fun hc => ?_) (fun hc => ?_)
      · replace F := F.1 hc
        refine s_iln dX13_ringOf_48 rfl ?_
        exact s_ri dX13_ringOf_49 rfl in_nar F
      · replace F := F.2 hc
        refine s_aln dX13_ringOf_23 rfl ?_
        refine s_iln dX13_ringOf_24 rfl ?_
        refine s_iln dX13_ringOf_25 rfl ?_
        refine k_651 dX13_ringOf_26 rfl (Nat.le_of_ble_eq_true rfl) (Nat.le_of_ble_eq_true rfl) F (fun r2 σ1 F => ?_)
        refine s_i (t := 42) (r2 = 0) dX13_ringOf_29 rfl rfl (fun hc => ?_) (fun hc => ?_)
        · replace F := F.1 hc
          refine s_incb dX13_ringOf_42 ki_1 rfl (Nat.le_of_ble_eq_true rfl) (fun v3_3 ev3_3 => ?_)
          replace F := F v3_3 ev3_3
          refine s_goto (t := 15) dX13_ringOf_45 rfl ?_
          obtain ⟨k, hk, hI⟩ := F
          exact s_k (ih k hk _ _ _ _ hI) ⟨rfl, rfl, rfl, rfl, trivial⟩
        · replace F := F.2 hc
          refine s_iln dX13_ringOf_32 rfl ?_
          refine s_iln dX13_ringOf_33 rfl ?_
          refine s_ii (t := 39) (a1 ≤ a3) dX13_ringOf_34 rfl rfl (fun hc => ?_) (fun hc => ?_)
          · replace F := F.1 hc
            refine s_incb dX13_ringOf_39 ki_1 rfl (Nat.le_of_ble_eq_true rfl) (fun v2_4 ev2_4 => ?_)
            replace F := F v2_4 ev2_4
            refine s_incb dX13_ringOf_42 ki_1 rfl (Nat.le_of_ble_eq_true rfl) (fun v3_5 ev3_5 => ?_)
            replace F := F v3_5 ev3_5
            refine s_goto (t := 15) dX13_ringOf_45 rfl ?_
            obtain ⟨k, hk, hI⟩ := F
            exact s_k (ih k hk _ _ _ _ hI) ⟨rfl, rfl, rfl, rfl, trivial⟩
          · replace F := F.2 hc
            refine s_ic dX13_ringOf_37 ki_0 ?_
            exact s_ri dX13_ringOf_38 rfl in_nar F
  exact key n0 a1 a2 a3 σ hI0

def w_ringOf_0 (C : rCx) (Q : Int32 → rS → Prop)  (a1 : Int32) (σ : rS) : Prop :=
  cI C 0 m_leads [.ref (co C), .int a1, .int a1] σ (fun r2 σ1 =>
    (¬ (r2 = 0) →
      w_ringOf_15 C Q  a1 (0 : Int32) (0 : Int32) σ1) ∧
    (r2 = 0 →
      Q (0 : Int32) σ1))
theorem t_ringOf_0 {C : rCx} (hC : cOK C) {Q : Int32 → rS → Prop}   {a1 : Int32} {σ : rS} (F : w_ringOf_0 C Q  a1 σ) : wG C 2 m_ringOf 0 [some (.ref (co C)), some (.int a1), none, none] [] σ (qI Q) := by
  unfold w_ringOf_0 at F
  refine s_aln dX13_ringOf_0 rfl ?_
  refine s_iln dX13_ringOf_1 rfl ?_
  refine s_iln dX13_ringOf_2 rfl ?_
  refine k_644 dX13_ringOf_3 rfl (Nat.le_of_ble_eq_true rfl) (Nat.le_of_ble_eq_true rfl) F (fun r2 σ1 F => ?_)
  refine s_in (t := 11) (r2 = 0) dX13_ringOf_6 rfl rfl (fun hc => ?_) (fun hc => ?_)
  · replace F := F.1 hc
    refine s_ic dX13_ringOf_11 ki_0 ?_
    refine s_isn dX13_ringOf_12 (Nat.le_of_ble_eq_true rfl) rfl ?_
    refine s_ic dX13_ringOf_13 ki_0 ?_
    refine s_isn dX13_ringOf_14 (Nat.le_of_ble_eq_true rfl) rfl ?_
    exact s_k (t_ringOf_15 hC  F) ⟨rfl, rfl, rfl, rfl, trivial⟩
  · replace F := F.2 hc
    refine s_ic dX13_ringOf_9 ki_0 ?_
    exact s_ri dX13_ringOf_10 rfl in_nar F

theorem m_ringOf_run {C : rCx} (hC : cOK C) {Q : Int32 → rS → Prop} {a1 : Int32} {σ : rS} (F : w_ringOf_0 C Q a1 σ) : cI C 2 m_ringOf [.ref (co C), .int a1] σ Q := m_I (m_ent _ 2) (t_ringOf_0 hC F)

theorem dX13_findRings_0 : decode cX13_findRings 0 = .ok (.aload_n 0, 1) := by decide +kernel
theorem dX13_findRings_1 : decode cX13_findRings 1 = .ok (.iconst 0, 1) := by decide +kernel
theorem dX13_findRings_2 : decode cX13_findRings 2 = .ok (.aload_n 0, 1) := by decide +kernel
theorem dX13_findRings_3 : decode cX13_findRings 3 = .ok (.getfield 181, 3) := by decide +kernel
theorem dX13_findRings_6 : decode cX13_findRings 6 = .ok (.iconst 1, 1) := by decide +kernel
theorem dX13_findRings_7 : decode cX13_findRings 7 = .ok (.invokevirtual 654, 3) := by decide +kernel
theorem dX13_findRings_10 : decode cX13_findRings 10 = .ok (.aload_n 0, 1) := by decide +kernel
theorem dX13_findRings_11 : decode cX13_findRings 11 = .ok (.iconst 0, 1) := by decide +kernel
theorem dX13_findRings_12 : decode cX13_findRings 12 = .ok (.putfield 658, 3) := by decide +kernel
theorem dX13_findRings_15 : decode cX13_findRings 15 = .ok (.aload_n 0, 1) := by decide +kernel
theorem dX13_findRings_16 : decode cX13_findRings 16 = .ok (.iconst 0, 1) := by decide +kernel
theorem dX13_findRings_17 : decode cX13_findRings 17 = .ok (.putfield 661, 3) := by decide +kernel
theorem dX13_findRings_20 : decode cX13_findRings 20 = .ok (.iconst 0, 1) := by decide +kernel
theorem dX13_findRings_21 : decode cX13_findRings 21 = .ok (.istore_n 1, 1) := by decide +kernel
theorem dX13_findRings_22 : decode cX13_findRings 22 = .ok (.iload_n 1, 1) := by decide +kernel
theorem dX13_findRings_23 : decode cX13_findRings 23 = .ok (.aload_n 0, 1) := by decide +kernel
theorem dX13_findRings_24 : decode cX13_findRings 24 = .ok (.getfield 542, 3) := by decide +kernel
theorem dX13_findRings_27 : decode cX13_findRings 27 = .ok (.if_icmp .ge 73, 3) := by decide +kernel
theorem dX13_findRings_30 : decode cX13_findRings 30 = .ok (.aload_n 0, 1) := by decide +kernel
theorem dX13_findRings_31 : decode cX13_findRings 31 = .ok (.getfield 181, 3) := by decide +kernel
theorem dX13_findRings_34 : decode cX13_findRings 34 = .ok (.iload_n 1, 1) := by decide +kernel
theorem dX13_findRings_35 : decode cX13_findRings 35 = .ok (.aload_n 0, 1) := by decide +kernel
theorem dX13_findRings_36 : decode cX13_findRings 36 = .ok (.iload_n 1, 1) := by decide +kernel
theorem dX13_findRings_37 : decode cX13_findRings 37 = .ok (.iconst 0, 1) := by decide +kernel
theorem dX13_findRings_38 : decode cX13_findRings 38 = .ok (.invokevirtual 664, 3) := by decide +kernel
theorem dX13_findRings_41 : decode cX13_findRings 41 = .ok (.ifCond .ne 7, 3) := by decide +kernel
theorem dX13_findRings_44 : decode cX13_findRings 44 = .ok (.iconst 1, 1) := by decide +kernel
theorem dX13_findRings_45 : decode cX13_findRings 45 = .ok (.goto 4, 3) := by decide +kernel
theorem dX13_findRings_48 : decode cX13_findRings 48 = .ok (.iconst 0, 1) := by decide +kernel
theorem dX13_findRings_49 : decode cX13_findRings 49 = .ok (.bastore, 1) := by decide +kernel
theorem dX13_findRings_50 : decode cX13_findRings 50 = .ok (.aload_n 0, 1) := by decide +kernel
theorem dX13_findRings_51 : decode cX13_findRings 51 = .ok (.iload_n 1, 1) := by decide +kernel
theorem dX13_findRings_52 : decode cX13_findRings 52 = .ok (.invokevirtual 667, 3) := by decide +kernel
theorem dX13_findRings_55 : decode cX13_findRings 55 = .ok (.istore_n 2, 1) := by decide +kernel
theorem dX13_findRings_56 : decode cX13_findRings 56 = .ok (.aload_n 0, 1) := by decide +kernel
theorem dX13_findRings_57 : decode cX13_findRings 57 = .ok (.dup, 1) := by decide +kernel
theorem dX13_findRings_58 : decode cX13_findRings 58 = .ok (.getfield 658, 3) := by decide +kernel
theorem dX13_findRings_61 : decode cX13_findRings 61 = .ok (.iload_n 2, 1) := by decide +kernel
theorem dX13_findRings_62 : decode cX13_findRings 62 = .ok (.ifCond .le 7, 3) := by decide +kernel
theorem dX13_findRings_65 : decode cX13_findRings 65 = .ok (.iconst 1, 1) := by decide +kernel
theorem dX13_findRings_66 : decode cX13_findRings 66 = .ok (.goto 4, 3) := by decide +kernel
theorem dX13_findRings_69 : decode cX13_findRings 69 = .ok (.iconst 0, 1) := by decide +kernel
theorem dX13_findRings_70 : decode cX13_findRings 70 = .ok (.iadd, 1) := by decide +kernel
theorem dX13_findRings_71 : decode cX13_findRings 71 = .ok (.putfield 658, 3) := by decide +kernel
theorem dX13_findRings_74 : decode cX13_findRings 74 = .ok (.aload_n 0, 1) := by decide +kernel
theorem dX13_findRings_75 : decode cX13_findRings 75 = .ok (.iload_n 2, 1) := by decide +kernel
theorem dX13_findRings_76 : decode cX13_findRings 76 = .ok (.aload_n 0, 1) := by decide +kernel
theorem dX13_findRings_77 : decode cX13_findRings 77 = .ok (.getfield 661, 3) := by decide +kernel
theorem dX13_findRings_80 : decode cX13_findRings 80 = .ok (.if_icmp .le 7, 3) := by decide +kernel
theorem dX13_findRings_83 : decode cX13_findRings 83 = .ok (.iload_n 2, 1) := by decide +kernel
theorem dX13_findRings_84 : decode cX13_findRings 84 = .ok (.goto 7, 3) := by decide +kernel
theorem dX13_findRings_87 : decode cX13_findRings 87 = .ok (.aload_n 0, 1) := by decide +kernel
theorem dX13_findRings_88 : decode cX13_findRings 88 = .ok (.getfield 661, 3) := by decide +kernel
theorem dX13_findRings_91 : decode cX13_findRings 91 = .ok (.putfield 661, 3) := by decide +kernel
theorem dX13_findRings_94 : decode cX13_findRings 94 = .ok (.iinc 1 1, 3) := by decide +kernel
theorem dX13_findRings_97 : decode cX13_findRings 97 = .ok (.goto (-75), 3) := by decide +kernel
theorem dX13_findRings_100 : decode cX13_findRings 100 = .ok (.return_, 1) := by decide +kernel
def w_findRings_91 (C : rCx) (Q : rS → Prop) (B22 : Int32 → rS → Prop) (a1 : Int32) (s1 : Int32) (σ : rS) : Prop :=
  ∀ σ1, σ1 = siU σ 89 s1 →
  ∀ v1_2 : Int32, v1_2 = a1 + (1 : Int32) →
  B22 v1_2 σ1
theorem t_findRings_91 {C : rCx} (hC : cOK C) {Q : rS → Prop} {B22 : Int32 → rS → Prop} (hB22 : ∀ a1' τ, B22 a1' τ → wG C 3 m_findRings 22 [some (.ref (co C)), some (.int a1'), none] [] τ (qV Q)) {a1 : Int32} {s1 : Int32} {σ : rS} (F : w_findRings_91 C Q B22 a1 s1 σ) : wG C 3 m_findRings 91 [some (.ref (co C)), some (.int a1), none] [.int s1, .ref (co C)] σ (qV Q) := by
  unfold w_findRings_91 at F
  refine pf_661 hC dX13_findRings_91 rfl (fun σ1 eσ1 => ?_)
  replace F := F σ1 eσ1
  refine s_incb dX13_findRings_94 ki_1 rfl (Nat.le_of_ble_eq_true rfl) (fun v1_2 ev1_2 => ?_)
  replace F := F v1_2 ev1_2
  refine s_goto (t := 22) dX13_findRings_97 rfl ?_
  exact s_k (hB22 _ _ F) ⟨rfl, rfl, trivial⟩

def w_findRings_70 (C : rCx) (Q : rS → Prop) (B22 : Int32 → rS → Prop) (a1 : Int32) (a2 : Int32) (s1 : Int32) (s2 : Int32) (σ : rS) : Prop :=
  ∀ σ1, σ1 = siU σ 88 (s1 + s2) →
  (a2 ≤ (σ1.1 89) →
    w_findRings_91 C Q B22 a1 (σ1.1 89) σ1) ∧
  (¬ (a2 ≤ (σ1.1 89)) →
    w_findRings_91 C Q B22 a1 a2 σ1)
theorem t_findRings_70 {C : rCx} (hC : cOK C) {Q : rS → Prop} {B22 : Int32 → rS → Prop} (hB22 : ∀ a1' τ, B22 a1' τ → wG C 3 m_findRings 22 [some (.ref (co C)), some (.int a1'), none] [] τ (qV Q)) {a1 : Int32} {a2 : Int32} {s1 : Int32} {s2 : Int32} {σ : rS} (F : w_findRings_70 C Q B22 a1 a2 s1 s2 σ) : wG C 3 m_findRings 70 [some (.ref (co C)), some (.int a1), some (.int a2)] [.int s2, .int s1, .ref (co C)] σ (qV Q) := by
  unfold w_findRings_70 at F
  refine s_iadd dX13_findRings_70 ?_
  refine pf_658 hC dX13_findRings_71 rfl (fun σ1 eσ1 => ?_)
  replace F := F σ1 eσ1
  refine s_aln dX13_findRings_74 rfl ?_
  refine s_iln dX13_findRings_75 rfl ?_
  refine s_aln dX13_findRings_76 rfl ?_
  refine gf_661 dX13_findRings_77 rfl ?_
  refine s_ii (t := 87) (a2 ≤ (σ1.1 89)) dX13_findRings_80 rfl rfl (fun hc => ?_) (fun hc => ?_)
  · replace F := F.1 hc
    refine s_aln dX13_findRings_87 rfl ?_
    refine gf_661 dX13_findRings_88 rfl ?_
    exact s_k (t_findRings_91 hC hB22 F) ⟨rfl, rfl, trivial⟩
  · replace F := F.2 hc
    refine s_iln dX13_findRings_83 rfl ?_
    refine s_goto (t := 91) dX13_findRings_84 rfl ?_
    exact s_k (t_findRings_91 hC hB22 F) ⟨rfl, rfl, trivial⟩

def w_findRings_49 (C : rCx) (Q : rS → Prop) (B22 : Int32 → rS → Prop) (a1 : Int32) (s1 : Int32) (s2 : Int32) (σ : rS) : Prop :=
  inb s1 1000 ∧
  ∀ σ1, σ1 = riU σ 87 (s1).toNatClampNeg (vp_nar .boolean s2) →
  cI C 2 m_ringOf [.ref (co C), .int a1] σ1 (fun r3 σ2 =>
    (r3 ≤ 0 →
      w_findRings_70 C Q B22 a1 r3 (σ2.1 88) (0 : Int32) σ2) ∧
    (¬ (r3 ≤ 0) →
      w_findRings_70 C Q B22 a1 r3 (σ2.1 88) (1 : Int32) σ2))
theorem t_findRings_49 {C : rCx} (hC : cOK C) {Q : rS → Prop} {B22 : Int32 → rS → Prop} (hB22 : ∀ a1' τ, B22 a1' τ → wG C 3 m_findRings 22 [some (.ref (co C)), some (.int a1'), none] [] τ (qV Q)) {a1 : Int32} {s1 : Int32} {s2 : Int32} {σ : rS} (F : w_findRings_49 C Q B22 a1 s1 s2 σ) : wG C 3 m_findRings 49 [some (.ref (co C)), some (.int a1), none] [.int s2, .int s1, .ref (cad C 87)] σ (qV Q) := by
  unfold w_findRings_49 at F
  refine s_zstb hC dX13_findRings_49 rt_87 F.1 (fun σ1 eσ1 => ?_)
  replace F := F.2 σ1 eσ1
  refine s_aln dX13_findRings_50 rfl ?_
  refine s_iln dX13_findRings_51 rfl ?_
  refine k_667 dX13_findRings_52 rfl (Nat.le_of_ble_eq_true rfl) (Nat.le_of_ble_eq_true rfl) F (fun r3 σ2 F => ?_)
  refine s_isn dX13_findRings_55 (Nat.le_of_ble_eq_true rfl) rfl ?_
  refine s_aln dX13_findRings_56 rfl ?_
  refine s_dup dX13_findRings_57 rfl ?_
  refine gf_658 dX13_findRings_58 rfl ?_
  refine s_iln dX13_findRings_61 rfl ?_
  refine s_i (t := 69) (r3 ≤ 0) dX13_findRings_62 rfl rfl (fun hc => ?_) (fun hc => ?_)
  · replace F := F.1 hc
    refine s_ic dX13_findRings_69 ki_0 ?_
    exact s_k (t_findRings_70 hC hB22 F) ⟨rfl, rfl, rfl, trivial⟩
  · replace F := F.2 hc
    refine s_ic dX13_findRings_65 ki_1 ?_
    refine s_goto (t := 70) dX13_findRings_66 rfl ?_
    exact s_k (t_findRings_70 hC hB22 F) ⟨rfl, rfl, rfl, trivial⟩

def w_findRings_22 (C : rCx) (Q : rS → Prop)  (a1 : Int32) (σ : rS) : Prop :=
  ∃ I : Nat → Int32 → rS → Prop, (∃ n, I n a1 σ) ∧ ∀ n a1 σ, I n a1 σ →
    ((σ.1 70) ≤ a1 →
      Q σ) ∧
    (¬ ((σ.1 70) ≤ a1) →
      cI C 2 m_canEnd [.ref (co C), .int a1, .int (0 : Int32)] σ (fun r2 σ1 =>
        (¬ (r2 = 0) →
          w_findRings_49 C Q (fun a1' τ => ∃ k < n, I k a1' τ) a1 a1 (0 : Int32) σ1) ∧
        (r2 = 0 →
          w_findRings_49 C Q (fun a1' τ => ∃ k < n, I k a1' τ) a1 a1 (1 : Int32) σ1)))
theorem t_findRings_22 {C : rCx} (hC : cOK C) {Q : rS → Prop}   {a1 : Int32} {σ : rS} (F : w_findRings_22 C Q  a1 σ) : wG C 3 m_findRings 22 [some (.ref (co C)), some (.int a1), none] [] σ (qV Q) := by
  obtain ⟨I, ⟨n0, hI0⟩, F0⟩ := F
  have key : ∀ n a1 σ, I n a1 σ → wG C 3 m_findRings 22 [some (.ref (co C)), some (.int a1), none] [] σ (qV Q) := by
    intro n
    induction n using Nat.strongRecOn with
    | _ n ih =>
      intro a1 σ hI
      have F := F0 n a1 σ hI
      clear hI hI0
      refine s_iln dX13_findRings_22 rfl ?_
      refine s_aln dX13_findRings_23 rfl ?_
      refine gf_542 dX13_findRings_24 rfl ?_
      refine s_ii (t := 100) ((σ.1 70) ≤ a1) dX13_findRings_27 rfl rfl (fun hc => ?_) (fun hc => ?_)
      · replace F := F.1 hc
        exact s_rv dX13_findRings_100 rfl F
      · replace F := F.2 hc
        refine s_aln dX13_findRings_30 rfl ?_
        refine gf_181 dX13_findRings_31 rfl ?_
        refine s_iln dX13_findRings_34 rfl ?_
        refine s_aln dX13_findRings_35 rfl ?_
        refine s_iln dX13_findRings_36 rfl ?_
        refine s_ic dX13_findRings_37 ki_0 ?_
        refine k_664 dX13_findRings_38 rfl (Nat.le_of_ble_eq_true rfl) (Nat.le_of_ble_eq_true rfl) F (fun r2 σ1 F => ?_)
        refine s_in (t := 48) (r2 = 0) dX13_findRings_41 rfl rfl (fun hc => ?_) (fun hc => ?_)
        · replace F := F.1 hc
          refine s_ic dX13_findRings_48 ki_0 ?_
          exact s_k (t_findRings_49 hC (fun a1' τ hb => by obtain ⟨k, hk, hI⟩ := hb; exact ih k hk a1' τ hI) F) ⟨rfl, rfl, trivial⟩
        · replace F := F.2 hc
          refine s_ic dX13_findRings_44 ki_1 ?_
          refine s_goto (t := 49) dX13_findRings_45 rfl ?_
          exact s_k (t_findRings_49 hC (fun a1' τ hb => by obtain ⟨k, hk, hI⟩ := hb; exact ih k hk a1' τ hI) F) ⟨rfl, rfl, trivial⟩
  exact key n0 a1 σ hI0

def w_findRings_0 (C : rCx) (Q : rS → Prop)   (σ : rS) : Prop :=
  cV C 1 m_findReach [.ref (co C), .int (0 : Int32), .ref (cad C 87), .int (1 : Int32)] σ (fun σ1 =>
    ∀ σ3, σ3 = siU σ1 88 (0 : Int32) →
    ∀ σ4, σ4 = siU σ3 89 (0 : Int32) →
    w_findRings_22 C Q  (0 : Int32) σ4)
theorem t_findRings_0 {C : rCx} (hC : cOK C) {Q : rS → Prop}    {σ : rS} (F : w_findRings_0 C Q   σ) : wG C 3 m_findRings 0 [some (.ref (co C)), none, none] [] σ (qV Q) := by
  unfold w_findRings_0 at F
  refine s_aln dX13_findRings_0 rfl ?_
  refine s_ic dX13_findRings_1 ki_0 ?_
  refine s_aln dX13_findRings_2 rfl ?_
  refine gf_181 dX13_findRings_3 rfl ?_
  refine s_ic dX13_findRings_6 ki_1 ?_
  refine k_654 dX13_findRings_7 rfl (Nat.le_of_ble_eq_true rfl) (Nat.le_of_ble_eq_true rfl) F (fun σ1 F => ?_)
  refine s_aln dX13_findRings_10 rfl ?_
  refine s_ic dX13_findRings_11 ki_0 ?_
  refine pf_658 hC dX13_findRings_12 rfl (fun σ3 eσ3 => ?_)
  replace F := F σ3 eσ3
  refine s_aln dX13_findRings_15 rfl ?_
  refine s_ic dX13_findRings_16 ki_0 ?_
  refine pf_661 hC dX13_findRings_17 rfl (fun σ4 eσ4 => ?_)
  replace F := F σ4 eσ4
  refine s_ic dX13_findRings_20 ki_0 ?_
  refine s_isn dX13_findRings_21 (Nat.le_of_ble_eq_true rfl) rfl ?_
  exact s_k (t_findRings_22 hC  F) ⟨rfl, rfl, trivial⟩

theorem m_findRings_run {C : rCx} (hC : cOK C) {Q : rS → Prop}  {σ : rS} (F : w_findRings_0 C Q  σ) : cV C 3 m_findRings [.ref (co C)] σ Q := m_V (m_ent _ 2) (t_findRings_0 hC F)

theorem dX13_explore_0 : decode cX13_explore 0 = .ok (.aload_n 0, 1) := by decide +kernel
theorem dX13_explore_1 : decode cX13_explore 1 = .ok (.aload_n 0, 1) := by decide +kernel
theorem dX13_explore_2 : decode cX13_explore 2 = .ok (.getfield 529, 3) := by decide +kernel
theorem dX13_explore_5 : decode cX13_explore 5 = .ok (.ifCond .ne 7, 3) := by decide +kernel
theorem dX13_explore_8 : decode cX13_explore 8 = .ok (.iconst 1, 1) := by decide +kernel
theorem dX13_explore_9 : decode cX13_explore 9 = .ok (.goto 19, 3) := by decide +kernel
theorem dX13_explore_12 : decode cX13_explore 12 = .ok (.iload_n 1, 1) := by decide +kernel
theorem dX13_explore_13 : decode cX13_explore 13 = .ok (.iconst 1, 1) := by decide +kernel
theorem dX13_explore_14 : decode cX13_explore 14 = .ok (.sipush 1000, 3) := by decide +kernel
theorem dX13_explore_17 : decode cX13_explore 17 = .ok (.invokestatic 362, 3) := by decide +kernel
theorem dX13_explore_20 : decode cX13_explore 20 = .ok (.ifCond .ne 7, 3) := by decide +kernel
theorem dX13_explore_23 : decode cX13_explore 23 = .ok (.iconst 2, 1) := by decide +kernel
theorem dX13_explore_24 : decode cX13_explore 24 = .ok (.goto 4, 3) := by decide +kernel
theorem dX13_explore_27 : decode cX13_explore 27 = .ok (.iconst 0, 1) := by decide +kernel
theorem dX13_explore_28 : decode cX13_explore 28 = .ok (.putfield 1, 3) := by decide +kernel
theorem dX13_explore_31 : decode cX13_explore 31 = .ok (.aload_n 0, 1) := by decide +kernel
theorem dX13_explore_32 : decode cX13_explore 32 = .ok (.getfield 1, 3) := by decide +kernel
theorem dX13_explore_35 : decode cX13_explore 35 = .ok (.ifCond .le 5, 3) := by decide +kernel
theorem dX13_explore_38 : decode cX13_explore 38 = .ok (.iconst 0, 1) := by decide +kernel
theorem dX13_explore_39 : decode cX13_explore 39 = .ok (.ireturn, 1) := by decide +kernel
theorem dX13_explore_40 : decode cX13_explore 40 = .ok (.aload_n 0, 1) := by decide +kernel
theorem dX13_explore_41 : decode cX13_explore 41 = .ok (.iload_n 1, 1) := by decide +kernel
theorem dX13_explore_42 : decode cX13_explore 42 = .ok (.putfield 609, 3) := by decide +kernel
theorem dX13_explore_45 : decode cX13_explore 45 = .ok (.aload_n 0, 1) := by decide +kernel
theorem dX13_explore_46 : decode cX13_explore 46 = .ok (.iconst 0, 1) := by decide +kernel
theorem dX13_explore_47 : decode cX13_explore 47 = .ok (.putfield 542, 3) := by decide +kernel
theorem dX13_explore_50 : decode cX13_explore 50 = .ok (.aload_n 0, 1) := by decide +kernel
theorem dX13_explore_51 : decode cX13_explore 51 = .ok (.iconst 0, 1) := by decide +kernel
theorem dX13_explore_52 : decode cX13_explore 52 = .ok (.putfield 545, 3) := by decide +kernel
theorem dX13_explore_55 : decode cX13_explore 55 = .ok (.aload_n 0, 1) := by decide +kernel
theorem dX13_explore_56 : decode cX13_explore 56 = .ok (.iconst 0, 1) := by decide +kernel
theorem dX13_explore_57 : decode cX13_explore 57 = .ok (.putfield 548, 3) := by decide +kernel
theorem dX13_explore_60 : decode cX13_explore 60 = .ok (.aload_n 0, 1) := by decide +kernel
theorem dX13_explore_61 : decode cX13_explore 61 = .ok (.iconst 0, 1) := by decide +kernel
theorem dX13_explore_62 : decode cX13_explore 62 = .ok (.putfield 536, 3) := by decide +kernel
theorem dX13_explore_65 : decode cX13_explore 65 = .ok (.aload_n 0, 1) := by decide +kernel
theorem dX13_explore_66 : decode cX13_explore 66 = .ok (.iconst 0, 1) := by decide +kernel
theorem dX13_explore_67 : decode cX13_explore 67 = .ok (.putfield 539, 3) := by decide +kernel
theorem dX13_explore_70 : decode cX13_explore 70 = .ok (.iconst 1, 1) := by decide +kernel
theorem dX13_explore_71 : decode cX13_explore 71 = .ok (.istore_n 2, 1) := by decide +kernel
theorem dX13_explore_72 : decode cX13_explore 72 = .ok (.aload_n 0, 1) := by decide +kernel
theorem dX13_explore_73 : decode cX13_explore 73 = .ok (.invokevirtual 631, 3) := by decide +kernel
theorem dX13_explore_76 : decode cX13_explore 76 = .ok (.ifCond .ne 20, 3) := by decide +kernel
theorem dX13_explore_79 : decode cX13_explore 79 = .ok (.aload_n 0, 1) := by decide +kernel
theorem dX13_explore_80 : decode cX13_explore 80 = .ok (.invokevirtual 612, 3) := by decide +kernel
theorem dX13_explore_83 : decode cX13_explore 83 = .ok (.iconst (-1), 1) := by decide +kernel
theorem dX13_explore_84 : decode cX13_explore 84 = .ok (.if_icmp .eq 7, 3) := by decide +kernel
theorem dX13_explore_87 : decode cX13_explore 87 = .ok (.iconst 1, 1) := by decide +kernel
theorem dX13_explore_88 : decode cX13_explore 88 = .ok (.goto 4, 3) := by decide +kernel
theorem dX13_explore_91 : decode cX13_explore 91 = .ok (.iconst 0, 1) := by decide +kernel
theorem dX13_explore_92 : decode cX13_explore 92 = .ok (.istore_n 2, 1) := by decide +kernel
theorem dX13_explore_93 : decode cX13_explore 93 = .ok (.goto 17, 3) := by decide +kernel
theorem dX13_explore_96 : decode cX13_explore 96 = .ok (.aload_n 0, 1) := by decide +kernel
theorem dX13_explore_97 : decode cX13_explore 97 = .ok (.invokevirtual 615, 3) := by decide +kernel
theorem dX13_explore_100 : decode cX13_explore 100 = .ok (.iconst (-1), 1) := by decide +kernel
theorem dX13_explore_101 : decode cX13_explore 101 = .ok (.if_icmp .eq 7, 3) := by decide +kernel
theorem dX13_explore_104 : decode cX13_explore 104 = .ok (.iconst 1, 1) := by decide +kernel
theorem dX13_explore_105 : decode cX13_explore 105 = .ok (.goto 4, 3) := by decide +kernel
theorem dX13_explore_108 : decode cX13_explore 108 = .ok (.iconst 0, 1) := by decide +kernel
theorem dX13_explore_109 : decode cX13_explore 109 = .ok (.istore_n 2, 1) := by decide +kernel
theorem dX13_explore_110 : decode cX13_explore 110 = .ok (.iconst 0, 1) := by decide +kernel
theorem dX13_explore_111 : decode cX13_explore 111 = .ok (.istore_n 3, 1) := by decide +kernel
theorem dX13_explore_112 : decode cX13_explore 112 = .ok (.iload_n 3, 1) := by decide +kernel
theorem dX13_explore_113 : decode cX13_explore 113 = .ok (.aload_n 0, 1) := by decide +kernel
theorem dX13_explore_114 : decode cX13_explore 114 = .ok (.getfield 542, 3) := by decide +kernel
theorem dX13_explore_117 : decode cX13_explore 117 = .ok (.if_icmp .ge 19, 3) := by decide +kernel
theorem dX13_explore_120 : decode cX13_explore 120 = .ok (.iload_n 2, 1) := by decide +kernel
theorem dX13_explore_121 : decode cX13_explore 121 = .ok (.ifCond .eq 15, 3) := by decide +kernel
theorem dX13_explore_124 : decode cX13_explore 124 = .ok (.aload_n 0, 1) := by decide +kernel
theorem dX13_explore_125 : decode cX13_explore 125 = .ok (.iload_n 3, 1) := by decide +kernel
theorem dX13_explore_126 : decode cX13_explore 126 = .ok (.invokevirtual 634, 3) := by decide +kernel
theorem dX13_explore_129 : decode cX13_explore 129 = .ok (.istore_n 2, 1) := by decide +kernel
theorem dX13_explore_130 : decode cX13_explore 130 = .ok (.iinc 3 1, 3) := by decide +kernel
theorem dX13_explore_133 : decode cX13_explore 133 = .ok (.goto (-21), 3) := by decide +kernel
theorem dX13_explore_136 : decode cX13_explore 136 = .ok (.aload_n 0, 1) := by decide +kernel
theorem dX13_explore_137 : decode cX13_explore 137 = .ok (.iload_n 2, 1) := by decide +kernel
theorem dX13_explore_138 : decode cX13_explore 138 = .ok (.putfield 533, 3) := by decide +kernel
theorem dX13_explore_141 : decode cX13_explore 141 = .ok (.iload_n 2, 1) := by decide +kernel
theorem dX13_explore_142 : decode cX13_explore 142 = .ok (.ifCond .ne 20, 3) := by decide +kernel
theorem dX13_explore_145 : decode cX13_explore 145 = .ok (.aload_n 0, 1) := by decide +kernel
theorem dX13_explore_146 : decode cX13_explore 146 = .ok (.iconst 0, 1) := by decide +kernel
theorem dX13_explore_147 : decode cX13_explore 147 = .ok (.putfield 542, 3) := by decide +kernel
theorem dX13_explore_150 : decode cX13_explore 150 = .ok (.aload_n 0, 1) := by decide +kernel
theorem dX13_explore_151 : decode cX13_explore 151 = .ok (.iconst 0, 1) := by decide +kernel
theorem dX13_explore_152 : decode cX13_explore 152 = .ok (.putfield 545, 3) := by decide +kernel
theorem dX13_explore_155 : decode cX13_explore 155 = .ok (.aload_n 0, 1) := by decide +kernel
theorem dX13_explore_156 : decode cX13_explore 156 = .ok (.iconst 0, 1) := by decide +kernel
theorem dX13_explore_157 : decode cX13_explore 157 = .ok (.putfield 548, 3) := by decide +kernel
theorem dX13_explore_160 : decode cX13_explore 160 = .ok (.iconst (-1), 1) := by decide +kernel
theorem dX13_explore_161 : decode cX13_explore 161 = .ok (.ireturn, 1) := by decide +kernel
theorem dX13_explore_162 : decode cX13_explore 162 = .ok (.iconst 0, 1) := by decide +kernel
theorem dX13_explore_163 : decode cX13_explore 163 = .ok (.istore_n 3, 1) := by decide +kernel
theorem dX13_explore_164 : decode cX13_explore 164 = .ok (.iload_n 3, 1) := by decide +kernel
theorem dX13_explore_165 : decode cX13_explore 165 = .ok (.aload_n 0, 1) := by decide +kernel
theorem dX13_explore_166 : decode cX13_explore 166 = .ok (.getfield 542, 3) := by decide +kernel
theorem dX13_explore_169 : decode cX13_explore 169 = .ok (.if_icmp .ge 16, 3) := by decide +kernel
theorem dX13_explore_172 : decode cX13_explore 172 = .ok (.aload_n 0, 1) := by decide +kernel
theorem dX13_explore_173 : decode cX13_explore 173 = .ok (.getfield 172, 3) := by decide +kernel
theorem dX13_explore_176 : decode cX13_explore 176 = .ok (.iload_n 3, 1) := by decide +kernel
theorem dX13_explore_177 : decode cX13_explore 177 = .ok (.iconst 0, 1) := by decide +kernel
theorem dX13_explore_178 : decode cX13_explore 178 = .ok (.iastore, 1) := by decide +kernel
theorem dX13_explore_179 : decode cX13_explore 179 = .ok (.iinc 3 1, 3) := by decide +kernel
theorem dX13_explore_182 : decode cX13_explore 182 = .ok (.goto (-18), 3) := by decide +kernel
theorem dX13_explore_185 : decode cX13_explore 185 = .ok (.aload_n 0, 1) := by decide +kernel
theorem dX13_explore_186 : decode cX13_explore 186 = .ok (.invokevirtual 637, 3) := by decide +kernel
theorem dX13_explore_189 : decode cX13_explore 189 = .ok (.aload_n 0, 1) := by decide +kernel
theorem dX13_explore_190 : decode cX13_explore 190 = .ok (.getfield 542, 3) := by decide +kernel
theorem dX13_explore_193 : decode cX13_explore 193 = .ok (.ireturn, 1) := by decide +kernel
def w_explore_164 (C : rCx) (Q : Int32 → rS → Prop)  (a3 : Int32) (σ : rS) : Prop :=
  ∃ I : Nat → Int32 → rS → Prop, (∃ n, I n a3 σ) ∧ ∀ n a3 σ, I n a3 σ →
    ((σ.1 70) ≤ a3 →
      cV C 3 m_findRings [.ref (co C)] σ (fun σ1 =>
        Q (σ1.1 70) σ1)) ∧
    (¬ ((σ.1 70) ≤ a3) →
      inb a3 1000 ∧
      ∀ σ3, σ3 = riU σ 83 (a3).toNatClampNeg (0 : Int32) →
      ∀ v3_4 : Int32, v3_4 = a3 + (1 : Int32) →
      ∃ k < n, I k v3_4 σ3)
theorem t_explore_164 {C : rCx} (hC : cOK C) {Q : Int32 → rS → Prop}   {a3 : Int32} {σ : rS} (F : w_explore_164 C Q  a3 σ) : wG C 11 m_explore 164 [some (.ref (co C)), none, none, some (.int a3)] [] σ (qI Q) := by
  obtain ⟨I, ⟨n0, hI0⟩, F0⟩ := F
  have key : ∀ n a3 σ, I n a3 σ → wG C 11 m_explore 164 [some (.ref (co C)), none, none, some (.int a3)] [] σ (qI Q) := by
    intro n
    induction n using Nat.strongRecOn with
    | _ n ih =>
      intro a3 σ hI
      have F := F0 n a3 σ hI
      clear hI hI0
      refine s_iln dX13_explore_164 rfl ?_
      refine s_aln dX13_explore_165 rfl ?_
      refine gf_542 dX13_explore_166 rfl ?_
      refine s_ii (t := 185) ((σ.1 70) ≤ a3) dX13_explore_169 rfl rfl (fun hc => ?_) (fun hc => ?_)
      · replace F := F.1 hc
        refine s_aln dX13_explore_185 rfl ?_
        refine k_637 dX13_explore_186 rfl (Nat.le_of_ble_eq_true rfl) (Nat.le_of_ble_eq_true rfl) F (fun σ1 F => ?_)
        refine s_aln dX13_explore_189 rfl ?_
        refine gf_542 dX13_explore_190 rfl ?_
        exact s_ri dX13_explore_193 rfl in_nar F
      · replace F := F.2 hc
        refine s_aln dX13_explore_172 rfl ?_
        refine gf_172 dX13_explore_173 rfl ?_
        refine s_iln dX13_explore_176 rfl ?_
        refine s_ic dX13_explore_177 ki_0 ?_
        refine s_astb hC dX13_explore_178 rt_83 F.1 (fun σ3 eσ3 => ?_)
        replace F := F.2 σ3 eσ3
        refine s_incb dX13_explore_179 ki_1 rfl (Nat.le_of_ble_eq_true rfl) (fun v3_4 ev3_4 => ?_)
        replace F := F v3_4 ev3_4
        refine s_goto (t := 164) dX13_explore_182 rfl ?_
        obtain ⟨k, hk, hI⟩ := F
        exact s_k (ih k hk _ _ hI) ⟨rfl, rfl, trivial⟩
  exact key n0 a3 σ hI0

def w_explore_136 (C : rCx) (Q : Int32 → rS → Prop)  (a2 : Int32) (σ : rS) : Prop :=
  nb a2 ∧
  ∀ σ1, σ1 = siU σ 69 a2 →
  (¬ (a2 = 0) →
    w_explore_164 C Q  (0 : Int32) σ1) ∧
  (a2 = 0 →
    ∀ σ2, σ2 = siU σ1 70 (0 : Int32) →
    ∀ σ3, σ3 = siU σ2 71 (0 : Int32) →
    ∀ σ4, σ4 = siU σ3 72 (0 : Int32) →
    Q (-1 : Int32) σ4)
theorem t_explore_136 {C : rCx} (hC : cOK C) {Q : Int32 → rS → Prop}   {a2 : Int32} {σ : rS} (F : w_explore_136 C Q  a2 σ) : wG C 11 m_explore 136 [some (.ref (co C)), none, some (.int a2), none] [] σ (qI Q) := by
  unfold w_explore_136 at F
  refine s_aln dX13_explore_136 rfl ?_
  refine s_iln dX13_explore_137 rfl ?_
  refine pf_533 hC dX13_explore_138 rfl (nb_nar F.1) (fun σ1 eσ1 => ?_)
  replace F := F.2
  replace F := F σ1 eσ1
  refine s_iln dX13_explore_141 rfl ?_
  refine s_in (t := 162) (a2 = 0) dX13_explore_142 rfl rfl (fun hc => ?_) (fun hc => ?_)
  · replace F := F.1 hc
    refine s_ic dX13_explore_162 ki_0 ?_
    refine s_isn dX13_explore_163 (Nat.le_of_ble_eq_true rfl) rfl ?_
    exact s_k (t_explore_164 hC  F) ⟨rfl, rfl, trivial⟩
  · replace F := F.2 hc
    refine s_aln dX13_explore_145 rfl ?_
    refine s_ic dX13_explore_146 ki_0 ?_
    refine pf_542 hC dX13_explore_147 rfl (fun σ2 eσ2 => ?_)
    replace F := F σ2 eσ2
    refine s_aln dX13_explore_150 rfl ?_
    refine s_ic dX13_explore_151 ki_0 ?_
    refine pf_545 hC dX13_explore_152 rfl (fun σ3 eσ3 => ?_)
    replace F := F σ3 eσ3
    refine s_aln dX13_explore_155 rfl ?_
    refine s_ic dX13_explore_156 ki_0 ?_
    refine pf_548 hC dX13_explore_157 rfl (fun σ4 eσ4 => ?_)
    replace F := F σ4 eσ4
    refine s_ic dX13_explore_160 ki_m1 ?_
    exact s_ri dX13_explore_161 rfl in_nar F

def w_explore_112 (C : rCx) (Q : Int32 → rS → Prop)  (a2 : Int32) (a3 : Int32) (σ : rS) : Prop :=
  ∃ I : Nat → Int32 → Int32 → rS → Prop, (∃ n, I n a2 a3 σ) ∧ ∀ n a2 a3 σ, I n a2 a3 σ →
    ((σ.1 70) ≤ a3 →
      w_explore_136 C Q  a2 σ) ∧
    (¬ ((σ.1 70) ≤ a3) →
      (a2 = 0 →
        w_explore_136 C Q  a2 σ) ∧
      (¬ (a2 = 0) →
        cI C 10 m_expand [.ref (co C), .int a3] σ (fun r2 σ1 =>
          ∀ v3_3 : Int32, v3_3 = a3 + (1 : Int32) →
          ∃ k < n, I k r2 v3_3 σ1)))
theorem t_explore_112 {C : rCx} (hC : cOK C) {Q : Int32 → rS → Prop}   {a2 : Int32} {a3 : Int32} {σ : rS} (F : w_explore_112 C Q  a2 a3 σ) : wG C 11 m_explore 112 [some (.ref (co C)), none, some (.int a2), some (.int a3)] [] σ (qI Q) := by
  obtain ⟨I, ⟨n0, hI0⟩, F0⟩ := F
  have key : ∀ n a2 a3 σ, I n a2 a3 σ → wG C 11 m_explore 112 [some (.ref (co C)), none, some (.int a2), some (.int a3)] [] σ (qI Q) := by
    intro n
    induction n using Nat.strongRecOn with
    | _ n ih =>
      intro a2 a3 σ hI
      have F := F0 n a2 a3 σ hI
      clear hI hI0
      refine s_iln dX13_explore_112 rfl ?_
      refine s_aln dX13_explore_113 rfl ?_
      refine gf_542 dX13_explore_114 rfl ?_
      refine s_ii (t := 136) ((σ.1 70) ≤ a3) dX13_explore_117 rfl rfl (fun hc => ?_) (fun hc => ?_)
      · replace F := F.1 hc
        exact s_k (t_explore_136 hC  F) ⟨rfl, rfl, trivial⟩
      · replace F := F.2 hc
        refine s_iln dX13_explore_120 rfl ?_
        refine s_i (t := 136) (a2 = 0) dX13_explore_121 rfl rfl (fun hc => ?_) (fun hc => ?_)
        · replace F := F.1 hc
          exact s_k (t_explore_136 hC  F) ⟨rfl, rfl, trivial⟩
        · replace F := F.2 hc
          refine s_aln dX13_explore_124 rfl ?_
          refine s_iln dX13_explore_125 rfl ?_
          refine k_634 dX13_explore_126 rfl (Nat.le_of_ble_eq_true rfl) (Nat.le_of_ble_eq_true rfl) F (fun r2 σ1 F => ?_)
          refine s_isn dX13_explore_129 (Nat.le_of_ble_eq_true rfl) rfl ?_
          refine s_incb dX13_explore_130 ki_1 rfl (Nat.le_of_ble_eq_true rfl) (fun v3_3 ev3_3 => ?_)
          replace F := F v3_3 ev3_3
          refine s_goto (t := 112) dX13_explore_133 rfl ?_
          obtain ⟨k, hk, hI⟩ := F
          exact s_k (ih k hk _ _ _ hI) ⟨rfl, rfl, rfl, trivial⟩
  exact key n0 a2 a3 σ hI0

def w_explore_28 (C : rCx) (Q : Int32 → rS → Prop)  (a1 : Int32) (s1 : Int32) (σ : rS) : Prop :=
  ∀ σ1, σ1 = siU σ 0 s1 →
  ((σ1.1 0) ≤ 0 →
    ∀ σ2, σ2 = siU σ1 85 a1 →
    ∀ σ3, σ3 = siU σ2 70 (0 : Int32) →
    ∀ σ4, σ4 = siU σ3 71 (0 : Int32) →
    ∀ σ5, σ5 = siU σ4 72 (0 : Int32) →
    ∀ σ6, σ6 = siU σ5 94 (0 : Int32) →
    ∀ σ7, σ7 = siU σ6 114 (0 : Int32) →
    cI C 3 m_begin [.ref (co C)] σ7 (fun r9 σ8 =>
      (¬ (r9 = 0) →
        cI C 0 m_endingNumber [.ref (co C)] σ8 (fun r11 σ10 =>
          (r11 = (-1 : Int32) →
            w_explore_112 C Q  (0 : Int32) (0 : Int32) σ10) ∧
          (¬ (r11 = (-1 : Int32)) →
            w_explore_112 C Q  (1 : Int32) (0 : Int32) σ10))) ∧
      (r9 = 0 →
        cI C 2 m_stateNumber [.ref (co C)] σ8 (fun r13 σ12 =>
          (r13 = (-1 : Int32) →
            w_explore_112 C Q  (0 : Int32) (0 : Int32) σ12) ∧
          (¬ (r13 = (-1 : Int32)) →
            w_explore_112 C Q  (1 : Int32) (0 : Int32) σ12))))) ∧
  (¬ ((σ1.1 0) ≤ 0) →
    Q (0 : Int32) σ1)
theorem t_explore_28 {C : rCx} (hC : cOK C) {Q : Int32 → rS → Prop}   {a1 : Int32} {s1 : Int32} {σ : rS} (F : w_explore_28 C Q  a1 s1 σ) : wG C 11 m_explore 28 [some (.ref (co C)), some (.int a1), none, none] [.int s1, .ref (co C)] σ (qI Q) := by
  unfold w_explore_28 at F
  refine pf_1 hC dX13_explore_28 rfl (fun σ1 eσ1 => ?_)
  replace F := F σ1 eσ1
  refine s_aln dX13_explore_31 rfl ?_
  refine gf_1 dX13_explore_32 rfl ?_
  refine s_i (t := 40) ((σ1.1 0) ≤ 0) dX13_explore_35 rfl rfl (fun hc => ?_) (fun hc => ?_)
  · replace F := F.1 hc
    refine s_aln dX13_explore_40 rfl ?_
    refine s_iln dX13_explore_41 rfl ?_
    refine pf_609 hC dX13_explore_42 rfl (fun σ2 eσ2 => ?_)
    replace F := F σ2 eσ2
    refine s_aln dX13_explore_45 rfl ?_
    refine s_ic dX13_explore_46 ki_0 ?_
    refine pf_542 hC dX13_explore_47 rfl (fun σ3 eσ3 => ?_)
    replace F := F σ3 eσ3
    refine s_aln dX13_explore_50 rfl ?_
    refine s_ic dX13_explore_51 ki_0 ?_
    refine pf_545 hC dX13_explore_52 rfl (fun σ4 eσ4 => ?_)
    replace F := F σ4 eσ4
    refine s_aln dX13_explore_55 rfl ?_
    refine s_ic dX13_explore_56 ki_0 ?_
    refine pf_548 hC dX13_explore_57 rfl (fun σ5 eσ5 => ?_)
    replace F := F σ5 eσ5
    refine s_aln dX13_explore_60 rfl ?_
    refine s_ic dX13_explore_61 ki_0 ?_
    refine pf_536 hC dX13_explore_62 rfl (nb_nar nb_0) (fun σ6 eσ6 => ?_)
    replace F := F σ6 eσ6
    refine s_aln dX13_explore_65 rfl ?_
    refine s_ic dX13_explore_66 ki_0 ?_
    refine pf_539 hC dX13_explore_67 rfl (nb_nar nb_0) (fun σ7 eσ7 => ?_)
    replace F := F σ7 eσ7
    refine s_ic dX13_explore_70 ki_1 ?_
    refine s_isn dX13_explore_71 (Nat.le_of_ble_eq_true rfl) rfl ?_
    refine s_aln dX13_explore_72 rfl ?_
    refine k_631 dX13_explore_73 rfl (Nat.le_of_ble_eq_true rfl) (Nat.le_of_ble_eq_true rfl) F (fun r9 σ8 F => ?_)
    refine s_in (t := 96) (r9 = 0) dX13_explore_76 rfl rfl (fun hc => ?_) (fun hc => ?_)
    · replace F := F.1 hc
      refine s_aln dX13_explore_96 rfl ?_
      refine k_615 dX13_explore_97 rfl (Nat.le_of_ble_eq_true rfl) (Nat.le_of_ble_eq_true rfl) F (fun r11 σ10 F => ?_)
      refine s_ic dX13_explore_100 ki_m1 ?_
      refine s_ii (t := 108) (r11 = (-1 : Int32)) dX13_explore_101 rfl rfl (fun hc => ?_) (fun hc => ?_)
      · replace F := F.1 hc
        refine s_ic dX13_explore_108 ki_0 ?_
        refine s_isn dX13_explore_109 (Nat.le_of_ble_eq_true rfl) rfl ?_
        refine s_ic dX13_explore_110 ki_0 ?_
        refine s_isn dX13_explore_111 (Nat.le_of_ble_eq_true rfl) rfl ?_
        exact s_k (t_explore_112 hC  F) ⟨rfl, rfl, rfl, trivial⟩
      · replace F := F.2 hc
        refine s_ic dX13_explore_104 ki_1 ?_
        refine s_goto (t := 109) dX13_explore_105 rfl ?_
        refine s_isn dX13_explore_109 (Nat.le_of_ble_eq_true rfl) rfl ?_
        refine s_ic dX13_explore_110 ki_0 ?_
        refine s_isn dX13_explore_111 (Nat.le_of_ble_eq_true rfl) rfl ?_
        exact s_k (t_explore_112 hC  F) ⟨rfl, rfl, rfl, trivial⟩
    · replace F := F.2 hc
      refine s_aln dX13_explore_79 rfl ?_
      refine k_612 dX13_explore_80 rfl (Nat.le_of_ble_eq_true rfl) (Nat.le_of_ble_eq_true rfl) F (fun r13 σ12 F => ?_)
      refine s_ic dX13_explore_83 ki_m1 ?_
      refine s_ii (t := 91) (r13 = (-1 : Int32)) dX13_explore_84 rfl rfl (fun hc => ?_) (fun hc => ?_)
      · replace F := F.1 hc
        refine s_ic dX13_explore_91 ki_0 ?_
        refine s_isn dX13_explore_92 (Nat.le_of_ble_eq_true rfl) rfl ?_
        refine s_goto (t := 110) dX13_explore_93 rfl ?_
        refine s_ic dX13_explore_110 ki_0 ?_
        refine s_isn dX13_explore_111 (Nat.le_of_ble_eq_true rfl) rfl ?_
        exact s_k (t_explore_112 hC  F) ⟨rfl, rfl, rfl, trivial⟩
      · replace F := F.2 hc
        refine s_ic dX13_explore_87 ki_1 ?_
        refine s_goto (t := 92) dX13_explore_88 rfl ?_
        refine s_isn dX13_explore_92 (Nat.le_of_ble_eq_true rfl) rfl ?_
        refine s_goto (t := 110) dX13_explore_93 rfl ?_
        refine s_ic dX13_explore_110 ki_0 ?_
        refine s_isn dX13_explore_111 (Nat.le_of_ble_eq_true rfl) rfl ?_
        exact s_k (t_explore_112 hC  F) ⟨rfl, rfl, rfl, trivial⟩
  · replace F := F.2 hc
    refine s_ic dX13_explore_38 ki_0 ?_
    exact s_ri dX13_explore_39 rfl in_nar F

def w_explore_0 (C : rCx) (Q : Int32 → rS → Prop)  (a1 : Int32) (σ : rS) : Prop :=
  (¬ ((σ.1 14) = 0) →
    cI C 0 m_within [.int a1, .int (1 : Int32), .int (1000 : Int32)] σ (fun r2 σ1 =>
      (¬ (r2 = 0) →
        w_explore_28 C Q  a1 (0 : Int32) σ1) ∧
      (r2 = 0 →
        w_explore_28 C Q  a1 (2 : Int32) σ1))) ∧
  ((σ.1 14) = 0 →
    w_explore_28 C Q  a1 (1 : Int32) σ)
theorem t_explore_0 {C : rCx} (hC : cOK C) {Q : Int32 → rS → Prop}   {a1 : Int32} {σ : rS} (F : w_explore_0 C Q  a1 σ) : wG C 11 m_explore 0 [some (.ref (co C)), some (.int a1), none, none] [] σ (qI Q) := by
  unfold w_explore_0 at F
  refine s_aln dX13_explore_0 rfl ?_
  refine s_aln dX13_explore_1 rfl ?_
  refine gf_529 dX13_explore_2 rfl ?_
  refine s_in (t := 12) ((σ.1 14) = 0) dX13_explore_5 rfl rfl (fun hc => ?_) (fun hc => ?_)
  · replace F := F.1 hc
    refine s_iln dX13_explore_12 rfl ?_
    refine s_ic dX13_explore_13 ki_1 ?_
    refine s_si dX13_explore_14 ks_1000 ?_
    refine k_362 dX13_explore_17 rfl (Nat.le_of_ble_eq_true rfl) (Nat.le_of_ble_eq_true rfl) F (fun r2 σ1 F => ?_)
    refine s_in (t := 27) (r2 = 0) dX13_explore_20 rfl rfl (fun hc => ?_) (fun hc => ?_)
    · replace F := F.1 hc
      refine s_ic dX13_explore_27 ki_0 ?_
      exact s_k (t_explore_28 hC  F) ⟨rfl, rfl, trivial⟩
    · replace F := F.2 hc
      refine s_ic dX13_explore_23 ki_2 ?_
      refine s_goto (t := 28) dX13_explore_24 rfl ?_
      exact s_k (t_explore_28 hC  F) ⟨rfl, rfl, trivial⟩
  · replace F := F.2 hc
    refine s_ic dX13_explore_8 ki_1 ?_
    refine s_goto (t := 28) dX13_explore_9 rfl ?_
    exact s_k (t_explore_28 hC  F) ⟨rfl, rfl, trivial⟩

theorem m_explore_run {C : rCx} (hC : cOK C) {Q : Int32 → rS → Prop} {a1 : Int32} {σ : rS} (F : w_explore_0 C Q a1 σ) : cI C 11 m_explore [.ref (co C), .int a1] σ Q := m_I (m_ent _ 2) (t_explore_0 hC F)

theorem dX13_count_0 : decode cX13_count 0 = .ok (.aload_n 0, 1) := by decide +kernel
theorem dX13_count_1 : decode cX13_count 1 = .ok (.iload_n 1, 1) := by decide +kernel
theorem dX13_count_2 : decode cX13_count 2 = .ok (.iconst 0, 1) := by decide +kernel
theorem dX13_count_3 : decode cX13_count 3 = .ok (.bipush 11, 2) := by decide +kernel
theorem dX13_count_5 : decode cX13_count 5 = .ok (.invokestatic 362, 3) := by decide +kernel
theorem dX13_count_8 : decode cX13_count 8 = .ok (.ifCond .eq 7, 3) := by decide +kernel
theorem dX13_count_11 : decode cX13_count 11 = .ok (.iconst 0, 1) := by decide +kernel
theorem dX13_count_12 : decode cX13_count 12 = .ok (.goto 4, 3) := by decide +kernel
theorem dX13_count_15 : decode cX13_count 15 = .ok (.iconst 1, 1) := by decide +kernel
theorem dX13_count_16 : decode cX13_count 16 = .ok (.putfield 1, 3) := by decide +kernel
theorem dX13_count_19 : decode cX13_count 19 = .ok (.aload_n 0, 1) := by decide +kernel
theorem dX13_count_20 : decode cX13_count 20 = .ok (.getfield 1, 3) := by decide +kernel
theorem dX13_count_23 : decode cX13_count 23 = .ok (.ifCond .le 5, 3) := by decide +kernel
theorem dX13_count_26 : decode cX13_count 26 = .ok (.iconst 0, 1) := by decide +kernel
theorem dX13_count_27 : decode cX13_count 27 = .ok (.ireturn, 1) := by decide +kernel
theorem dX13_count_28 : decode cX13_count 28 = .ok (.iconst 0, 1) := by decide +kernel
theorem dX13_count_29 : decode cX13_count 29 = .ok (.istore_n 2, 1) := by decide +kernel
theorem dX13_count_30 : decode cX13_count 30 = .ok (.iconst 0, 1) := by decide +kernel
theorem dX13_count_31 : decode cX13_count 31 = .ok (.istore_n 3, 1) := by decide +kernel
theorem dX13_count_32 : decode cX13_count 32 = .ok (.iconst 0, 1) := by decide +kernel
theorem dX13_count_33 : decode cX13_count 33 = .ok (.istore 4, 2) := by decide +kernel
theorem dX13_count_35 : decode cX13_count 35 = .ok (.iload 4, 2) := by decide +kernel
theorem dX13_count_37 : decode cX13_count 37 = .ok (.aload_n 0, 1) := by decide +kernel
theorem dX13_count_38 : decode cX13_count 38 = .ok (.getfield 542, 3) := by decide +kernel
theorem dX13_count_41 : decode cX13_count 41 = .ok (.if_icmp .ge 45, 3) := by decide +kernel
theorem dX13_count_44 : decode cX13_count 44 = .ok (.iload_n 2, 1) := by decide +kernel
theorem dX13_count_45 : decode cX13_count 45 = .ok (.aload_n 0, 1) := by decide +kernel
theorem dX13_count_46 : decode cX13_count 46 = .ok (.getfield 166, 3) := by decide +kernel
theorem dX13_count_49 : decode cX13_count 49 = .ok (.iload 4, 2) := by decide +kernel
theorem dX13_count_51 : decode cX13_count 51 = .ok (.baload, 1) := by decide +kernel
theorem dX13_count_52 : decode cX13_count 52 = .ok (.ifCond .eq 7, 3) := by decide +kernel
theorem dX13_count_55 : decode cX13_count 55 = .ok (.iconst 1, 1) := by decide +kernel
theorem dX13_count_56 : decode cX13_count 56 = .ok (.goto 4, 3) := by decide +kernel
theorem dX13_count_59 : decode cX13_count 59 = .ok (.iconst 0, 1) := by decide +kernel
theorem dX13_count_60 : decode cX13_count 60 = .ok (.iadd, 1) := by decide +kernel
theorem dX13_count_61 : decode cX13_count 61 = .ok (.istore_n 2, 1) := by decide +kernel
theorem dX13_count_62 : decode cX13_count 62 = .ok (.iload_n 3, 1) := by decide +kernel
theorem dX13_count_63 : decode cX13_count 63 = .ok (.aload_n 0, 1) := by decide +kernel
theorem dX13_count_64 : decode cX13_count 64 = .ok (.getfield 181, 3) := by decide +kernel
theorem dX13_count_67 : decode cX13_count 67 = .ok (.iload 4, 2) := by decide +kernel
theorem dX13_count_69 : decode cX13_count 69 = .ok (.baload, 1) := by decide +kernel
theorem dX13_count_70 : decode cX13_count 70 = .ok (.ifCond .eq 7, 3) := by decide +kernel
theorem dX13_count_73 : decode cX13_count 73 = .ok (.iconst 1, 1) := by decide +kernel
theorem dX13_count_74 : decode cX13_count 74 = .ok (.goto 4, 3) := by decide +kernel
theorem dX13_count_77 : decode cX13_count 77 = .ok (.iconst 0, 1) := by decide +kernel
theorem dX13_count_78 : decode cX13_count 78 = .ok (.iadd, 1) := by decide +kernel
theorem dX13_count_79 : decode cX13_count 79 = .ok (.istore_n 3, 1) := by decide +kernel
theorem dX13_count_80 : decode cX13_count 80 = .ok (.iinc 4 1, 3) := by decide +kernel
theorem dX13_count_83 : decode cX13_count 83 = .ok (.goto (-48), 3) := by decide +kernel
theorem dX13_count_86 : decode cX13_count 86 = .ok (.aload_n 0, 1) := by decide +kernel
theorem dX13_count_87 : decode cX13_count 87 = .ok (.getfield 533, 3) := by decide +kernel
theorem dX13_count_90 : decode cX13_count 90 = .ok (.ifCond .ne 7, 3) := by decide +kernel
theorem dX13_count_93 : decode cX13_count 93 = .ok (.iconst 1, 1) := by decide +kernel
theorem dX13_count_94 : decode cX13_count 94 = .ok (.goto 4, 3) := by decide +kernel
theorem dX13_count_97 : decode cX13_count 97 = .ok (.iconst 0, 1) := by decide +kernel
theorem dX13_count_98 : decode cX13_count 98 = .ok (.istore 4, 2) := by decide +kernel
theorem dX13_count_100 : decode cX13_count 100 = .ok (.iload_n 1, 1) := by decide +kernel
theorem dX13_count_101 : decode cX13_count 101 = .ok (.tableswitch 170 0 10 #[59, 75, 91, 107, 123, 128, 133, 138, 152, 166, 168], 59) := by decide +kernel
theorem dX13_count_160 : decode cX13_count 160 = .ok (.aload_n 0, 1) := by decide +kernel
theorem dX13_count_161 : decode cX13_count 161 = .ok (.getfield 529, 3) := by decide +kernel
theorem dX13_count_164 : decode cX13_count 164 = .ok (.ifCond .eq 10, 3) := by decide +kernel
theorem dX13_count_167 : decode cX13_count 167 = .ok (.aload_n 0, 1) := by decide +kernel
theorem dX13_count_168 : decode cX13_count 168 = .ok (.getfield 333, 3) := by decide +kernel
theorem dX13_count_171 : decode cX13_count 171 = .ok (.goto 4, 3) := by decide +kernel
theorem dX13_count_174 : decode cX13_count 174 = .ok (.iconst 0, 1) := by decide +kernel
theorem dX13_count_175 : decode cX13_count 175 = .ok (.ireturn, 1) := by decide +kernel
theorem dX13_count_176 : decode cX13_count 176 = .ok (.aload_n 0, 1) := by decide +kernel
theorem dX13_count_177 : decode cX13_count 177 = .ok (.getfield 529, 3) := by decide +kernel
theorem dX13_count_180 : decode cX13_count 180 = .ok (.ifCond .eq 10, 3) := by decide +kernel
theorem dX13_count_183 : decode cX13_count 183 = .ok (.aload_n 0, 1) := by decide +kernel
theorem dX13_count_184 : decode cX13_count 184 = .ok (.getfield 340, 3) := by decide +kernel
theorem dX13_count_187 : decode cX13_count 187 = .ok (.goto 4, 3) := by decide +kernel
theorem dX13_count_190 : decode cX13_count 190 = .ok (.iconst 0, 1) := by decide +kernel
theorem dX13_count_191 : decode cX13_count 191 = .ok (.ireturn, 1) := by decide +kernel
theorem dX13_count_192 : decode cX13_count 192 = .ok (.aload_n 0, 1) := by decide +kernel
theorem dX13_count_193 : decode cX13_count 193 = .ok (.getfield 529, 3) := by decide +kernel
theorem dX13_count_196 : decode cX13_count 196 = .ok (.ifCond .eq 10, 3) := by decide +kernel
theorem dX13_count_199 : decode cX13_count 199 = .ok (.aload_n 0, 1) := by decide +kernel
theorem dX13_count_200 : decode cX13_count 200 = .ok (.getfield 343, 3) := by decide +kernel
theorem dX13_count_203 : decode cX13_count 203 = .ok (.goto 4, 3) := by decide +kernel
theorem dX13_count_206 : decode cX13_count 206 = .ok (.iconst 0, 1) := by decide +kernel
theorem dX13_count_207 : decode cX13_count 207 = .ok (.ireturn, 1) := by decide +kernel
theorem dX13_count_208 : decode cX13_count 208 = .ok (.aload_n 0, 1) := by decide +kernel
theorem dX13_count_209 : decode cX13_count 209 = .ok (.getfield 529, 3) := by decide +kernel
theorem dX13_count_212 : decode cX13_count 212 = .ok (.ifCond .eq 10, 3) := by decide +kernel
theorem dX13_count_215 : decode cX13_count 215 = .ok (.aload_n 0, 1) := by decide +kernel
theorem dX13_count_216 : decode cX13_count 216 = .ok (.getfield 378, 3) := by decide +kernel
theorem dX13_count_219 : decode cX13_count 219 = .ok (.goto 4, 3) := by decide +kernel
theorem dX13_count_222 : decode cX13_count 222 = .ok (.iconst 0, 1) := by decide +kernel
theorem dX13_count_223 : decode cX13_count 223 = .ok (.ireturn, 1) := by decide +kernel
theorem dX13_count_224 : decode cX13_count 224 = .ok (.aload_n 0, 1) := by decide +kernel
theorem dX13_count_225 : decode cX13_count 225 = .ok (.getfield 542, 3) := by decide +kernel
theorem dX13_count_228 : decode cX13_count 228 = .ok (.ireturn, 1) := by decide +kernel
theorem dX13_count_229 : decode cX13_count 229 = .ok (.aload_n 0, 1) := by decide +kernel
theorem dX13_count_230 : decode cX13_count 230 = .ok (.getfield 545, 3) := by decide +kernel
theorem dX13_count_233 : decode cX13_count 233 = .ok (.ireturn, 1) := by decide +kernel
theorem dX13_count_234 : decode cX13_count 234 = .ok (.aload_n 0, 1) := by decide +kernel
theorem dX13_count_235 : decode cX13_count 235 = .ok (.getfield 548, 3) := by decide +kernel
theorem dX13_count_238 : decode cX13_count 238 = .ok (.ireturn, 1) := by decide +kernel
theorem dX13_count_239 : decode cX13_count 239 = .ok (.iload 4, 2) := by decide +kernel
theorem dX13_count_241 : decode cX13_count 241 = .ok (.ifCond .eq 7, 3) := by decide +kernel
theorem dX13_count_244 : decode cX13_count 244 = .ok (.iconst 0, 1) := by decide +kernel
theorem dX13_count_245 : decode cX13_count 245 = .ok (.goto 7, 3) := by decide +kernel
theorem dX13_count_248 : decode cX13_count 248 = .ok (.aload_n 0, 1) := by decide +kernel
theorem dX13_count_249 : decode cX13_count 249 = .ok (.getfield 658, 3) := by decide +kernel
theorem dX13_count_252 : decode cX13_count 252 = .ok (.ireturn, 1) := by decide +kernel
theorem dX13_count_253 : decode cX13_count 253 = .ok (.iload 4, 2) := by decide +kernel
theorem dX13_count_255 : decode cX13_count 255 = .ok (.ifCond .eq 7, 3) := by decide +kernel
theorem dX13_count_258 : decode cX13_count 258 = .ok (.iconst 0, 1) := by decide +kernel
theorem dX13_count_259 : decode cX13_count 259 = .ok (.goto 7, 3) := by decide +kernel
theorem dX13_count_262 : decode cX13_count 262 = .ok (.aload_n 0, 1) := by decide +kernel
theorem dX13_count_263 : decode cX13_count 263 = .ok (.getfield 661, 3) := by decide +kernel
theorem dX13_count_266 : decode cX13_count 266 = .ok (.ireturn, 1) := by decide +kernel
theorem dX13_count_267 : decode cX13_count 267 = .ok (.iload_n 2, 1) := by decide +kernel
theorem dX13_count_268 : decode cX13_count 268 = .ok (.ireturn, 1) := by decide +kernel
theorem dX13_count_269 : decode cX13_count 269 = .ok (.iload_n 3, 1) := by decide +kernel
theorem dX13_count_270 : decode cX13_count 270 = .ok (.ireturn, 1) := by decide +kernel
theorem dX13_count_271 : decode cX13_count 271 = .ok (.aload_n 0, 1) := by decide +kernel
theorem dX13_count_272 : decode cX13_count 272 = .ok (.getfield 253, 3) := by decide +kernel
theorem dX13_count_275 : decode cX13_count 275 = .ok (.ireturn, 1) := by decide +kernel
def w_count_78 (C : rCx) (Q : Int32 → rS → Prop) (B35 : Int32 → Int32 → Int32 → Int32 → rS → Prop) (a1 : Int32) (a2 : Int32) (a4 : Int32) (s0 : Int32) (s1 : Int32) (σ : rS) : Prop :=
  ∀ v3_1 : Int32, v3_1 = (s0 + s1) →
  ∀ v4_2 : Int32, v4_2 = a4 + (1 : Int32) →
  B35 a1 a2 v3_1 v4_2 σ
theorem t_count_78 {C : rCx} (hC : cOK C) {Q : Int32 → rS → Prop} {B35 : Int32 → Int32 → Int32 → Int32 → rS → Prop} (hB35 : ∀ a1' a2' a3' a4' τ, B35 a1' a2' a3' a4' τ → wG C 1 m_count 35 [some (.ref (co C)), some (.int a1'), some (.int a2'), some (.int a3'), some (.int a4')] [] τ (qI Q)) {a1 : Int32} {a2 : Int32} {a4 : Int32} {s0 : Int32} {s1 : Int32} {σ : rS} (F : w_count_78 C Q B35 a1 a2 a4 s0 s1 σ) : wG C 1 m_count 78 [some (.ref (co C)), some (.int a1), some (.int a2), none, some (.int a4)] [.int s1, .int s0] σ (qI Q) := by
  unfold w_count_78 at F
  refine s_iadd dX13_count_78 ?_
  refine s_isnb dX13_count_79 (Nat.le_of_ble_eq_true rfl) (fun v3_1 ev3_1 => ?_)
  replace F := F v3_1 ev3_1
  refine s_incb dX13_count_80 ki_1 rfl (Nat.le_of_ble_eq_true rfl) (fun v4_2 ev4_2 => ?_)
  replace F := F v4_2 ev4_2
  refine s_goto (t := 35) dX13_count_83 rfl ?_
  exact s_k (hB35 _ _ _ _ _ F) ⟨rfl, rfl, rfl, rfl, rfl, trivial⟩

def w_count_60 (C : rCx) (Q : Int32 → rS → Prop) (B35 : Int32 → Int32 → Int32 → Int32 → rS → Prop) (a1 : Int32) (a3 : Int32) (a4 : Int32) (s0 : Int32) (s1 : Int32) (σ : rS) : Prop :=
  ∀ v2_1 : Int32, v2_1 = (s0 + s1) →
  inb a4 1000 ∧
  ((σ.2.2.1 87 (a4).toNatClampNeg) = 0 →
    w_count_78 C Q B35 a1 v2_1 a4 a3 (0 : Int32) σ) ∧
  (¬ ((σ.2.2.1 87 (a4).toNatClampNeg) = 0) →
    w_count_78 C Q B35 a1 v2_1 a4 a3 (1 : Int32) σ)
theorem t_count_60 {C : rCx} (hC : cOK C) {Q : Int32 → rS → Prop} {B35 : Int32 → Int32 → Int32 → Int32 → rS → Prop} (hB35 : ∀ a1' a2' a3' a4' τ, B35 a1' a2' a3' a4' τ → wG C 1 m_count 35 [some (.ref (co C)), some (.int a1'), some (.int a2'), some (.int a3'), some (.int a4')] [] τ (qI Q)) {a1 : Int32} {a3 : Int32} {a4 : Int32} {s0 : Int32} {s1 : Int32} {σ : rS} (F : w_count_60 C Q B35 a1 a3 a4 s0 s1 σ) : wG C 1 m_count 60 [some (.ref (co C)), some (.int a1), none, some (.int a3), some (.int a4)] [.int s1, .int s0] σ (qI Q) := by
  unfold w_count_60 at F
  refine s_iadd dX13_count_60 ?_
  refine s_isnb dX13_count_61 (Nat.le_of_ble_eq_true rfl) (fun v2_1 ev2_1 => ?_)
  replace F := F v2_1 ev2_1
  refine s_iln dX13_count_62 rfl ?_
  refine s_aln dX13_count_63 rfl ?_
  refine gf_181 dX13_count_64 rfl ?_
  refine s_il dX13_count_67 rfl ?_
  refine s_zld hC dX13_count_69 rt_87 F.1 ?_
  replace F := F.2
  refine s_i (t := 77) ((σ.2.2.1 87 (a4).toNatClampNeg) = 0) dX13_count_70 rfl rfl (fun hc => ?_) (fun hc => ?_)
  · replace F := F.1 hc
    refine s_ic dX13_count_77 ki_0 ?_
    exact s_k (t_count_78 hC hB35 F) ⟨rfl, rfl, rfl, rfl, trivial⟩
  · replace F := F.2 hc
    refine s_ic dX13_count_73 ki_1 ?_
    refine s_goto (t := 78) dX13_count_74 rfl ?_
    exact s_k (t_count_78 hC hB35 F) ⟨rfl, rfl, rfl, rfl, trivial⟩

def w_count_98 (C : rCx) (Q : Int32 → rS → Prop)  (a1 : Int32) (a2 : Int32) (a3 : Int32) (s0 : Int32) (σ : rS) : Prop :=
  ((a1).toInt < 0 ∨ 10 < (a1).toInt →
    Q (σ.1 2) σ) ∧
  ((a1).toInt = 0 →
    ((σ.1 14) = 0 →
      Q (0 : Int32) σ) ∧
    (¬ ((σ.1 14) = 0) →
      Q (σ.1 15) σ)) ∧
  ((a1).toInt = 1 →
    ((σ.1 14) = 0 →
      Q (0 : Int32) σ) ∧
    (¬ ((σ.1 14) = 0) →
      Q (σ.1 16) σ)) ∧
  ((a1).toInt = 2 →
    ((σ.1 14) = 0 →
      Q (0 : Int32) σ) ∧
    (¬ ((σ.1 14) = 0) →
      Q (σ.1 18) σ)) ∧
  ((a1).toInt = 3 →
    ((σ.1 14) = 0 →
      Q (0 : Int32) σ) ∧
    (¬ ((σ.1 14) = 0) →
      Q (σ.1 19) σ)) ∧
  ((a1).toInt = 4 →
    Q (σ.1 70) σ) ∧
  ((a1).toInt = 5 →
    Q (σ.1 71) σ) ∧
  ((a1).toInt = 6 →
    Q (σ.1 72) σ) ∧
  ((a1).toInt = 7 →
    (s0 = 0 →
      Q (σ.1 88) σ) ∧
    (¬ (s0 = 0) →
      Q (0 : Int32) σ)) ∧
  ((a1).toInt = 8 →
    (s0 = 0 →
      Q (σ.1 89) σ) ∧
    (¬ (s0 = 0) →
      Q (0 : Int32) σ)) ∧
  ((a1).toInt = 9 →
    Q a2 σ) ∧
  ((a1).toInt = 10 →
    Q a3 σ)
theorem t_count_98 {C : rCx} (hC : cOK C) {Q : Int32 → rS → Prop}   {a1 : Int32} {a2 : Int32} {a3 : Int32} {s0 : Int32} {σ : rS} (F : w_count_98 C Q  a1 a2 a3 s0 σ) : wG C 1 m_count 98 [some (.ref (co C)), some (.int a1), some (.int a2), some (.int a3), none] [.int s0] σ (qI Q) := by
  unfold w_count_98 at F
  refine s_is dX13_count_98 (Nat.le_of_ble_eq_true rfl) rfl ?_
  refine s_iln dX13_count_100 rfl ?_
  by_cases hsw : (a1).toInt < 0 ∨ 10 < (a1).toInt
  · refine s_swd (t := 271) dX13_count_101 hsw rfl ?_
    replace F := F.1 hsw
    refine s_aln dX13_count_271 rfl ?_
    refine gf_253 dX13_count_272 rfl ?_
    exact s_ri dX13_count_275 rfl in_nar F
  replace F := F.2
  by_cases hs0 : (a1).toInt = 0
  · refine s_p (pc' := 160) dX13_count_101 (fun lo => sw_at (k := 0) hs0 (eq_true (by decide)) rfl rfl) ?_
    replace F := F.1 hs0
    refine s_aln dX13_count_160 rfl ?_
    refine gf_529 dX13_count_161 rfl ?_
    refine s_i (t := 174) ((σ.1 14) = 0) dX13_count_164 rfl rfl (fun hc => ?_) (fun hc => ?_)
    · replace F := F.1 hc
      refine s_ic dX13_count_174 ki_0 ?_
      exact s_ri dX13_count_175 rfl in_nar F
    · replace F := F.2 hc
      refine s_aln dX13_count_167 rfl ?_
      refine gf_333 dX13_count_168 rfl ?_
      refine s_goto (t := 175) dX13_count_171 rfl ?_
      exact s_ri dX13_count_175 rfl in_nar F
  replace F := F.2
  by_cases hs1 : (a1).toInt = 1
  · refine s_p (pc' := 176) dX13_count_101 (fun lo => sw_at (k := 0) hs1 (eq_true (by decide)) rfl rfl) ?_
    replace F := F.1 hs1
    refine s_aln dX13_count_176 rfl ?_
    refine gf_529 dX13_count_177 rfl ?_
    refine s_i (t := 190) ((σ.1 14) = 0) dX13_count_180 rfl rfl (fun hc => ?_) (fun hc => ?_)
    · replace F := F.1 hc
      refine s_ic dX13_count_190 ki_0 ?_
      exact s_ri dX13_count_191 rfl in_nar F
    · replace F := F.2 hc
      refine s_aln dX13_count_183 rfl ?_
      refine gf_340 dX13_count_184 rfl ?_
      refine s_goto (t := 191) dX13_count_187 rfl ?_
      exact s_ri dX13_count_191 rfl in_nar F
  replace F := F.2
  by_cases hs2 : (a1).toInt = 2
  · refine s_p (pc' := 192) dX13_count_101 (fun lo => sw_at (k := 0) hs2 (eq_true (by decide)) rfl rfl) ?_
    replace F := F.1 hs2
    refine s_aln dX13_count_192 rfl ?_
    refine gf_529 dX13_count_193 rfl ?_
    refine s_i (t := 206) ((σ.1 14) = 0) dX13_count_196 rfl rfl (fun hc => ?_) (fun hc => ?_)
    · replace F := F.1 hc
      refine s_ic dX13_count_206 ki_0 ?_
      exact s_ri dX13_count_207 rfl in_nar F
    · replace F := F.2 hc
      refine s_aln dX13_count_199 rfl ?_
      refine gf_343 dX13_count_200 rfl ?_
      refine s_goto (t := 207) dX13_count_203 rfl ?_
      exact s_ri dX13_count_207 rfl in_nar F
  replace F := F.2
  by_cases hs3 : (a1).toInt = 3
  · refine s_p (pc' := 208) dX13_count_101 (fun lo => sw_at (k := 0) hs3 (eq_true (by decide)) rfl rfl) ?_
    replace F := F.1 hs3
    refine s_aln dX13_count_208 rfl ?_
    refine gf_529 dX13_count_209 rfl ?_
    refine s_i (t := 222) ((σ.1 14) = 0) dX13_count_212 rfl rfl (fun hc => ?_) (fun hc => ?_)
    · replace F := F.1 hc
      refine s_ic dX13_count_222 ki_0 ?_
      exact s_ri dX13_count_223 rfl in_nar F
    · replace F := F.2 hc
      refine s_aln dX13_count_215 rfl ?_
      refine gf_378 dX13_count_216 rfl ?_
      refine s_goto (t := 223) dX13_count_219 rfl ?_
      exact s_ri dX13_count_223 rfl in_nar F
  replace F := F.2
  by_cases hs4 : (a1).toInt = 4
  · refine s_p (pc' := 224) dX13_count_101 (fun lo => sw_at (k := 0) hs4 (eq_true (by decide)) rfl rfl) ?_
    replace F := F.1 hs4
    refine s_aln dX13_count_224 rfl ?_
    refine gf_542 dX13_count_225 rfl ?_
    exact s_ri dX13_count_228 rfl in_nar F
  replace F := F.2
  by_cases hs5 : (a1).toInt = 5
  · refine s_p (pc' := 229) dX13_count_101 (fun lo => sw_at (k := 0) hs5 (eq_true (by decide)) rfl rfl) ?_
    replace F := F.1 hs5
    refine s_aln dX13_count_229 rfl ?_
    refine gf_545 dX13_count_230 rfl ?_
    exact s_ri dX13_count_233 rfl in_nar F
  replace F := F.2
  by_cases hs6 : (a1).toInt = 6
  · refine s_p (pc' := 234) dX13_count_101 (fun lo => sw_at (k := 0) hs6 (eq_true (by decide)) rfl rfl) ?_
    replace F := F.1 hs6
    refine s_aln dX13_count_234 rfl ?_
    refine gf_548 dX13_count_235 rfl ?_
    exact s_ri dX13_count_238 rfl in_nar F
  replace F := F.2
  by_cases hs7 : (a1).toInt = 7
  · refine s_p (pc' := 239) dX13_count_101 (fun lo => sw_at (k := 0) hs7 (eq_true (by decide)) rfl rfl) ?_
    replace F := F.1 hs7
    refine s_il dX13_count_239 rfl ?_
    refine s_i (t := 248) (s0 = 0) dX13_count_241 rfl rfl (fun hc => ?_) (fun hc => ?_)
    · replace F := F.1 hc
      refine s_aln dX13_count_248 rfl ?_
      refine gf_658 dX13_count_249 rfl ?_
      exact s_ri dX13_count_252 rfl in_nar F
    · replace F := F.2 hc
      refine s_ic dX13_count_244 ki_0 ?_
      refine s_goto (t := 252) dX13_count_245 rfl ?_
      exact s_ri dX13_count_252 rfl in_nar F
  replace F := F.2
  by_cases hs8 : (a1).toInt = 8
  · refine s_p (pc' := 253) dX13_count_101 (fun lo => sw_at (k := 0) hs8 (eq_true (by decide)) rfl rfl) ?_
    replace F := F.1 hs8
    refine s_il dX13_count_253 rfl ?_
    refine s_i (t := 262) (s0 = 0) dX13_count_255 rfl rfl (fun hc => ?_) (fun hc => ?_)
    · replace F := F.1 hc
      refine s_aln dX13_count_262 rfl ?_
      refine gf_661 dX13_count_263 rfl ?_
      exact s_ri dX13_count_266 rfl in_nar F
    · replace F := F.2 hc
      refine s_ic dX13_count_258 ki_0 ?_
      refine s_goto (t := 266) dX13_count_259 rfl ?_
      exact s_ri dX13_count_266 rfl in_nar F
  replace F := F.2
  by_cases hs9 : (a1).toInt = 9
  · refine s_p (pc' := 267) dX13_count_101 (fun lo => sw_at (k := 0) hs9 (eq_true (by decide)) rfl rfl) ?_
    replace F := F.1 hs9
    refine s_iln dX13_count_267 rfl ?_
    exact s_ri dX13_count_268 rfl in_nar F
  replace F := F.2
  have hs10 : (a1).toInt = 10 := by omega
  refine s_p (pc' := 269) dX13_count_101 (fun lo => sw_at (k := 0) hs10 (eq_true (by decide)) rfl rfl) ?_
  replace F := F hs10
  refine s_iln dX13_count_269 rfl ?_
  exact s_ri dX13_count_270 rfl in_nar F

def w_count_35 (C : rCx) (Q : Int32 → rS → Prop)  (a1 : Int32) (a2 : Int32) (a3 : Int32) (a4 : Int32) (σ : rS) : Prop :=
  ∃ I : Nat → Int32 → Int32 → Int32 → Int32 → rS → Prop, (∃ n, I n a1 a2 a3 a4 σ) ∧ ∀ n a1 a2 a3 a4 σ, I n a1 a2 a3 a4 σ →
    ((σ.1 70) ≤ a4 →
      (¬ ((σ.1 69) = 0) →
        w_count_98 C Q  a1 a2 a3 (0 : Int32) σ) ∧
      ((σ.1 69) = 0 →
        w_count_98 C Q  a1 a2 a3 (1 : Int32) σ)) ∧
    (¬ ((σ.1 70) ≤ a4) →
      inb a4 1000 ∧
      ((σ.2.2.1 81 (a4).toNatClampNeg) = 0 →
        w_count_60 C Q (fun a1' a2' a3' a4' τ => ∃ k < n, I k a1' a2' a3' a4' τ) a1 a3 a4 a2 (0 : Int32) σ) ∧
      (¬ ((σ.2.2.1 81 (a4).toNatClampNeg) = 0) →
        w_count_60 C Q (fun a1' a2' a3' a4' τ => ∃ k < n, I k a1' a2' a3' a4' τ) a1 a3 a4 a2 (1 : Int32) σ))
theorem t_count_35 {C : rCx} (hC : cOK C) {Q : Int32 → rS → Prop}   {a1 : Int32} {a2 : Int32} {a3 : Int32} {a4 : Int32} {σ : rS} (F : w_count_35 C Q  a1 a2 a3 a4 σ) : wG C 1 m_count 35 [some (.ref (co C)), some (.int a1), some (.int a2), some (.int a3), some (.int a4)] [] σ (qI Q) := by
  obtain ⟨I, ⟨n0, hI0⟩, F0⟩ := F
  have key : ∀ n a1 a2 a3 a4 σ, I n a1 a2 a3 a4 σ → wG C 1 m_count 35 [some (.ref (co C)), some (.int a1), some (.int a2), some (.int a3), some (.int a4)] [] σ (qI Q) := by
    intro n
    induction n using Nat.strongRecOn with
    | _ n ih =>
      intro a1 a2 a3 a4 σ hI
      have F := F0 n a1 a2 a3 a4 σ hI
      clear hI hI0
      refine s_il dX13_count_35 rfl ?_
      refine s_aln dX13_count_37 rfl ?_
      refine gf_542 dX13_count_38 rfl ?_
      refine s_ii (t := 86) ((σ.1 70) ≤ a4) dX13_count_41 rfl rfl (fun hc => ?_) (fun hc => ?_)
      · replace F := F.1 hc
        refine s_aln dX13_count_86 rfl ?_
        refine gf_533 dX13_count_87 rfl ?_
        refine s_in (t := 97) ((σ.1 69) = 0) dX13_count_90 rfl rfl (fun hc => ?_) (fun hc => ?_)
        · replace F := F.1 hc
          refine s_ic dX13_count_97 ki_0 ?_
          exact s_k (t_count_98 hC  F) ⟨rfl, rfl, rfl, rfl, trivial⟩
        · replace F := F.2 hc
          refine s_ic dX13_count_93 ki_1 ?_
          refine s_goto (t := 98) dX13_count_94 rfl ?_
          exact s_k (t_count_98 hC  F) ⟨rfl, rfl, rfl, rfl, trivial⟩
      · replace F := F.2 hc
        refine s_iln dX13_count_44 rfl ?_
        refine s_aln dX13_count_45 rfl ?_
        refine gf_166 dX13_count_46 rfl ?_
        refine s_il dX13_count_49 rfl ?_
        refine s_zld hC dX13_count_51 rt_81 F.1 ?_
        replace F := F.2
        refine s_i (t := 59) ((σ.2.2.1 81 (a4).toNatClampNeg) = 0) dX13_count_52 rfl rfl (fun hc => ?_) (fun hc => ?_)
        · replace F := F.1 hc
          refine s_ic dX13_count_59 ki_0 ?_
          exact s_k (t_count_60 hC (fun a1' a2' a3' a4' τ hb => by obtain ⟨k, hk, hI⟩ := hb; exact ih k hk a1' a2' a3' a4' τ hI) F) ⟨rfl, rfl, rfl, rfl, trivial⟩
        · replace F := F.2 hc
          refine s_ic dX13_count_55 ki_1 ?_
          refine s_goto (t := 60) dX13_count_56 rfl ?_
          exact s_k (t_count_60 hC (fun a1' a2' a3' a4' τ hb => by obtain ⟨k, hk, hI⟩ := hb; exact ih k hk a1' a2' a3' a4' τ hI) F) ⟨rfl, rfl, rfl, rfl, trivial⟩
  exact key n0 a1 a2 a3 a4 σ hI0

def w_count_16 (C : rCx) (Q : Int32 → rS → Prop)  (a1 : Int32) (s1 : Int32) (σ : rS) : Prop :=
  ∀ σ1, σ1 = siU σ 0 s1 →
  ((σ1.1 0) ≤ 0 →
    w_count_35 C Q  a1 (0 : Int32) (0 : Int32) (0 : Int32) σ1) ∧
  (¬ ((σ1.1 0) ≤ 0) →
    Q (0 : Int32) σ1)
theorem t_count_16 {C : rCx} (hC : cOK C) {Q : Int32 → rS → Prop}   {a1 : Int32} {s1 : Int32} {σ : rS} (F : w_count_16 C Q  a1 s1 σ) : wG C 1 m_count 16 [some (.ref (co C)), some (.int a1), none, none, none] [.int s1, .ref (co C)] σ (qI Q) := by
  unfold w_count_16 at F
  refine pf_1 hC dX13_count_16 rfl (fun σ1 eσ1 => ?_)
  replace F := F σ1 eσ1
  refine s_aln dX13_count_19 rfl ?_
  refine gf_1 dX13_count_20 rfl ?_
  refine s_i (t := 28) ((σ1.1 0) ≤ 0) dX13_count_23 rfl rfl (fun hc => ?_) (fun hc => ?_)
  · replace F := F.1 hc
    refine s_ic dX13_count_28 ki_0 ?_
    refine s_isn dX13_count_29 (Nat.le_of_ble_eq_true rfl) rfl ?_
    refine s_ic dX13_count_30 ki_0 ?_
    refine s_isn dX13_count_31 (Nat.le_of_ble_eq_true rfl) rfl ?_
    refine s_ic dX13_count_32 ki_0 ?_
    refine s_is dX13_count_33 (Nat.le_of_ble_eq_true rfl) rfl ?_
    exact s_k (t_count_35 hC  F) ⟨rfl, rfl, rfl, rfl, rfl, trivial⟩
  · replace F := F.2 hc
    refine s_ic dX13_count_26 ki_0 ?_
    exact s_ri dX13_count_27 rfl in_nar F

def w_count_0 (C : rCx) (Q : Int32 → rS → Prop)  (a1 : Int32) (σ : rS) : Prop :=
  cI C 0 m_within [.int a1, .int (0 : Int32), .int (11 : Int32)] σ (fun r2 σ1 =>
    (r2 = 0 →
      w_count_16 C Q  a1 (1 : Int32) σ1) ∧
    (¬ (r2 = 0) →
      w_count_16 C Q  a1 (0 : Int32) σ1))
theorem t_count_0 {C : rCx} (hC : cOK C) {Q : Int32 → rS → Prop}   {a1 : Int32} {σ : rS} (F : w_count_0 C Q  a1 σ) : wG C 1 m_count 0 [some (.ref (co C)), some (.int a1), none, none, none] [] σ (qI Q) := by
  unfold w_count_0 at F
  refine s_aln dX13_count_0 rfl ?_
  refine s_iln dX13_count_1 rfl ?_
  refine s_ic dX13_count_2 ki_0 ?_
  refine s_bi dX13_count_3 kb_11 ?_
  refine k_362 dX13_count_5 rfl (Nat.le_of_ble_eq_true rfl) (Nat.le_of_ble_eq_true rfl) F (fun r2 σ1 F => ?_)
  refine s_i (t := 15) (r2 = 0) dX13_count_8 rfl rfl (fun hc => ?_) (fun hc => ?_)
  · replace F := F.1 hc
    refine s_ic dX13_count_15 ki_1 ?_
    exact s_k (t_count_16 hC  F) ⟨rfl, rfl, trivial⟩
  · replace F := F.2 hc
    refine s_ic dX13_count_11 ki_0 ?_
    refine s_goto (t := 16) dX13_count_12 rfl ?_
    exact s_k (t_count_16 hC  F) ⟨rfl, rfl, trivial⟩

theorem m_count_run {C : rCx} (hC : cOK C) {Q : Int32 → rS → Prop} {a1 : Int32} {σ : rS} (F : w_count_0 C Q a1 σ) : cI C 1 m_count [.ref (co C), .int a1] σ Q := m_I (m_ent _ 3) (t_count_0 hC F)

theorem dX13_isState_0 : decode cX13_isState 0 = .ok (.aload_n 0, 1) := by decide +kernel
theorem dX13_isState_1 : decode cX13_isState 1 = .ok (.getfield 533, 3) := by decide +kernel
theorem dX13_isState_4 : decode cX13_isState 4 = .ok (.ifCond .eq 19, 3) := by decide +kernel
theorem dX13_isState_7 : decode cX13_isState 7 = .ok (.iload_n 1, 1) := by decide +kernel
theorem dX13_isState_8 : decode cX13_isState 8 = .ok (.ifCond .lt 15, 3) := by decide +kernel
theorem dX13_isState_11 : decode cX13_isState 11 = .ok (.iload_n 1, 1) := by decide +kernel
theorem dX13_isState_12 : decode cX13_isState 12 = .ok (.aload_n 0, 1) := by decide +kernel
theorem dX13_isState_13 : decode cX13_isState 13 = .ok (.getfield 542, 3) := by decide +kernel
theorem dX13_isState_16 : decode cX13_isState 16 = .ok (.if_icmp .ge 7, 3) := by decide +kernel
theorem dX13_isState_19 : decode cX13_isState 19 = .ok (.iconst 1, 1) := by decide +kernel
theorem dX13_isState_20 : decode cX13_isState 20 = .ok (.goto 4, 3) := by decide +kernel
theorem dX13_isState_23 : decode cX13_isState 23 = .ok (.iconst 0, 1) := by decide +kernel
theorem dX13_isState_24 : decode cX13_isState 24 = .ok (.ireturn, 1) := by decide +kernel
def w_isState_0 (C : rCx) (Q : Int32 → rS → Prop)  (a1 : Int32) (σ : rS) : Prop :=
  ((σ.1 69) = 0 →
    Q (0 : Int32) σ) ∧
  (¬ ((σ.1 69) = 0) →
    (a1 < 0 →
      Q (0 : Int32) σ) ∧
    (¬ (a1 < 0) →
      ((σ.1 70) ≤ a1 →
        Q (0 : Int32) σ) ∧
      (¬ ((σ.1 70) ≤ a1) →
        Q (1 : Int32) σ)))
theorem t_isState_0 {C : rCx} (hC : cOK C) {Q : Int32 → rS → Prop}   {a1 : Int32} {σ : rS} (F : w_isState_0 C Q  a1 σ) : wG C 0 m_isState 0 [some (.ref (co C)), some (.int a1)] [] σ (qI Q) := by
  unfold w_isState_0 at F
  refine s_aln dX13_isState_0 rfl ?_
  refine gf_533 dX13_isState_1 rfl ?_
  refine s_i (t := 23) ((σ.1 69) = 0) dX13_isState_4 rfl rfl (fun hc => ?_) (fun hc => ?_)
  · replace F := F.1 hc
    refine s_ic dX13_isState_23 ki_0 ?_
    exact s_ri dX13_isState_24 rfl (nb_nar nb_0) F
  · replace F := F.2 hc
    refine s_iln dX13_isState_7 rfl ?_
    refine s_i (t := 23) (a1 < 0) dX13_isState_8 rfl rfl (fun hc => ?_) (fun hc => ?_)
    · replace F := F.1 hc
      refine s_ic dX13_isState_23 ki_0 ?_
      exact s_ri dX13_isState_24 rfl (nb_nar nb_0) F
    · replace F := F.2 hc
      refine s_iln dX13_isState_11 rfl ?_
      refine s_aln dX13_isState_12 rfl ?_
      refine gf_542 dX13_isState_13 rfl ?_
      refine s_ii (t := 23) ((σ.1 70) ≤ a1) dX13_isState_16 rfl rfl (fun hc => ?_) (fun hc => ?_)
      · replace F := F.1 hc
        refine s_ic dX13_isState_23 ki_0 ?_
        exact s_ri dX13_isState_24 rfl (nb_nar nb_0) F
      · replace F := F.2 hc
        refine s_ic dX13_isState_19 ki_1 ?_
        refine s_goto (t := 24) dX13_isState_20 rfl ?_
        exact s_ri dX13_isState_24 rfl (nb_nar nb_1) F

theorem m_isState_run {C : rCx} (hC : cOK C) {Q : Int32 → rS → Prop} {a1 : Int32} {σ : rS} (F : w_isState_0 C Q a1 σ) : cI C 0 m_isState [.ref (co C), .int a1] σ Q := m_I (m_ent _ 0) (t_isState_0 hC F)

theorem dX13_latestAt_0 : decode cX13_latestAt 0 = .ok (.aload_n 0, 1) := by decide +kernel
theorem dX13_latestAt_1 : decode cX13_latestAt 1 = .ok (.getfield 141, 3) := by decide +kernel
theorem dX13_latestAt_4 : decode cX13_latestAt 4 = .ok (.sipush 143, 3) := by decide +kernel
theorem dX13_latestAt_7 : decode cX13_latestAt 7 = .ok (.iload_n 1, 1) := by decide +kernel
theorem dX13_latestAt_8 : decode cX13_latestAt 8 = .ok (.imul, 1) := by decide +kernel
theorem dX13_latestAt_9 : decode cX13_latestAt 9 = .ok (.bipush 35, 2) := by decide +kernel
theorem dX13_latestAt_11 : decode cX13_latestAt 11 = .ok (.iadd, 1) := by decide +kernel
theorem dX13_latestAt_12 : decode cX13_latestAt 12 = .ok (.bipush 9, 2) := by decide +kernel
theorem dX13_latestAt_14 : decode cX13_latestAt 14 = .ok (.aload_n 0, 1) := by decide +kernel
theorem dX13_latestAt_15 : decode cX13_latestAt 15 = .ok (.getfield 141, 3) := by decide +kernel
theorem dX13_latestAt_18 : decode cX13_latestAt 18 = .ok (.sipush 143, 3) := by decide +kernel
theorem dX13_latestAt_21 : decode cX13_latestAt 21 = .ok (.iload_n 1, 1) := by decide +kernel
theorem dX13_latestAt_22 : decode cX13_latestAt 22 = .ok (.imul, 1) := by decide +kernel
theorem dX13_latestAt_23 : decode cX13_latestAt 23 = .ok (.iaload, 1) := by decide +kernel
theorem dX13_latestAt_24 : decode cX13_latestAt 24 = .ok (.iconst 1, 1) := by decide +kernel
theorem dX13_latestAt_25 : decode cX13_latestAt 25 = .ok (.isub, 1) := by decide +kernel
theorem dX13_latestAt_26 : decode cX13_latestAt 26 = .ok (.imul, 1) := by decide +kernel
theorem dX13_latestAt_27 : decode cX13_latestAt 27 = .ok (.iadd, 1) := by decide +kernel
theorem dX13_latestAt_28 : decode cX13_latestAt 28 = .ok (.iaload, 1) := by decide +kernel
theorem dX13_latestAt_29 : decode cX13_latestAt 29 = .ok (.ireturn, 1) := by decide +kernel
def w_latestAt_0 (C : rCx) (Q : Int32 → rS → Prop)  (a1 : Int32) (σ : rS) : Prop :=
  inb ((143 : Int32) * a1) 143000 ∧
  inb ((((143 : Int32) * a1) + (35 : Int32)) + ((9 : Int32) * ((σ.2.2.1 73 (((143 : Int32) * a1)).toNatClampNeg) - (1 : Int32)))) 143000 ∧
  Q (σ.2.2.1 73 (((((143 : Int32) * a1) + (35 : Int32)) + ((9 : Int32) * ((σ.2.2.1 73 (((143 : Int32) * a1)).toNatClampNeg) - (1 : Int32))))).toNatClampNeg) σ
theorem t_latestAt_0 {C : rCx} (hC : cOK C) {Q : Int32 → rS → Prop}   {a1 : Int32} {σ : rS} (F : w_latestAt_0 C Q  a1 σ) : wG C 0 m_latestAt 0 [some (.ref (co C)), some (.int a1)] [] σ (qI Q) := by
  unfold w_latestAt_0 at F
  refine s_aln dX13_latestAt_0 rfl ?_
  refine gf_141 dX13_latestAt_1 rfl ?_
  refine s_si dX13_latestAt_4 ks_143 ?_
  refine s_iln dX13_latestAt_7 rfl ?_
  refine s_imul dX13_latestAt_8 ?_
  refine s_bi dX13_latestAt_9 kb_35 ?_
  refine s_iadd dX13_latestAt_11 ?_
  refine s_bi dX13_latestAt_12 kb_9 ?_
  refine s_aln dX13_latestAt_14 rfl ?_
  refine gf_141 dX13_latestAt_15 rfl ?_
  refine s_si dX13_latestAt_18 ks_143 ?_
  refine s_iln dX13_latestAt_21 rfl ?_
  refine s_imul dX13_latestAt_22 ?_
  refine s_ald hC dX13_latestAt_23 rt_73 F.1 ?_
  replace F := F.2
  refine s_ic dX13_latestAt_24 ki_1 ?_
  refine s_isub dX13_latestAt_25 ?_
  refine s_imul dX13_latestAt_26 ?_
  refine s_iadd dX13_latestAt_27 ?_
  refine s_ald hC dX13_latestAt_28 rt_73 F.1 ?_
  replace F := F.2
  exact s_ri dX13_latestAt_29 rfl in_nar F

theorem m_latestAt_run {C : rCx} (hC : cOK C) {Q : Int32 → rS → Prop} {a1 : Int32} {σ : rS} (F : w_latestAt_0 C Q a1 σ) : cI C 0 m_latestAt [.ref (co C), .int a1] σ Q := m_I (m_ent _ 0) (t_latestAt_0 hC F)

