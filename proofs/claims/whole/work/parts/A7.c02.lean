/-! methods of the class: Ma_fetch, Ma_work, Ma_aim, Ma_fail, Ma_offer, Ar_rangeCheck, Ar_fill4, Co_firstOf, Ma_openCall, Ma_put, Ma_spreadOut -/
theorem dX4_fetch_0 : decode cX4_fetch 0 = .ok (.iload_n 1, 1) := by decide +kernel
theorem dX4_fetch_1 : decode cX4_fetch 1 = .ok (.iconst 1, 1) := by decide +kernel
theorem dX4_fetch_2 : decode cX4_fetch 2 = .ok (.if_icmp .ne 5, 3) := by decide +kernel
theorem dX4_fetch_5 : decode cX4_fetch 5 = .ok (.iload_n 2, 1) := by decide +kernel
theorem dX4_fetch_6 : decode cX4_fetch 6 = .ok (.ireturn, 1) := by decide +kernel
theorem dX4_fetch_7 : decode cX4_fetch 7 = .ok (.iload_n 1, 1) := by decide +kernel
theorem dX4_fetch_8 : decode cX4_fetch 8 = .ok (.iconst 3, 1) := by decide +kernel
theorem dX4_fetch_9 : decode cX4_fetch 9 = .ok (.if_icmp .ne 14, 3) := by decide +kernel
theorem dX4_fetch_12 : decode cX4_fetch 12 = .ok (.aload_n 0, 1) := by decide +kernel
theorem dX4_fetch_13 : decode cX4_fetch 13 = .ok (.getfield 67, 3) := by decide +kernel
theorem dX4_fetch_16 : decode cX4_fetch 16 = .ok (.iconst 1, 1) := by decide +kernel
theorem dX4_fetch_17 : decode cX4_fetch 17 = .ok (.iadd, 1) := by decide +kernel
theorem dX4_fetch_18 : decode cX4_fetch 18 = .ok (.iload_n 2, 1) := by decide +kernel
theorem dX4_fetch_19 : decode cX4_fetch 19 = .ok (.iadd, 1) := by decide +kernel
theorem dX4_fetch_20 : decode cX4_fetch 20 = .ok (.goto 4, 3) := by decide +kernel
theorem dX4_fetch_23 : decode cX4_fetch 23 = .ok (.iload_n 2, 1) := by decide +kernel
theorem dX4_fetch_24 : decode cX4_fetch 24 = .ok (.istore_n 3, 1) := by decide +kernel
theorem dX4_fetch_25 : decode cX4_fetch 25 = .ok (.iload_n 3, 1) := by decide +kernel
theorem dX4_fetch_26 : decode cX4_fetch 26 = .ok (.ifCond .lt 21, 3) := by decide +kernel
theorem dX4_fetch_29 : decode cX4_fetch 29 = .ok (.iload_n 3, 1) := by decide +kernel
theorem dX4_fetch_30 : decode cX4_fetch 30 = .ok (.aload_n 0, 1) := by decide +kernel
theorem dX4_fetch_31 : decode cX4_fetch 31 = .ok (.getfield 15, 3) := by decide +kernel
theorem dX4_fetch_34 : decode cX4_fetch 34 = .ok (.arraylength, 1) := by decide +kernel
theorem dX4_fetch_35 : decode cX4_fetch 35 = .ok (.if_icmp .ge 12, 3) := by decide +kernel
theorem dX4_fetch_38 : decode cX4_fetch 38 = .ok (.aload_n 0, 1) := by decide +kernel
theorem dX4_fetch_39 : decode cX4_fetch 39 = .ok (.getfield 15, 3) := by decide +kernel
theorem dX4_fetch_42 : decode cX4_fetch 42 = .ok (.iload_n 3, 1) := by decide +kernel
theorem dX4_fetch_43 : decode cX4_fetch 43 = .ok (.iaload, 1) := by decide +kernel
theorem dX4_fetch_44 : decode cX4_fetch 44 = .ok (.goto 4, 3) := by decide +kernel
theorem dX4_fetch_47 : decode cX4_fetch 47 = .ok (.iconst 0, 1) := by decide +kernel
theorem dX4_fetch_48 : decode cX4_fetch 48 = .ok (.ireturn, 1) := by decide +kernel
def w_Ma_fetch_24 (C : zC) (n0 : Nat) (Q : Int32 → zS → Prop)  (a0 : Nat) (s0 : Int32) (κ : zS) : Prop :=
  (s0 < (0 : Int32) →
    Q (0 : Int32) κ) ∧
  (¬ s0 < (0 : Int32) →
    ((Int32.ofNat (zN κ (zR κ maMemory a0))) ≤ s0 →
      Q (0 : Int32) κ) ∧
    (¬ (Int32.ofNat (zN κ (zR κ maMemory a0))) ≤ s0 →
      inb s0 (zN κ (zR κ maMemory a0)) ∧
      Q (zA κ (zR κ maMemory a0) (s0).toNatClampNeg) κ))
theorem t_Ma_fetch_24 {C : zC} {n0 : Nat} {Q : Int32 → zS → Prop}   {a0 : Nat} {s0 : Int32} {κ : zS} (W : zW C n0 κ) (Ta0 : zT κ a0 = 7) (F : w_Ma_fetch_24 C n0 Q  a0 s0 κ) : zG C n0 0 mMa_fetch 24 [some (.ref a0), none, none, none] [.int s0] κ (oI Q noX) := by
  unfold w_Ma_fetch_24 at F
  refine y_isn dX4_fetch_24 (Nat.le_of_ble_eq_true rfl) rfl ?_
  refine y_iln dX4_fetch_25 rfl ?_
  refine y_i (s0 < (0 : Int32)) dX4_fetch_26 (t := 47) rfl rfl (fun c9 => ?_) (fun c9 => ?_)
  · replace F := F.1 c9
    refine y_ic dX4_fetch_47 zi_0 ?_
    exact y_ri W dX4_fetch_48 rfl in_nar F
  · replace F := F.2 c9
    refine y_iln dX4_fetch_29 rfl ?_
    refine y_aln dX4_fetch_30 rfl ?_
    refine gf_X4_15 W dX4_fetch_31 rfl Ta0 ?_
    refine y_alen (t := 0) dX4_fetch_34 (ty_maMemory W Ta0) (by decide) ?_
    refine y_ii ((Int32.ofNat (zN κ (zR κ maMemory a0))) ≤ s0) dX4_fetch_35 (t := 47) rfl rfl (fun c9 => ?_) (fun c9 => ?_)
    · replace F := F.1 c9
      refine y_ic dX4_fetch_47 zi_0 ?_
      exact y_ri W dX4_fetch_48 rfl in_nar F
    · replace F := F.2 c9
      refine y_aln dX4_fetch_38 rfl ?_
      refine gf_X4_15 W dX4_fetch_39 rfl Ta0 ?_
      refine y_iln dX4_fetch_42 rfl ?_
      refine y_ald dX4_fetch_43 (ty_maMemory W Ta0) F.1 ?_
      replace F := F.2
      refine y_goto dX4_fetch_44 (t := 48) rfl ?_
      exact y_ri W dX4_fetch_48 rfl in_nar F

def w_Ma_fetch_0 (C : zC) (n0 : Nat) (Q : Int32 → zS → Prop)  (a0 : Nat) (a1 : Int32) (a2 : Int32) (κ : zS) : Prop :=
  (¬ a1 = (1 : Int32) →
    (¬ a1 = (3 : Int32) →
      w_Ma_fetch_24 C n0 Q  a0 a2 κ) ∧
    (a1 = (3 : Int32) →
      w_Ma_fetch_24 C n0 Q  a0 (((zI κ maFrame a0) + (1 : Int32)) + a2) κ)) ∧
  (a1 = (1 : Int32) →
    Q a2 κ)
theorem t_Ma_fetch_0 {C : zC} {n0 : Nat} {Q : Int32 → zS → Prop}   {a0 : Nat} {a1 : Int32} {a2 : Int32} {κ : zS} (W : zW C n0 κ) (Ta0 : zT κ a0 = 7) (F : w_Ma_fetch_0 C n0 Q  a0 a1 a2 κ) : zG C n0 0 mMa_fetch 0 [some (.ref a0), some (.int a1), some (.int a2), none] [] κ (oI Q noX) := by
  unfold w_Ma_fetch_0 at F
  refine y_iln dX4_fetch_0 rfl ?_
  refine y_ic dX4_fetch_1 zi_1 ?_
  refine y_iin (a1 = (1 : Int32)) dX4_fetch_2 (t := 7) rfl rfl (fun c9 => ?_) (fun c9 => ?_)
  · replace F := F.1 c9
    refine y_iln dX4_fetch_7 rfl ?_
    refine y_ic dX4_fetch_8 zi_3 ?_
    refine y_iin (a1 = (3 : Int32)) dX4_fetch_9 (t := 23) rfl rfl (fun c9 => ?_) (fun c9 => ?_)
    · replace F := F.1 c9
      refine y_iln dX4_fetch_23 rfl ?_
      exact y_k (t_Ma_fetch_24  W Ta0 F) ⟨rfl, trivial⟩
    · replace F := F.2 c9
      refine y_aln dX4_fetch_12 rfl ?_
      refine gf_X4_67 dX4_fetch_13 rfl (Or.inl Ta0) ?_
      refine y_ic dX4_fetch_16 zi_1 ?_
      refine y_iadd dX4_fetch_17 ?_
      refine y_iln dX4_fetch_18 rfl ?_
      refine y_iadd dX4_fetch_19 ?_
      refine y_goto dX4_fetch_20 (t := 24) rfl ?_
      exact y_k (t_Ma_fetch_24  W Ta0 F) ⟨rfl, trivial⟩
  · replace F := F.2 c9
    refine y_iln dX4_fetch_5 rfl ?_
    exact y_ri W dX4_fetch_6 rfl in_nar F

theorem Ma_fetch_run {C : zC} {n0 : Nat} {Q : Int32 → zS → Prop} {a0 : Nat} {a1 : Int32} {a2 : Int32} {κ : zS} (W : zW C n0 κ) (Ta0 : zT κ a0 = 7) (F : w_Ma_fetch_0 C (zn κ) Q a0 a1 a2 κ) : zRun C 0 mMa_fetch [.ref a0, .int a1, .int a2] κ (oI Q noX) := z_run (m_ent _ 1) (t_Ma_fetch_0 (W.lo (Nat.le_trans W.1.2.1 W.1.2.2) (Nat.le_refl _)) Ta0 F)

theorem dX4_work_0 : decode cX4_work 0 = .ok (.iconst 0, 1) := by decide +kernel
theorem dX4_work_1 : decode cX4_work 1 = .ok (.istore_n 1, 1) := by decide +kernel
theorem dX4_work_2 : decode cX4_work 2 = .ok (.aload_n 0, 1) := by decide +kernel
theorem dX4_work_3 : decode cX4_work 3 = .ok (.getfield 113, 3) := by decide +kernel
theorem dX4_work_6 : decode cX4_work 6 = .ok (.ifCond .lt 285, 3) := by decide +kernel
theorem dX4_work_9 : decode cX4_work 9 = .ok (.aload_n 0, 1) := by decide +kernel
theorem dX4_work_10 : decode cX4_work 10 = .ok (.getfield 113, 3) := by decide +kernel
theorem dX4_work_13 : decode cX4_work 13 = .ok (.aload_n 0, 1) := by decide +kernel
theorem dX4_work_14 : decode cX4_work 14 = .ok (.getfield 11, 3) := by decide +kernel
theorem dX4_work_17 : decode cX4_work 17 = .ok (.getfield 170, 3) := by decide +kernel
theorem dX4_work_20 : decode cX4_work 20 = .ok (.if_icmp .ge 271, 3) := by decide +kernel
theorem dX4_work_23 : decode cX4_work 23 = .ok (.aload_n 0, 1) := by decide +kernel
theorem dX4_work_24 : decode cX4_work 24 = .ok (.getfield 11, 3) := by decide +kernel
theorem dX4_work_27 : decode cX4_work 27 = .ok (.getfield 173, 3) := by decide +kernel
theorem dX4_work_30 : decode cX4_work 30 = .ok (.aload_n 0, 1) := by decide +kernel
theorem dX4_work_31 : decode cX4_work 31 = .ok (.getfield 113, 3) := by decide +kernel
theorem dX4_work_34 : decode cX4_work 34 = .ok (.iaload, 1) := by decide +kernel
theorem dX4_work_35 : decode cX4_work 35 = .ok (.istore_n 2, 1) := by decide +kernel
theorem dX4_work_36 : decode cX4_work 36 = .ok (.iload_n 2, 1) := by decide +kernel
theorem dX4_work_37 : decode cX4_work 37 = .ok (.ifCond .ne 30, 3) := by decide +kernel
theorem dX4_work_40 : decode cX4_work 40 = .ok (.aload_n 0, 1) := by decide +kernel
theorem dX4_work_41 : decode cX4_work 41 = .ok (.dup, 1) := by decide +kernel
theorem dX4_work_42 : decode cX4_work 42 = .ok (.getfield 113, 3) := by decide +kernel
theorem dX4_work_45 : decode cX4_work 45 = .ok (.iconst 1, 1) := by decide +kernel
theorem dX4_work_46 : decode cX4_work 46 = .ok (.iadd, 1) := by decide +kernel
theorem dX4_work_47 : decode cX4_work 47 = .ok (.putfield 113, 3) := by decide +kernel
theorem dX4_work_50 : decode cX4_work 50 = .ok (.iload_n 1, 1) := by decide +kernel
theorem dX4_work_51 : decode cX4_work 51 = .ok (.ifCond .le 14, 3) := by decide +kernel
theorem dX4_work_54 : decode cX4_work 54 = .ok (.aload_n 0, 1) := by decide +kernel
theorem dX4_work_55 : decode cX4_work 55 = .ok (.getfield 19, 3) := by decide +kernel
theorem dX4_work_58 : decode cX4_work 58 = .ok (.iload_n 1, 1) := by decide +kernel
theorem dX4_work_59 : decode cX4_work 59 = .ok (.iconst 1, 1) := by decide +kernel
theorem dX4_work_60 : decode cX4_work 60 = .ok (.isub, 1) := by decide +kernel
theorem dX4_work_61 : decode cX4_work 61 = .ok (.iaload, 1) := by decide +kernel
theorem dX4_work_62 : decode cX4_work 62 = .ok (.goto 4, 3) := by decide +kernel
theorem dX4_work_65 : decode cX4_work 65 = .ok (.iconst 0, 1) := by decide +kernel
theorem dX4_work_66 : decode cX4_work 66 = .ok (.ireturn, 1) := by decide +kernel
theorem dX4_work_67 : decode cX4_work 67 = .ok (.iload_n 2, 1) := by decide +kernel
theorem dX4_work_68 : decode cX4_work 68 = .ok (.iconst 3, 1) := by decide +kernel
theorem dX4_work_69 : decode cX4_work 69 = .ok (.if_icmp .gt 41, 3) := by decide +kernel
theorem dX4_work_72 : decode cX4_work 72 = .ok (.iload_n 1, 1) := by decide +kernel
theorem dX4_work_73 : decode cX4_work 73 = .ok (.aload_n 0, 1) := by decide +kernel
theorem dX4_work_74 : decode cX4_work 74 = .ok (.getfield 19, 3) := by decide +kernel
theorem dX4_work_77 : decode cX4_work 77 = .ok (.arraylength, 1) := by decide +kernel
theorem dX4_work_78 : decode cX4_work 78 = .ok (.if_icmp .ge 200, 3) := by decide +kernel
theorem dX4_work_81 : decode cX4_work 81 = .ok (.aload_n 0, 1) := by decide +kernel
theorem dX4_work_82 : decode cX4_work 82 = .ok (.getfield 19, 3) := by decide +kernel
theorem dX4_work_85 : decode cX4_work 85 = .ok (.iload_n 1, 1) := by decide +kernel
theorem dX4_work_86 : decode cX4_work 86 = .ok (.aload_n 0, 1) := by decide +kernel
theorem dX4_work_87 : decode cX4_work 87 = .ok (.iload_n 2, 1) := by decide +kernel
theorem dX4_work_88 : decode cX4_work 88 = .ok (.aload_n 0, 1) := by decide +kernel
theorem dX4_work_89 : decode cX4_work 89 = .ok (.getfield 11, 3) := by decide +kernel
theorem dX4_work_92 : decode cX4_work 92 = .ok (.getfield 176, 3) := by decide +kernel
theorem dX4_work_95 : decode cX4_work 95 = .ok (.aload_n 0, 1) := by decide +kernel
theorem dX4_work_96 : decode cX4_work 96 = .ok (.getfield 113, 3) := by decide +kernel
theorem dX4_work_99 : decode cX4_work 99 = .ok (.iaload, 1) := by decide +kernel
theorem dX4_work_100 : decode cX4_work 100 = .ok (.invokevirtual 179, 3) := by decide +kernel
theorem dX4_work_103 : decode cX4_work 103 = .ok (.iastore, 1) := by decide +kernel
theorem dX4_work_104 : decode cX4_work 104 = .ok (.iinc 1 1, 3) := by decide +kernel
theorem dX4_work_107 : decode cX4_work 107 = .ok (.goto 171, 3) := by decide +kernel
theorem dX4_work_110 : decode cX4_work 110 = .ok (.iload_n 2, 1) := by decide +kernel
theorem dX4_work_111 : decode cX4_work 111 = .ok (.iconst 4, 1) := by decide +kernel
theorem dX4_work_112 : decode cX4_work 112 = .ok (.if_icmp .ne 61, 3) := by decide +kernel
theorem dX4_work_115 : decode cX4_work 115 = .ok (.iload_n 1, 1) := by decide +kernel
theorem dX4_work_116 : decode cX4_work 116 = .ok (.ifCond .le 57, 3) := by decide +kernel
theorem dX4_work_119 : decode cX4_work 119 = .ok (.aload_n 0, 1) := by decide +kernel
theorem dX4_work_120 : decode cX4_work 120 = .ok (.aload_n 0, 1) := by decide +kernel
theorem dX4_work_121 : decode cX4_work 121 = .ok (.getfield 11, 3) := by decide +kernel
theorem dX4_work_124 : decode cX4_work 124 = .ok (.getfield 176, 3) := by decide +kernel
theorem dX4_work_127 : decode cX4_work 127 = .ok (.aload_n 0, 1) := by decide +kernel
theorem dX4_work_128 : decode cX4_work 128 = .ok (.getfield 113, 3) := by decide +kernel
theorem dX4_work_131 : decode cX4_work 131 = .ok (.iaload, 1) := by decide +kernel
theorem dX4_work_132 : decode cX4_work 132 = .ok (.aload_n 0, 1) := by decide +kernel
theorem dX4_work_133 : decode cX4_work 133 = .ok (.getfield 19, 3) := by decide +kernel
theorem dX4_work_136 : decode cX4_work 136 = .ok (.iload_n 1, 1) := by decide +kernel
theorem dX4_work_137 : decode cX4_work 137 = .ok (.iconst 1, 1) := by decide +kernel
theorem dX4_work_138 : decode cX4_work 138 = .ok (.isub, 1) := by decide +kernel
theorem dX4_work_139 : decode cX4_work 139 = .ok (.iaload, 1) := by decide +kernel
theorem dX4_work_140 : decode cX4_work 140 = .ok (.invokevirtual 133, 3) := by decide +kernel
theorem dX4_work_143 : decode cX4_work 143 = .ok (.istore_n 3, 1) := by decide +kernel
theorem dX4_work_144 : decode cX4_work 144 = .ok (.iload_n 3, 1) := by decide +kernel
theorem dX4_work_145 : decode cX4_work 145 = .ok (.iconst (-1), 1) := by decide +kernel
theorem dX4_work_146 : decode cX4_work 146 = .ok (.if_icmp .ne 10, 3) := by decide +kernel
theorem dX4_work_149 : decode cX4_work 149 = .ok (.aload_n 0, 1) := by decide +kernel
theorem dX4_work_150 : decode cX4_work 150 = .ok (.iconst 1, 1) := by decide +kernel
theorem dX4_work_151 : decode cX4_work 151 = .ok (.putfield 70, 3) := by decide +kernel
theorem dX4_work_154 : decode cX4_work 154 = .ok (.iconst 0, 1) := by decide +kernel
theorem dX4_work_155 : decode cX4_work 155 = .ok (.ireturn, 1) := by decide +kernel
theorem dX4_work_156 : decode cX4_work 156 = .ok (.aload_n 0, 1) := by decide +kernel
theorem dX4_work_157 : decode cX4_work 157 = .ok (.getfield 19, 3) := by decide +kernel
theorem dX4_work_160 : decode cX4_work 160 = .ok (.iload_n 1, 1) := by decide +kernel
theorem dX4_work_161 : decode cX4_work 161 = .ok (.iconst 1, 1) := by decide +kernel
theorem dX4_work_162 : decode cX4_work 162 = .ok (.isub, 1) := by decide +kernel
theorem dX4_work_163 : decode cX4_work 163 = .ok (.aload_n 0, 1) := by decide +kernel
theorem dX4_work_164 : decode cX4_work 164 = .ok (.getfield 15, 3) := by decide +kernel
theorem dX4_work_167 : decode cX4_work 167 = .ok (.iload_n 3, 1) := by decide +kernel
theorem dX4_work_168 : decode cX4_work 168 = .ok (.iaload, 1) := by decide +kernel
theorem dX4_work_169 : decode cX4_work 169 = .ok (.iastore, 1) := by decide +kernel
theorem dX4_work_170 : decode cX4_work 170 = .ok (.goto 108, 3) := by decide +kernel
theorem dX4_work_173 : decode cX4_work 173 = .ok (.iload_n 2, 1) := by decide +kernel
theorem dX4_work_174 : decode cX4_work 174 = .ok (.bipush 6, 2) := by decide +kernel
theorem dX4_work_176 : decode cX4_work 176 = .ok (.if_icmp .gt 46, 3) := by decide +kernel
theorem dX4_work_179 : decode cX4_work 179 = .ok (.iload_n 1, 1) := by decide +kernel
theorem dX4_work_180 : decode cX4_work 180 = .ok (.ifCond .le 42, 3) := by decide +kernel
theorem dX4_work_183 : decode cX4_work 183 = .ok (.aload_n 0, 1) := by decide +kernel
theorem dX4_work_184 : decode cX4_work 184 = .ok (.getfield 19, 3) := by decide +kernel
theorem dX4_work_187 : decode cX4_work 187 = .ok (.iload_n 1, 1) := by decide +kernel
theorem dX4_work_188 : decode cX4_work 188 = .ok (.iconst 1, 1) := by decide +kernel
theorem dX4_work_189 : decode cX4_work 189 = .ok (.isub, 1) := by decide +kernel
theorem dX4_work_190 : decode cX4_work 190 = .ok (.iaload, 1) := by decide +kernel
theorem dX4_work_191 : decode cX4_work 191 = .ok (.istore_n 3, 1) := by decide +kernel
theorem dX4_work_192 : decode cX4_work 192 = .ok (.aload_n 0, 1) := by decide +kernel
theorem dX4_work_193 : decode cX4_work 193 = .ok (.getfield 19, 3) := by decide +kernel
theorem dX4_work_196 : decode cX4_work 196 = .ok (.iload_n 1, 1) := by decide +kernel
theorem dX4_work_197 : decode cX4_work 197 = .ok (.iconst 1, 1) := by decide +kernel
theorem dX4_work_198 : decode cX4_work 198 = .ok (.isub, 1) := by decide +kernel
theorem dX4_work_199 : decode cX4_work 199 = .ok (.iload_n 2, 1) := by decide +kernel
theorem dX4_work_200 : decode cX4_work 200 = .ok (.iconst 5, 1) := by decide +kernel
theorem dX4_work_201 : decode cX4_work 201 = .ok (.if_icmp .ne 8, 3) := by decide +kernel
theorem dX4_work_204 : decode cX4_work 204 = .ok (.iload_n 3, 1) := by decide +kernel
theorem dX4_work_205 : decode cX4_work 205 = .ok (.ineg, 1) := by decide +kernel
theorem dX4_work_206 : decode cX4_work 206 = .ok (.goto 12, 3) := by decide +kernel
theorem dX4_work_209 : decode cX4_work 209 = .ok (.iload_n 3, 1) := by decide +kernel
theorem dX4_work_210 : decode cX4_work 210 = .ok (.ifCond .ne 7, 3) := by decide +kernel
theorem dX4_work_213 : decode cX4_work 213 = .ok (.iconst 1, 1) := by decide +kernel
theorem dX4_work_214 : decode cX4_work 214 = .ok (.goto 4, 3) := by decide +kernel
theorem dX4_work_217 : decode cX4_work 217 = .ok (.iconst 0, 1) := by decide +kernel
theorem dX4_work_218 : decode cX4_work 218 = .ok (.iastore, 1) := by decide +kernel
theorem dX4_work_219 : decode cX4_work 219 = .ok (.goto 59, 3) := by decide +kernel
theorem dX4_work_222 : decode cX4_work 222 = .ok (.iload_n 1, 1) := by decide +kernel
theorem dX4_work_223 : decode cX4_work 223 = .ok (.iconst 1, 1) := by decide +kernel
theorem dX4_work_224 : decode cX4_work 224 = .ok (.if_icmp .le 54, 3) := by decide +kernel
theorem dX4_work_227 : decode cX4_work 227 = .ok (.iinc 1 (-1), 3) := by decide +kernel
theorem dX4_work_230 : decode cX4_work 230 = .ok (.iload_n 2, 1) := by decide +kernel
theorem dX4_work_231 : decode cX4_work 231 = .ok (.bipush 18, 2) := by decide +kernel
theorem dX4_work_233 : decode cX4_work 233 = .ok (.if_icmp .lt 19, 3) := by decide +kernel
theorem dX4_work_236 : decode cX4_work 236 = .ok (.aload_n 0, 1) := by decide +kernel
theorem dX4_work_237 : decode cX4_work 237 = .ok (.getfield 19, 3) := by decide +kernel
theorem dX4_work_240 : decode cX4_work 240 = .ok (.iload_n 1, 1) := by decide +kernel
theorem dX4_work_241 : decode cX4_work 241 = .ok (.iaload, 1) := by decide +kernel
theorem dX4_work_242 : decode cX4_work 242 = .ok (.ifCond .ne 10, 3) := by decide +kernel
theorem dX4_work_245 : decode cX4_work 245 = .ok (.aload_n 0, 1) := by decide +kernel
theorem dX4_work_246 : decode cX4_work 246 = .ok (.iconst 2, 1) := by decide +kernel
theorem dX4_work_247 : decode cX4_work 247 = .ok (.putfield 70, 3) := by decide +kernel
theorem dX4_work_250 : decode cX4_work 250 = .ok (.iconst 0, 1) := by decide +kernel
theorem dX4_work_251 : decode cX4_work 251 = .ok (.ireturn, 1) := by decide +kernel
theorem dX4_work_252 : decode cX4_work 252 = .ok (.aload_n 0, 1) := by decide +kernel
theorem dX4_work_253 : decode cX4_work 253 = .ok (.getfield 19, 3) := by decide +kernel
theorem dX4_work_256 : decode cX4_work 256 = .ok (.iload_n 1, 1) := by decide +kernel
theorem dX4_work_257 : decode cX4_work 257 = .ok (.iconst 1, 1) := by decide +kernel
theorem dX4_work_258 : decode cX4_work 258 = .ok (.isub, 1) := by decide +kernel
theorem dX4_work_259 : decode cX4_work 259 = .ok (.iload_n 2, 1) := by decide +kernel
theorem dX4_work_260 : decode cX4_work 260 = .ok (.aload_n 0, 1) := by decide +kernel
theorem dX4_work_261 : decode cX4_work 261 = .ok (.getfield 19, 3) := by decide +kernel
theorem dX4_work_264 : decode cX4_work 264 = .ok (.iload_n 1, 1) := by decide +kernel
theorem dX4_work_265 : decode cX4_work 265 = .ok (.iconst 1, 1) := by decide +kernel
theorem dX4_work_266 : decode cX4_work 266 = .ok (.isub, 1) := by decide +kernel
theorem dX4_work_267 : decode cX4_work 267 = .ok (.iaload, 1) := by decide +kernel
theorem dX4_work_268 : decode cX4_work 268 = .ok (.aload_n 0, 1) := by decide +kernel
theorem dX4_work_269 : decode cX4_work 269 = .ok (.getfield 19, 3) := by decide +kernel
theorem dX4_work_272 : decode cX4_work 272 = .ok (.iload_n 1, 1) := by decide +kernel
theorem dX4_work_273 : decode cX4_work 273 = .ok (.iaload, 1) := by decide +kernel
theorem dX4_work_274 : decode cX4_work 274 = .ok (.invokestatic 182, 3) := by decide +kernel
theorem dX4_work_277 : decode cX4_work 277 = .ok (.iastore, 1) := by decide +kernel
theorem dX4_work_278 : decode cX4_work 278 = .ok (.aload_n 0, 1) := by decide +kernel
theorem dX4_work_279 : decode cX4_work 279 = .ok (.dup, 1) := by decide +kernel
theorem dX4_work_280 : decode cX4_work 280 = .ok (.getfield 113, 3) := by decide +kernel
theorem dX4_work_283 : decode cX4_work 283 = .ok (.iconst 1, 1) := by decide +kernel
theorem dX4_work_284 : decode cX4_work 284 = .ok (.iadd, 1) := by decide +kernel
theorem dX4_work_285 : decode cX4_work 285 = .ok (.putfield 113, 3) := by decide +kernel
theorem dX4_work_288 : decode cX4_work 288 = .ok (.goto (-286), 3) := by decide +kernel
theorem dX4_work_291 : decode cX4_work 291 = .ok (.iconst 0, 1) := by decide +kernel
theorem dX4_work_292 : decode cX4_work 292 = .ok (.ireturn, 1) := by decide +kernel
def w_Ma_work_278 (C : zC) (n0 : Nat) (Q : Int32 → zS → Prop) (B2 : Nat → Int32 → zS → Prop) (a0 : Nat) (a1 : Int32) (κ : zS) : Prop :=
  ∀ κ1, κ1 = ui κ maPc a0 ((zI κ maPc a0) + (1 : Int32)) →
  ∀ _ : zW C n0 κ1,
  B2 a0 a1 κ1
theorem t_Ma_work_278 {C : zC} {n0 : Nat} {Q : Int32 → zS → Prop} {B2 : Nat → Int32 → zS → Prop} (hB2 : ∀ a0' a1' τ, zW C n0 τ → zT τ a0' = 7 → B2 a0' a1' τ → zG C n0 1 mMa_work 2 [some (.ref a0'), some (.int a1'), none, none] [] τ (oI Q noX)) {a0 : Nat} {a1 : Int32} {κ : zS} (W : zW C n0 κ) (Ta0 : zT κ a0 = 7) (F : w_Ma_work_278 C n0 Q B2 a0 a1 κ) : zG C n0 1 mMa_work 278 [some (.ref a0), some (.int a1), none, none] [] κ (oI Q noX) := by
  unfold w_Ma_work_278 at F
  refine y_aln dX4_work_278 rfl ?_
  refine y_dup dX4_work_279 rfl ?_
  refine gf_X4_113 dX4_work_280 rfl (Or.inl Ta0) ?_
  refine y_ic dX4_work_283 zi_1 ?_
  refine y_iadd dX4_work_284 ?_
  refine pf_X4_113 W dX4_work_285 rfl (Or.inl Ta0) (fun κ1 eκ1 => ?_)
  replace F := F κ1 eκ1
  have Wκ1 : zW C n0 κ1 := zW_ui W eκ1 (fun h => absurd h (by decide))
  have Mκ1 : zM (zn κ) κ κ1 := by rw [eκ1]; exact zM.of rfl rfl rfl
  replace F := F Wκ1
  refine y_goto dX4_work_288 (t := 2) rfl ?_
  have h2 := (ztm W Mκ1 Ta0)
  exact y_k (hB2 _ _ _ Wκ1 h2 F) ⟨rfl, rfl, trivial⟩

def w_Ma_work_252 (C : zC) (n0 : Nat) (Q : Int32 → zS → Prop) (B2 : Nat → Int32 → zS → Prop) (a0 : Nat) (a1 : Int32) (a2 : Int32) (κ : zS) : Prop :=
  inb (a1 - (1 : Int32)) (zN κ (zR κ maStack a0)) ∧
  inb a1 (zN κ (zR κ maStack a0)) ∧
  zRun C 0 mMa_combine [.int a2, .int (zA κ (zR κ maStack a0) ((a1 - (1 : Int32))).toNatClampNeg), .int (zA κ (zR κ maStack a0) (a1).toNatClampNeg)] κ (oI (fun r2 κ1 =>
    ∀ _ : zW C n0 κ1,
    ∀ _ : zM (zn κ) κ κ1,
    inb (a1 - (1 : Int32)) (zN κ1 (zR κ maStack a0)) ∧
    ∀ κ4, κ4 = ua κ1 (zR κ maStack a0) ((a1 - (1 : Int32))).toNatClampNeg r2 →
    ∀ _ : zW C n0 κ4,
    w_Ma_work_278 C n0 Q B2 a0 a1 κ4) noX)
theorem t_Ma_work_252 {C : zC} {n0 : Nat} {Q : Int32 → zS → Prop} {B2 : Nat → Int32 → zS → Prop} (hB2 : ∀ a0' a1' τ, zW C n0 τ → zT τ a0' = 7 → B2 a0' a1' τ → zG C n0 1 mMa_work 2 [some (.ref a0'), some (.int a1'), none, none] [] τ (oI Q noX)) {a0 : Nat} {a1 : Int32} {a2 : Int32} {κ : zS} (W : zW C n0 κ) (Ta0 : zT κ a0 = 7) (F : w_Ma_work_252 C n0 Q B2 a0 a1 a2 κ) : zG C n0 1 mMa_work 252 [some (.ref a0), some (.int a1), some (.int a2), none] [] κ (oI Q noX) := by
  unfold w_Ma_work_252 at F
  refine y_aln dX4_work_252 rfl ?_
  refine gf_X4_19 W dX4_work_253 rfl Ta0 ?_
  refine y_iln dX4_work_256 rfl ?_
  refine y_ic dX4_work_257 zi_1 ?_
  refine y_isub dX4_work_258 ?_
  refine y_iln dX4_work_259 rfl ?_
  refine y_aln dX4_work_260 rfl ?_
  refine gf_X4_19 W dX4_work_261 rfl Ta0 ?_
  refine y_iln dX4_work_264 rfl ?_
  refine y_ic dX4_work_265 zi_1 ?_
  refine y_isub dX4_work_266 ?_
  refine y_ald dX4_work_267 (ty_maStack W Ta0) F.1 ?_
  replace F := F.2
  refine y_aln dX4_work_268 rfl ?_
  refine gf_X4_19 W dX4_work_269 rfl Ta0 ?_
  refine y_iln dX4_work_272 rfl ?_
  refine y_ald dX4_work_273 (ty_maStack W Ta0) F.1 ?_
  replace F := F.2
  refine k_X4_182 W dX4_work_274 rfl (Nat.le_of_ble_eq_true rfl) (Nat.le_of_ble_eq_true rfl)  F (fun r2 κ1 Wκ1 Mκ1 F => ?_) (fun _ _ h9 => False.elim h9)
  replace F := F Wκ1 Mκ1
  have h5 := (ztm W Mκ1 (ty_maStack W Ta0))
  refine y_ast Wκ1 dX4_work_277 h5 F.1 (fun κ4 eκ4 => ?_)
  replace F := F.2 κ4 eκ4
  have Wκ4 : zW C n0 κ4 := zW_ua Wκ1 eκ4 (fun h => absurd (h.symm.trans h5) (by decide)) (fun h => absurd (h.symm.trans h5) (by decide))
  have Mκ4 : zM (zn κ1) κ1 κ4 := by rw [eκ4]; exact zM.of rfl rfl rfl
  replace F := F Wκ4
  have h6 := (ztm Wκ1 Mκ4 (ztm W Mκ1 Ta0))
  exact y_k (t_Ma_work_278 hB2 Wκ4 h6 F) ⟨rfl, rfl, trivial⟩

def w_Ma_work_222 (C : zC) (n0 : Nat) (Q : Int32 → zS → Prop) (B2 : Nat → Int32 → zS → Prop) (a0 : Nat) (a1 : Int32) (a2 : Int32) (κ : zS) : Prop :=
  (a1 ≤ (1 : Int32) →
    w_Ma_work_278 C n0 Q B2 a0 a1 κ) ∧
  (¬ a1 ≤ (1 : Int32) →
    ∀ v1_1 : Int32, v1_1 = a1 + (-1 : Int32) →
    (a2 < (18 : Int32) →
      w_Ma_work_252 C n0 Q B2 a0 v1_1 a2 κ) ∧
    (¬ a2 < (18 : Int32) →
      inb v1_1 (zN κ (zR κ maStack a0)) ∧
      (¬ (zA κ (zR κ maStack a0) (v1_1).toNatClampNeg) = (0 : Int32) →
        w_Ma_work_252 C n0 Q B2 a0 v1_1 a2 κ) ∧
      ((zA κ (zR κ maStack a0) (v1_1).toNatClampNeg) = (0 : Int32) →
        ∀ κ2, κ2 = ui κ maFailure a0 (2 : Int32) →
        ∀ _ : zW C n0 κ2,
        Q (0 : Int32) κ2)))
theorem t_Ma_work_222 {C : zC} {n0 : Nat} {Q : Int32 → zS → Prop} {B2 : Nat → Int32 → zS → Prop} (hB2 : ∀ a0' a1' τ, zW C n0 τ → zT τ a0' = 7 → B2 a0' a1' τ → zG C n0 1 mMa_work 2 [some (.ref a0'), some (.int a1'), none, none] [] τ (oI Q noX)) {a0 : Nat} {a1 : Int32} {a2 : Int32} {κ : zS} (W : zW C n0 κ) (Ta0 : zT κ a0 = 7) (F : w_Ma_work_222 C n0 Q B2 a0 a1 a2 κ) : zG C n0 1 mMa_work 222 [some (.ref a0), some (.int a1), some (.int a2), none] [] κ (oI Q noX) := by
  unfold w_Ma_work_222 at F
  refine y_iln dX4_work_222 rfl ?_
  refine y_ic dX4_work_223 zi_1 ?_
  refine y_ii (a1 ≤ (1 : Int32)) dX4_work_224 (t := 278) rfl rfl (fun c9 => ?_) (fun c9 => ?_)
  · replace F := F.1 c9
    exact y_k (t_Ma_work_278 hB2 W Ta0 F) ⟨rfl, rfl, trivial⟩
  · replace F := F.2 c9
    refine y_incb dX4_work_227 zi_m1 rfl (Nat.le_of_ble_eq_true rfl) (fun v1_1 ev1_1 => ?_)
    replace F := F v1_1 ev1_1
    refine y_iln dX4_work_230 rfl ?_
    refine y_bi1 dX4_work_231 zb_18 ?_
    refine y_ii (a2 < (18 : Int32)) dX4_work_233 (t := 252) rfl rfl (fun c9 => ?_) (fun c9 => ?_)
    · replace F := F.1 c9
      exact y_k (t_Ma_work_252 hB2 W Ta0 F) ⟨rfl, rfl, rfl, trivial⟩
    · replace F := F.2 c9
      refine y_aln dX4_work_236 rfl ?_
      refine gf_X4_19 W dX4_work_237 rfl Ta0 ?_
      refine y_iln dX4_work_240 rfl ?_
      refine y_ald dX4_work_241 (ty_maStack W Ta0) F.1 ?_
      replace F := F.2
      refine y_in ((zA κ (zR κ maStack a0) (v1_1).toNatClampNeg) = (0 : Int32)) dX4_work_242 (t := 252) rfl rfl (fun c9 => ?_) (fun c9 => ?_)
      · replace F := F.1 c9
        exact y_k (t_Ma_work_252 hB2 W Ta0 F) ⟨rfl, rfl, rfl, trivial⟩
      · replace F := F.2 c9
        refine y_aln dX4_work_245 rfl ?_
        refine y_ic dX4_work_246 zi_2 ?_
        refine pf_X4_70 W dX4_work_247 rfl (Or.inl Ta0) (fun κ2 eκ2 => ?_)
        replace F := F κ2 eκ2
        have Wκ2 : zW C n0 κ2 := zW_ui W eκ2 (fun h => absurd h (by decide))
        have Mκ2 : zM (zn κ) κ κ2 := by rw [eκ2]; exact zM.of rfl rfl rfl
        replace F := F Wκ2
        refine y_ic dX4_work_250 zi_0 ?_
        exact y_ri Wκ2 dX4_work_251 rfl in_nar F

def w_Ma_work_173 (C : zC) (n0 : Nat) (Q : Int32 → zS → Prop) (B2 : Nat → Int32 → zS → Prop) (a0 : Nat) (a1 : Int32) (a2 : Int32) (κ : zS) : Prop :=
  ((6 : Int32) < a2 →
    w_Ma_work_222 C n0 Q B2 a0 a1 a2 κ) ∧
  (¬ (6 : Int32) < a2 →
    (a1 ≤ (0 : Int32) →
      w_Ma_work_222 C n0 Q B2 a0 a1 a2 κ) ∧
    (¬ a1 ≤ (0 : Int32) →
      inb (a1 - (1 : Int32)) (zN κ (zR κ maStack a0)) ∧
      ∀ v3_1 : Int32, v3_1 = (zA κ (zR κ maStack a0) ((a1 - (1 : Int32))).toNatClampNeg) →
      (¬ a2 = (5 : Int32) →
        (¬ v3_1 = (0 : Int32) →
          inb (a1 - (1 : Int32)) (zN κ (zR κ maStack a0)) ∧
          ∀ κ2, κ2 = ua κ (zR κ maStack a0) ((a1 - (1 : Int32))).toNatClampNeg (0 : Int32) →
          ∀ _ : zW C n0 κ2,
          w_Ma_work_278 C n0 Q B2 a0 a1 κ2) ∧
        (v3_1 = (0 : Int32) →
          inb (a1 - (1 : Int32)) (zN κ (zR κ maStack a0)) ∧
          ∀ κ4, κ4 = ua κ (zR κ maStack a0) ((a1 - (1 : Int32))).toNatClampNeg (1 : Int32) →
          ∀ _ : zW C n0 κ4,
          w_Ma_work_278 C n0 Q B2 a0 a1 κ4)) ∧
      (a2 = (5 : Int32) →
        inb (a1 - (1 : Int32)) (zN κ (zR κ maStack a0)) ∧
        ∀ κ6, κ6 = ua κ (zR κ maStack a0) ((a1 - (1 : Int32))).toNatClampNeg (-v3_1) →
        ∀ _ : zW C n0 κ6,
        w_Ma_work_278 C n0 Q B2 a0 a1 κ6)))
theorem t_Ma_work_173 {C : zC} {n0 : Nat} {Q : Int32 → zS → Prop} {B2 : Nat → Int32 → zS → Prop} (hB2 : ∀ a0' a1' τ, zW C n0 τ → zT τ a0' = 7 → B2 a0' a1' τ → zG C n0 1 mMa_work 2 [some (.ref a0'), some (.int a1'), none, none] [] τ (oI Q noX)) {a0 : Nat} {a1 : Int32} {a2 : Int32} {κ : zS} (W : zW C n0 κ) (Ta0 : zT κ a0 = 7) (F : w_Ma_work_173 C n0 Q B2 a0 a1 a2 κ) : zG C n0 1 mMa_work 173 [some (.ref a0), some (.int a1), some (.int a2), none] [] κ (oI Q noX) := by
  unfold w_Ma_work_173 at F
  refine y_iln dX4_work_173 rfl ?_
  refine y_bi1 dX4_work_174 zb_6 ?_
  refine y_ii ((6 : Int32) < a2) dX4_work_176 (t := 222) rfl rfl (fun c9 => ?_) (fun c9 => ?_)
  · replace F := F.1 c9
    exact y_k (t_Ma_work_222 hB2 W Ta0 F) ⟨rfl, rfl, rfl, trivial⟩
  · replace F := F.2 c9
    refine y_iln dX4_work_179 rfl ?_
    refine y_i (a1 ≤ (0 : Int32)) dX4_work_180 (t := 222) rfl rfl (fun c9 => ?_) (fun c9 => ?_)
    · replace F := F.1 c9
      exact y_k (t_Ma_work_222 hB2 W Ta0 F) ⟨rfl, rfl, rfl, trivial⟩
    · replace F := F.2 c9
      refine y_aln dX4_work_183 rfl ?_
      refine gf_X4_19 W dX4_work_184 rfl Ta0 ?_
      refine y_iln dX4_work_187 rfl ?_
      refine y_ic dX4_work_188 zi_1 ?_
      refine y_isub dX4_work_189 ?_
      refine y_ald dX4_work_190 (ty_maStack W Ta0) F.1 ?_
      replace F := F.2
      refine y_isnb dX4_work_191 (Nat.le_of_ble_eq_true rfl) (fun v3_1 ev3_1 => ?_)
      replace F := F v3_1 ev3_1
      refine y_aln dX4_work_192 rfl ?_
      refine gf_X4_19 W dX4_work_193 rfl Ta0 ?_
      refine y_iln dX4_work_196 rfl ?_
      refine y_ic dX4_work_197 zi_1 ?_
      refine y_isub dX4_work_198 ?_
      refine y_iln dX4_work_199 rfl ?_
      refine y_ic dX4_work_200 zi_5 ?_
      refine y_iin (a2 = (5 : Int32)) dX4_work_201 (t := 209) rfl rfl (fun c9 => ?_) (fun c9 => ?_)
      · replace F := F.1 c9
        refine y_iln dX4_work_209 rfl ?_
        refine y_in (v3_1 = (0 : Int32)) dX4_work_210 (t := 217) rfl rfl (fun c9 => ?_) (fun c9 => ?_)
        · replace F := F.1 c9
          refine y_ic dX4_work_217 zi_0 ?_
          refine y_ast W dX4_work_218 (ty_maStack W Ta0) F.1 (fun κ2 eκ2 => ?_)
          replace F := F.2 κ2 eκ2
          have Wκ2 : zW C n0 κ2 := zW_ua W eκ2 (fun h => absurd (h.symm.trans (ty_maStack W Ta0)) (by decide)) (fun h => absurd (h.symm.trans (ty_maStack W Ta0)) (by decide))
          have Mκ2 : zM (zn κ) κ κ2 := by rw [eκ2]; exact zM.of rfl rfl rfl
          replace F := F Wκ2
          refine y_goto dX4_work_219 (t := 278) rfl ?_
          have h3 := (ztm W Mκ2 Ta0)
          exact y_k (t_Ma_work_278 hB2 Wκ2 h3 F) ⟨rfl, rfl, trivial⟩
        · replace F := F.2 c9
          refine y_ic dX4_work_213 zi_1 ?_
          refine y_goto dX4_work_214 (t := 218) rfl ?_
          refine y_ast W dX4_work_218 (ty_maStack W Ta0) F.1 (fun κ4 eκ4 => ?_)
          replace F := F.2 κ4 eκ4
          have Wκ4 : zW C n0 κ4 := zW_ua W eκ4 (fun h => absurd (h.symm.trans (ty_maStack W Ta0)) (by decide)) (fun h => absurd (h.symm.trans (ty_maStack W Ta0)) (by decide))
          have Mκ4 : zM (zn κ) κ κ4 := by rw [eκ4]; exact zM.of rfl rfl rfl
          replace F := F Wκ4
          refine y_goto dX4_work_219 (t := 278) rfl ?_
          have h5 := (ztm W Mκ4 Ta0)
          exact y_k (t_Ma_work_278 hB2 Wκ4 h5 F) ⟨rfl, rfl, trivial⟩
      · replace F := F.2 c9
        refine y_iln dX4_work_204 rfl ?_
        refine y_ineg dX4_work_205 ?_
        refine y_goto dX4_work_206 (t := 218) rfl ?_
        refine y_ast W dX4_work_218 (ty_maStack W Ta0) F.1 (fun κ6 eκ6 => ?_)
        replace F := F.2 κ6 eκ6
        have Wκ6 : zW C n0 κ6 := zW_ua W eκ6 (fun h => absurd (h.symm.trans (ty_maStack W Ta0)) (by decide)) (fun h => absurd (h.symm.trans (ty_maStack W Ta0)) (by decide))
        have Mκ6 : zM (zn κ) κ κ6 := by rw [eκ6]; exact zM.of rfl rfl rfl
        replace F := F Wκ6
        refine y_goto dX4_work_219 (t := 278) rfl ?_
        have h7 := (ztm W Mκ6 Ta0)
        exact y_k (t_Ma_work_278 hB2 Wκ6 h7 F) ⟨rfl, rfl, trivial⟩

def w_Ma_work_2 (C : zC) (n0 : Nat) (Q : Int32 → zS → Prop)  (a0 : Nat) (a1 : Int32) (κ : zS) : Prop :=
  ∃ I : Nat → Nat → Int32 → zS → Prop, (∃ n, I n a0 a1 κ) ∧ ∀ n a0 a1 κ, zW C n0 κ → zT κ a0 = 7 → I n a0 a1 κ →
    ((zI κ maPc a0) < (0 : Int32) →
      Q (0 : Int32) κ) ∧
    (¬ (zI κ maPc a0) < (0 : Int32) →
      ((zI κ coLength (zR κ maCode a0)) ≤ (zI κ maPc a0) →
        Q (0 : Int32) κ) ∧
      (¬ (zI κ coLength (zR κ maCode a0)) ≤ (zI κ maPc a0) →
        inb (zI κ maPc a0) (zN κ (zR κ coOps (zR κ maCode a0))) ∧
        ∀ v2_1 : Int32, v2_1 = (zA κ (zR κ coOps (zR κ maCode a0)) ((zI κ maPc a0)).toNatClampNeg) →
        (¬ v2_1 = (0 : Int32) →
          ((3 : Int32) < v2_1 →
            (¬ v2_1 = (4 : Int32) →
              w_Ma_work_173 C n0 Q (fun a0' a1' τ => ∃ k < n, I k a0' a1' τ) a0 a1 v2_1 κ) ∧
            (v2_1 = (4 : Int32) →
              (a1 ≤ (0 : Int32) →
                w_Ma_work_173 C n0 Q (fun a0' a1' τ => ∃ k < n, I k a0' a1' τ) a0 a1 v2_1 κ) ∧
              (¬ a1 ≤ (0 : Int32) →
                inb (zI κ maPc a0) (zN κ (zR κ coArgs (zR κ maCode a0))) ∧
                inb (a1 - (1 : Int32)) (zN κ (zR κ maStack a0)) ∧
                ∀ _ : zT κ a0 = 7,
                zRun C 0 mMa_cellAt [.ref a0, .int (zA κ (zR κ coArgs (zR κ maCode a0)) ((zI κ maPc a0)).toNatClampNeg), .int (zA κ (zR κ maStack a0) ((a1 - (1 : Int32))).toNatClampNeg)] κ (oI (fun r3 κ2 =>
                  ∀ _ : zW C n0 κ2,
                  ∀ _ : zM (zn κ) κ κ2,
                  (¬ r3 = (-1 : Int32) →
                    inb r3 (zN κ2 (zR κ2 maMemory a0)) ∧
                    inb (a1 - (1 : Int32)) (zN κ2 (zR κ2 maStack a0)) ∧
                    ∀ κ6, κ6 = ua κ2 (zR κ2 maStack a0) ((a1 - (1 : Int32))).toNatClampNeg (zA κ2 (zR κ2 maMemory a0) (r3).toNatClampNeg) →
                    ∀ _ : zW C n0 κ6,
                    w_Ma_work_278 C n0 Q (fun a0' a1' τ => ∃ k < n, I k a0' a1' τ) a0 a1 κ6) ∧
                  (r3 = (-1 : Int32) →
                    ∀ κ8, κ8 = ui κ2 maFailure a0 (1 : Int32) →
                    ∀ _ : zW C n0 κ8,
                    Q (0 : Int32) κ8)) noX)))) ∧
          (¬ (3 : Int32) < v2_1 →
            ((Int32.ofNat (zN κ (zR κ maStack a0))) ≤ a1 →
              w_Ma_work_278 C n0 Q (fun a0' a1' τ => ∃ k < n, I k a0' a1' τ) a0 a1 κ) ∧
            (¬ (Int32.ofNat (zN κ (zR κ maStack a0))) ≤ a1 →
              inb (zI κ maPc a0) (zN κ (zR κ coArgs (zR κ maCode a0))) ∧
              ∀ _ : zT κ a0 = 7,
              zRun C 0 mMa_fetch [.ref a0, .int v2_1, .int (zA κ (zR κ coArgs (zR κ maCode a0)) ((zI κ maPc a0)).toNatClampNeg)] κ (oI (fun r11 κ10 =>
                ∀ _ : zW C n0 κ10,
                ∀ _ : zM (zn κ) κ κ10,
                inb a1 (zN κ10 (zR κ maStack a0)) ∧
                ∀ κ13, κ13 = ua κ10 (zR κ maStack a0) (a1).toNatClampNeg r11 →
                ∀ _ : zW C n0 κ13,
                ∀ v1_15 : Int32, v1_15 = a1 + (1 : Int32) →
                w_Ma_work_278 C n0 Q (fun a0' a1' τ => ∃ k < n, I k a0' a1' τ) a0 v1_15 κ13) noX)))) ∧
        (v2_1 = (0 : Int32) →
          ∀ κ17, κ17 = ui κ maPc a0 ((zI κ maPc a0) + (1 : Int32)) →
          ∀ _ : zW C n0 κ17,
          (a1 ≤ (0 : Int32) →
            Q (0 : Int32) κ17) ∧
          (¬ a1 ≤ (0 : Int32) →
            inb (a1 - (1 : Int32)) (zN κ17 (zR κ17 maStack a0)) ∧
            Q (zA κ17 (zR κ17 maStack a0) ((a1 - (1 : Int32))).toNatClampNeg) κ17))))
theorem t_Ma_work_2 {C : zC} {n0 : Nat} {Q : Int32 → zS → Prop}   {a0 : Nat} {a1 : Int32} {κ : zS} (W : zW C n0 κ) (Ta0 : zT κ a0 = 7) (F : w_Ma_work_2 C n0 Q  a0 a1 κ) : zG C n0 1 mMa_work 2 [some (.ref a0), some (.int a1), none, none] [] κ (oI Q noX) := by
  obtain ⟨I, ⟨m0, hI0⟩, F0⟩ := F
  have key : ∀ n a0 a1 κ, zW C n0 κ → zT κ a0 = 7 → I n a0 a1 κ → zG C n0 1 mMa_work 2 [some (.ref a0), some (.int a1), none, none] [] κ (oI Q noX) := by
    intro n
    induction n using Nat.strongRecOn with
    | _ n ih =>
      intro a0 a1 κ W Ta0 hI
      have F := F0 n a0 a1 κ W Ta0 hI
      clear hI hI0
      refine y_aln dX4_work_2 rfl ?_
      refine gf_X4_113 dX4_work_3 rfl (Or.inl Ta0) ?_
      refine y_i ((zI κ maPc a0) < (0 : Int32)) dX4_work_6 (t := 291) rfl rfl (fun c9 => ?_) (fun c9 => ?_)
      · replace F := F.1 c9
        refine y_ic dX4_work_291 zi_0 ?_
        exact y_ri W dX4_work_292 rfl in_nar F
      · replace F := F.2 c9
        refine y_aln dX4_work_9 rfl ?_
        refine gf_X4_113 dX4_work_10 rfl (Or.inl Ta0) ?_
        refine y_aln dX4_work_13 rfl ?_
        refine gf_X4_11 W dX4_work_14 rfl Ta0 ?_
        refine gf_X4_170 dX4_work_17 rfl (Or.inl (ty_maCode W Ta0)) ?_
        refine y_ii ((zI κ coLength (zR κ maCode a0)) ≤ (zI κ maPc a0)) dX4_work_20 (t := 291) rfl rfl (fun c9 => ?_) (fun c9 => ?_)
        · replace F := F.1 c9
          refine y_ic dX4_work_291 zi_0 ?_
          exact y_ri W dX4_work_292 rfl in_nar F
        · replace F := F.2 c9
          refine y_aln dX4_work_23 rfl ?_
          refine gf_X4_11 W dX4_work_24 rfl Ta0 ?_
          refine gf_X4_173 W dX4_work_27 rfl (ty_maCode W Ta0) ?_
          refine y_aln dX4_work_30 rfl ?_
          refine gf_X4_113 dX4_work_31 rfl (Or.inl Ta0) ?_
          refine y_ald dX4_work_34 (ty_coOps W (ty_maCode W Ta0)) F.1 ?_
          replace F := F.2
          refine y_isnb dX4_work_35 (Nat.le_of_ble_eq_true rfl) (fun v2_1 ev2_1 => ?_)
          replace F := F v2_1 ev2_1
          refine y_iln dX4_work_36 rfl ?_
          refine y_in (v2_1 = (0 : Int32)) dX4_work_37 (t := 67) rfl rfl (fun c9 => ?_) (fun c9 => ?_)
          · replace F := F.1 c9
            refine y_iln dX4_work_67 rfl ?_
            refine y_ic dX4_work_68 zi_3 ?_
            refine y_ii ((3 : Int32) < v2_1) dX4_work_69 (t := 110) rfl rfl (fun c9 => ?_) (fun c9 => ?_)
            · replace F := F.1 c9
              refine y_iln dX4_work_110 rfl ?_
              refine y_ic dX4_work_111 zi_4 ?_
              refine y_iin (v2_1 = (4 : Int32)) dX4_work_112 (t := 173) rfl rfl (fun c9 => ?_) (fun c9 => ?_)
              · replace F := F.1 c9
                exact y_k (t_Ma_work_173 (fun a0' a1' τ w9 f09 hb => by obtain ⟨k, hk, hI⟩ := hb; exact ih k hk a0' a1' τ w9 f09 hI) W Ta0 F) ⟨rfl, rfl, rfl, trivial⟩
              · replace F := F.2 c9
                refine y_iln dX4_work_115 rfl ?_
                refine y_i (a1 ≤ (0 : Int32)) dX4_work_116 (t := 173) rfl rfl (fun c9 => ?_) (fun c9 => ?_)
                · replace F := F.1 c9
                  exact y_k (t_Ma_work_173 (fun a0' a1' τ w9 f09 hb => by obtain ⟨k, hk, hI⟩ := hb; exact ih k hk a0' a1' τ w9 f09 hI) W Ta0 F) ⟨rfl, rfl, rfl, trivial⟩
                · replace F := F.2 c9
                  refine y_aln dX4_work_119 rfl ?_
                  refine y_aln dX4_work_120 rfl ?_
                  refine gf_X4_11 W dX4_work_121 rfl Ta0 ?_
                  refine gf_X4_176 W dX4_work_124 rfl (ty_maCode W Ta0) ?_
                  refine y_aln dX4_work_127 rfl ?_
                  refine gf_X4_113 dX4_work_128 rfl (Or.inl Ta0) ?_
                  refine y_ald dX4_work_131 (ty_coArgs W (ty_maCode W Ta0)) F.1 ?_
                  replace F := F.2
                  refine y_aln dX4_work_132 rfl ?_
                  refine gf_X4_19 W dX4_work_133 rfl Ta0 ?_
                  refine y_iln dX4_work_136 rfl ?_
                  refine y_ic dX4_work_137 zi_1 ?_
                  refine y_isub dX4_work_138 ?_
                  refine y_ald dX4_work_139 (ty_maStack W Ta0) F.1 ?_
                  replace F := F.2
                  replace F := F Ta0
                  refine k_X4_133 W dX4_work_140 rfl (Nat.le_of_ble_eq_true rfl) (Nat.le_of_ble_eq_true rfl) (Or.inl Ta0) F (fun r3 κ2 Wκ2 Mκ2 F => ?_) (fun _ _ h9 => False.elim h9)
                  replace F := F Wκ2 Mκ2
                  refine y_isn dX4_work_143 (Nat.le_of_ble_eq_true rfl) rfl ?_
                  refine y_iln dX4_work_144 rfl ?_
                  refine y_ic dX4_work_145 zi_m1 ?_
                  refine y_iin (r3 = (-1 : Int32)) dX4_work_146 (t := 156) rfl rfl (fun c9 => ?_) (fun c9 => ?_)
                  · replace F := F.1 c9
                    refine y_aln dX4_work_156 rfl ?_
                    have h5 := (ztm W Mκ2 Ta0)
                    refine gf_X4_19 Wκ2 dX4_work_157 rfl h5 ?_
                    refine y_iln dX4_work_160 rfl ?_
                    refine y_ic dX4_work_161 zi_1 ?_
                    refine y_isub dX4_work_162 ?_
                    refine y_aln dX4_work_163 rfl ?_
                    refine gf_X4_15 Wκ2 dX4_work_164 rfl h5 ?_
                    refine y_iln dX4_work_167 rfl ?_
                    refine y_ald dX4_work_168 (ty_maMemory Wκ2 h5) F.1 ?_
                    replace F := F.2
                    refine y_ast Wκ2 dX4_work_169 (ty_maStack Wκ2 h5) F.1 (fun κ6 eκ6 => ?_)
                    replace F := F.2 κ6 eκ6
                    have Wκ6 : zW C n0 κ6 := zW_ua Wκ2 eκ6 (fun h => absurd (h.symm.trans (ty_maStack Wκ2 h5)) (by decide)) (fun h => absurd (h.symm.trans (ty_maStack Wκ2 h5)) (by decide))
                    have Mκ6 : zM (zn κ2) κ2 κ6 := by rw [eκ6]; exact zM.of rfl rfl rfl
                    replace F := F Wκ6
                    refine y_goto dX4_work_170 (t := 278) rfl ?_
                    have h7 := (ztm Wκ2 Mκ6 h5)
                    exact y_k (t_Ma_work_278 (fun a0' a1' τ w9 f09 hb => by obtain ⟨k, hk, hI⟩ := hb; exact ih k hk a0' a1' τ w9 f09 hI) Wκ6 h7 F) ⟨rfl, rfl, trivial⟩
                  · replace F := F.2 c9
                    refine y_aln dX4_work_149 rfl ?_
                    refine y_ic dX4_work_150 zi_1 ?_
                    have h9 := (ztm W Mκ2 Ta0)
                    refine pf_X4_70 Wκ2 dX4_work_151 rfl (Or.inl h9) (fun κ8 eκ8 => ?_)
                    replace F := F κ8 eκ8
                    have Wκ8 : zW C n0 κ8 := zW_ui Wκ2 eκ8 (fun h => absurd h (by decide))
                    have Mκ8 : zM (zn κ2) κ2 κ8 := by rw [eκ8]; exact zM.of rfl rfl rfl
                    replace F := F Wκ8
                    refine y_ic dX4_work_154 zi_0 ?_
                    exact y_ri Wκ8 dX4_work_155 rfl in_nar F
            · replace F := F.2 c9
              refine y_iln dX4_work_72 rfl ?_
              refine y_aln dX4_work_73 rfl ?_
              refine gf_X4_19 W dX4_work_74 rfl Ta0 ?_
              refine y_alen (t := 0) dX4_work_77 (ty_maStack W Ta0) (by decide) ?_
              refine y_ii ((Int32.ofNat (zN κ (zR κ maStack a0))) ≤ a1) dX4_work_78 (t := 278) rfl rfl (fun c9 => ?_) (fun c9 => ?_)
              · replace F := F.1 c9
                exact y_k (t_Ma_work_278 (fun a0' a1' τ w9 f09 hb => by obtain ⟨k, hk, hI⟩ := hb; exact ih k hk a0' a1' τ w9 f09 hI) W Ta0 F) ⟨rfl, rfl, trivial⟩
              · replace F := F.2 c9
                refine y_aln dX4_work_81 rfl ?_
                refine gf_X4_19 W dX4_work_82 rfl Ta0 ?_
                refine y_iln dX4_work_85 rfl ?_
                refine y_aln dX4_work_86 rfl ?_
                refine y_iln dX4_work_87 rfl ?_
                refine y_aln dX4_work_88 rfl ?_
                refine gf_X4_11 W dX4_work_89 rfl Ta0 ?_
                refine gf_X4_176 W dX4_work_92 rfl (ty_maCode W Ta0) ?_
                refine y_aln dX4_work_95 rfl ?_
                refine gf_X4_113 dX4_work_96 rfl (Or.inl Ta0) ?_
                refine y_ald dX4_work_99 (ty_coArgs W (ty_maCode W Ta0)) F.1 ?_
                replace F := F.2
                replace F := F Ta0
                refine k_X4_179 W dX4_work_100 rfl (Nat.le_of_ble_eq_true rfl) (Nat.le_of_ble_eq_true rfl) (Or.inl Ta0) F (fun r11 κ10 Wκ10 Mκ10 F => ?_) (fun _ _ h9 => False.elim h9)
                replace F := F Wκ10 Mκ10
                have h14 := (ztm W Mκ10 (ty_maStack W Ta0))
                refine y_ast Wκ10 dX4_work_103 h14 F.1 (fun κ13 eκ13 => ?_)
                replace F := F.2 κ13 eκ13
                have Wκ13 : zW C n0 κ13 := zW_ua Wκ10 eκ13 (fun h => absurd (h.symm.trans h14) (by decide)) (fun h => absurd (h.symm.trans h14) (by decide))
                have Mκ13 : zM (zn κ10) κ10 κ13 := by rw [eκ13]; exact zM.of rfl rfl rfl
                replace F := F Wκ13
                refine y_incb dX4_work_104 zi_1 rfl (Nat.le_of_ble_eq_true rfl) (fun v1_15 ev1_15 => ?_)
                replace F := F v1_15 ev1_15
                refine y_goto dX4_work_107 (t := 278) rfl ?_
                have h16 := (ztm Wκ10 Mκ13 (ztm W Mκ10 Ta0))
                exact y_k (t_Ma_work_278 (fun a0' a1' τ w9 f09 hb => by obtain ⟨k, hk, hI⟩ := hb; exact ih k hk a0' a1' τ w9 f09 hI) Wκ13 h16 F) ⟨rfl, rfl, trivial⟩
          · replace F := F.2 c9
            refine y_aln dX4_work_40 rfl ?_
            refine y_dup dX4_work_41 rfl ?_
            refine gf_X4_113 dX4_work_42 rfl (Or.inl Ta0) ?_
            refine y_ic dX4_work_45 zi_1 ?_
            refine y_iadd dX4_work_46 ?_
            refine pf_X4_113 W dX4_work_47 rfl (Or.inl Ta0) (fun κ17 eκ17 => ?_)
            replace F := F κ17 eκ17
            have Wκ17 : zW C n0 κ17 := zW_ui W eκ17 (fun h => absurd h (by decide))
            have Mκ17 : zM (zn κ) κ κ17 := by rw [eκ17]; exact zM.of rfl rfl rfl
            replace F := F Wκ17
            refine y_iln dX4_work_50 rfl ?_
            refine y_i (a1 ≤ (0 : Int32)) dX4_work_51 (t := 65) rfl rfl (fun c9 => ?_) (fun c9 => ?_)
            · replace F := F.1 c9
              refine y_ic dX4_work_65 zi_0 ?_
              exact y_ri Wκ17 dX4_work_66 rfl in_nar F
            · replace F := F.2 c9
              refine y_aln dX4_work_54 rfl ?_
              have h18 := (ztm W Mκ17 Ta0)
              refine gf_X4_19 Wκ17 dX4_work_55 rfl h18 ?_
              refine y_iln dX4_work_58 rfl ?_
              refine y_ic dX4_work_59 zi_1 ?_
              refine y_isub dX4_work_60 ?_
              refine y_ald dX4_work_61 (ty_maStack Wκ17 h18) F.1 ?_
              replace F := F.2
              refine y_goto dX4_work_62 (t := 66) rfl ?_
              exact y_ri Wκ17 dX4_work_66 rfl in_nar F
  exact key m0 a0 a1 κ W Ta0 hI0

def w_Ma_work_0 (C : zC) (n0 : Nat) (Q : Int32 → zS → Prop)  (a0 : Nat) (κ : zS) : Prop :=
  w_Ma_work_2 C n0 Q  a0 (0 : Int32) κ
theorem t_Ma_work_0 {C : zC} {n0 : Nat} {Q : Int32 → zS → Prop}   {a0 : Nat} {κ : zS} (W : zW C n0 κ) (Ta0 : zT κ a0 = 7) (F : w_Ma_work_0 C n0 Q  a0 κ) : zG C n0 1 mMa_work 0 [some (.ref a0), none, none, none] [] κ (oI Q noX) := by
  unfold w_Ma_work_0 at F
  refine y_ic dX4_work_0 zi_0 ?_
  refine y_isn dX4_work_1 (Nat.le_of_ble_eq_true rfl) rfl ?_
  exact y_k (t_Ma_work_2  W Ta0 F) ⟨rfl, rfl, trivial⟩

theorem Ma_work_run {C : zC} {n0 : Nat} {Q : Int32 → zS → Prop} {a0 : Nat} {κ : zS} (W : zW C n0 κ) (Ta0 : zT κ a0 = 7) (F : w_Ma_work_0 C (zn κ) Q a0 κ) : zRun C 1 mMa_work [.ref a0] κ (oI Q noX) := z_run (m_ent _ 3) (t_Ma_work_0 (W.lo (Nat.le_trans W.1.2.1 W.1.2.2) (Nat.le_refl _)) Ta0 F)

theorem dX4_aim_0 : decode cX4_aim 0 = .ok (.aload_n 0, 1) := by decide +kernel
theorem dX4_aim_1 : decode cX4_aim 1 = .ok (.getfield 11, 3) := by decide +kernel
theorem dX4_aim_4 : decode cX4_aim 4 = .ok (.iload_n 1, 1) := by decide +kernel
theorem dX4_aim_5 : decode cX4_aim 5 = .ok (.iconst 1, 1) := by decide +kernel
theorem dX4_aim_6 : decode cX4_aim 6 = .ok (.invokevirtual 110, 3) := by decide +kernel
theorem dX4_aim_9 : decode cX4_aim 9 = .ok (.istore_n 2, 1) := by decide +kernel
theorem dX4_aim_10 : decode cX4_aim 10 = .ok (.aload_n 0, 1) := by decide +kernel
theorem dX4_aim_11 : decode cX4_aim 11 = .ok (.getfield 11, 3) := by decide +kernel
theorem dX4_aim_14 : decode cX4_aim 14 = .ok (.iload_n 1, 1) := by decide +kernel
theorem dX4_aim_15 : decode cX4_aim 15 = .ok (.iconst 2, 1) := by decide +kernel
theorem dX4_aim_16 : decode cX4_aim 16 = .ok (.invokevirtual 110, 3) := by decide +kernel
theorem dX4_aim_19 : decode cX4_aim 19 = .ok (.istore_n 3, 1) := by decide +kernel
theorem dX4_aim_20 : decode cX4_aim 20 = .ok (.iload_n 2, 1) := by decide +kernel
theorem dX4_aim_21 : decode cX4_aim 21 = .ok (.iconst 3, 1) := by decide +kernel
theorem dX4_aim_22 : decode cX4_aim 22 = .ok (.if_icmp .eq 14, 3) := by decide +kernel
theorem dX4_aim_25 : decode cX4_aim 25 = .ok (.aload_n 0, 1) := by decide +kernel
theorem dX4_aim_26 : decode cX4_aim 26 = .ok (.aload_n 0, 1) := by decide +kernel
theorem dX4_aim_27 : decode cX4_aim 27 = .ok (.iload_n 2, 1) := by decide +kernel
theorem dX4_aim_28 : decode cX4_aim 28 = .ok (.iload_n 3, 1) := by decide +kernel
theorem dX4_aim_29 : decode cX4_aim 29 = .ok (.invokevirtual 127, 3) := by decide +kernel
theorem dX4_aim_32 : decode cX4_aim 32 = .ok (.putfield 130, 3) := by decide +kernel
theorem dX4_aim_35 : decode cX4_aim 35 = .ok (.return_, 1) := by decide +kernel
theorem dX4_aim_36 : decode cX4_aim 36 = .ok (.aload_n 0, 1) := by decide +kernel
theorem dX4_aim_37 : decode cX4_aim 37 = .ok (.invokevirtual 120, 3) := by decide +kernel
theorem dX4_aim_40 : decode cX4_aim 40 = .ok (.istore 4, 2) := by decide +kernel
theorem dX4_aim_42 : decode cX4_aim 42 = .ok (.aload_n 0, 1) := by decide +kernel
theorem dX4_aim_43 : decode cX4_aim 43 = .ok (.aload_n 0, 1) := by decide +kernel
theorem dX4_aim_44 : decode cX4_aim 44 = .ok (.getfield 70, 3) := by decide +kernel
theorem dX4_aim_47 : decode cX4_aim 47 = .ok (.ifCond .ne 13, 3) := by decide +kernel
theorem dX4_aim_50 : decode cX4_aim 50 = .ok (.aload_n 0, 1) := by decide +kernel
theorem dX4_aim_51 : decode cX4_aim 51 = .ok (.iload_n 3, 1) := by decide +kernel
theorem dX4_aim_52 : decode cX4_aim 52 = .ok (.iload 4, 2) := by decide +kernel
theorem dX4_aim_54 : decode cX4_aim 54 = .ok (.invokevirtual 133, 3) := by decide +kernel
theorem dX4_aim_57 : decode cX4_aim 57 = .ok (.goto 4, 3) := by decide +kernel
theorem dX4_aim_60 : decode cX4_aim 60 = .ok (.iconst 0, 1) := by decide +kernel
theorem dX4_aim_61 : decode cX4_aim 61 = .ok (.putfield 130, 3) := by decide +kernel
theorem dX4_aim_64 : decode cX4_aim 64 = .ok (.aload_n 0, 1) := by decide +kernel
theorem dX4_aim_65 : decode cX4_aim 65 = .ok (.getfield 130, 3) := by decide +kernel
theorem dX4_aim_68 : decode cX4_aim 68 = .ok (.iconst (-1), 1) := by decide +kernel
theorem dX4_aim_69 : decode cX4_aim 69 = .ok (.if_icmp .ne 8, 3) := by decide +kernel
theorem dX4_aim_72 : decode cX4_aim 72 = .ok (.aload_n 0, 1) := by decide +kernel
theorem dX4_aim_73 : decode cX4_aim 73 = .ok (.iconst 1, 1) := by decide +kernel
theorem dX4_aim_74 : decode cX4_aim 74 = .ok (.putfield 70, 3) := by decide +kernel
theorem dX4_aim_77 : decode cX4_aim 77 = .ok (.return_, 1) := by decide +kernel
def w_Ma_aim_61 (C : zC) (n0 : Nat) (Q : zS → Prop)  (a0 : Nat) (s0 : Nat) (s1 : Int32) (κ : zS) : Prop :=
  ∀ κ1, κ1 = ui κ maTarget s0 s1 →
  ∀ _ : zW C n0 κ1,
  (¬ (zI κ1 maTarget a0) = (-1 : Int32) →
    Q κ1) ∧
  ((zI κ1 maTarget a0) = (-1 : Int32) →
    ∀ κ3, κ3 = ui κ1 maFailure a0 (1 : Int32) →
    ∀ _ : zW C n0 κ3,
    Q κ3)
theorem t_Ma_aim_61 {C : zC} {n0 : Nat} {Q : zS → Prop}   {a0 : Nat} {s0 : Nat} {s1 : Int32} {κ : zS} (W : zW C n0 κ) (Ta0 : zT κ a0 = 7) (Ts0 : zT κ s0 = 7) (F : w_Ma_aim_61 C n0 Q  a0 s0 s1 κ) : zG C n0 2 mMa_aim 61 [some (.ref a0), none, none, none, none] [.int s1, .ref s0] κ (oV Q noX) := by
  unfold w_Ma_aim_61 at F
  refine pf_X4_130 W dX4_aim_61 rfl (Or.inl Ts0) (fun κ1 eκ1 => ?_)
  replace F := F κ1 eκ1
  have Wκ1 : zW C n0 κ1 := zW_ui W eκ1 (fun h => absurd h (by decide))
  have Mκ1 : zM (zn κ) κ κ1 := by rw [eκ1]; exact zM.of rfl rfl rfl
  replace F := F Wκ1
  refine y_aln dX4_aim_64 rfl ?_
  have h2 := (ztm W Mκ1 Ta0)
  refine gf_X4_130 dX4_aim_65 rfl (Or.inl h2) ?_
  refine y_ic dX4_aim_68 zi_m1 ?_
  refine y_iin ((zI κ1 maTarget a0) = (-1 : Int32)) dX4_aim_69 (t := 77) rfl rfl (fun c9 => ?_) (fun c9 => ?_)
  · replace F := F.1 c9
    exact y_rv Wκ1 dX4_aim_77 rfl F
  · replace F := F.2 c9
    refine y_aln dX4_aim_72 rfl ?_
    refine y_ic dX4_aim_73 zi_1 ?_
    refine pf_X4_70 Wκ1 dX4_aim_74 rfl (Or.inl h2) (fun κ3 eκ3 => ?_)
    replace F := F κ3 eκ3
    have Wκ3 : zW C n0 κ3 := zW_ui Wκ1 eκ3 (fun h => absurd h (by decide))
    have Mκ3 : zM (zn κ1) κ1 κ3 := by rw [eκ3]; exact zM.of rfl rfl rfl
    replace F := F Wκ3
    exact y_rv Wκ3 dX4_aim_77 rfl F

def w_Ma_aim_0 (C : zC) (n0 : Nat) (Q : zS → Prop)  (a0 : Nat) (a1 : Int32) (κ : zS) : Prop :=
  ∀ _ : zT κ (zR κ maCode a0) = 5,
  zRun C 0 mCo_column [.ref (zR κ maCode a0), .int a1, .int (1 : Int32)] κ (oI (fun r2 κ1 =>
    ∀ _ : zW C n0 κ1,
    ∀ _ : zM (zn κ) κ κ1,
    ∀ _ : zT κ1 (zR κ1 maCode a0) = 5,
    zRun C 0 mCo_column [.ref (zR κ1 maCode a0), .int a1, .int (2 : Int32)] κ1 (oI (fun r6 κ5 =>
      ∀ _ : zW C n0 κ5,
      ∀ _ : zM (zn κ1) κ1 κ5,
      (r2 = (3 : Int32) →
        ∀ _ : zT κ5 a0 = 7,
        zRun C 1 mMa_work [.ref a0] κ5 (oI (fun r9 κ8 =>
          ∀ _ : zW C n0 κ8,
          ∀ _ : zM (zn κ5) κ5 κ8,
          (¬ (zI κ8 maFailure a0) = (0 : Int32) →
            w_Ma_aim_61 C n0 Q  a0 a0 (0 : Int32) κ8) ∧
          ((zI κ8 maFailure a0) = (0 : Int32) →
            ∀ _ : zT κ8 a0 = 7,
            zRun C 0 mMa_cellAt [.ref a0, .int r6, .int r9] κ8 (oI (fun r14 κ13 =>
              ∀ _ : zW C n0 κ13,
              ∀ _ : zM (zn κ8) κ8 κ13,
              w_Ma_aim_61 C n0 Q  a0 a0 r14 κ13) noX))) noX)) ∧
      (¬ r2 = (3 : Int32) →
        ∀ _ : zT κ5 a0 = 7,
        zRun C 0 mMa_slot [.ref a0, .int r2, .int r6] κ5 (oI (fun r18 κ17 =>
          ∀ _ : zW C n0 κ17,
          ∀ _ : zM (zn κ5) κ5 κ17,
          ∀ κ21, κ21 = ui κ17 maTarget a0 r18 →
          ∀ _ : zW C n0 κ21,
          Q κ21) noX))) noX)) noX)
theorem t_Ma_aim_0 {C : zC} {n0 : Nat} {Q : zS → Prop}   {a0 : Nat} {a1 : Int32} {κ : zS} (W : zW C n0 κ) (Ta0 : zT κ a0 = 7) (F : w_Ma_aim_0 C n0 Q  a0 a1 κ) : zG C n0 2 mMa_aim 0 [some (.ref a0), some (.int a1), none, none, none] [] κ (oV Q noX) := by
  unfold w_Ma_aim_0 at F
  refine y_aln dX4_aim_0 rfl ?_
  refine gf_X4_11 W dX4_aim_1 rfl Ta0 ?_
  refine y_iln dX4_aim_4 rfl ?_
  refine y_ic dX4_aim_5 zi_1 ?_
  replace F := F (ty_maCode W Ta0)
  refine k_X4_110 W dX4_aim_6 rfl (Nat.le_of_ble_eq_true rfl) (Nat.le_of_ble_eq_true rfl) (Or.inl (ty_maCode W Ta0)) F (fun r2 κ1 Wκ1 Mκ1 F => ?_) (fun _ _ h9 => False.elim h9)
  replace F := F Wκ1 Mκ1
  refine y_isn dX4_aim_9 (Nat.le_of_ble_eq_true rfl) rfl ?_
  refine y_aln dX4_aim_10 rfl ?_
  have h4 := (ztm W Mκ1 Ta0)
  refine gf_X4_11 Wκ1 dX4_aim_11 rfl h4 ?_
  refine y_iln dX4_aim_14 rfl ?_
  refine y_ic dX4_aim_15 zi_2 ?_
  replace F := F (ty_maCode Wκ1 h4)
  refine k_X4_110 Wκ1 dX4_aim_16 rfl (Nat.le_of_ble_eq_true rfl) (Nat.le_of_ble_eq_true rfl) (Or.inl (ty_maCode Wκ1 h4)) F (fun r6 κ5 Wκ5 Mκ5 F => ?_) (fun _ _ h9 => False.elim h9)
  replace F := F Wκ5 Mκ5
  refine y_isn dX4_aim_19 (Nat.le_of_ble_eq_true rfl) rfl ?_
  refine y_iln dX4_aim_20 rfl ?_
  refine y_ic dX4_aim_21 zi_3 ?_
  refine y_ii (r2 = (3 : Int32)) dX4_aim_22 (t := 36) rfl rfl (fun c9 => ?_) (fun c9 => ?_)
  · replace F := F.1 c9
    refine y_aln dX4_aim_36 rfl ?_
    have h10 := (ztm Wκ1 Mκ5 h4)
    replace F := F h10
    refine k_X4_120 Wκ5 dX4_aim_37 rfl (Nat.le_of_ble_eq_true rfl) (Nat.le_of_ble_eq_true rfl) (Or.inl h10) F (fun r9 κ8 Wκ8 Mκ8 F => ?_) (fun _ _ h9 => False.elim h9)
    replace F := F Wκ8 Mκ8
    refine y_is dX4_aim_40 (Nat.le_of_ble_eq_true rfl) rfl ?_
    refine y_aln dX4_aim_42 rfl ?_
    refine y_aln dX4_aim_43 rfl ?_
    have h12 := (ztm Wκ5 Mκ8 h10)
    refine gf_X4_70 dX4_aim_44 rfl (Or.inl h12) ?_
    refine y_in ((zI κ8 maFailure a0) = (0 : Int32)) dX4_aim_47 (t := 60) rfl rfl (fun c9 => ?_) (fun c9 => ?_)
    · replace F := F.1 c9
      refine y_ic dX4_aim_60 zi_0 ?_
      exact y_k (t_Ma_aim_61  Wκ8 h12 h12 F) ⟨rfl, trivial⟩
    · replace F := F.2 c9
      refine y_aln dX4_aim_50 rfl ?_
      refine y_iln dX4_aim_51 rfl ?_
      refine y_il dX4_aim_52 rfl ?_
      replace F := F h12
      refine k_X4_133 Wκ8 dX4_aim_54 rfl (Nat.le_of_ble_eq_true rfl) (Nat.le_of_ble_eq_true rfl) (Or.inl h12) F (fun r14 κ13 Wκ13 Mκ13 F => ?_) (fun _ _ h9 => False.elim h9)
      replace F := F Wκ13 Mκ13
      refine y_goto dX4_aim_57 (t := 61) rfl ?_
      have h16 := (ztm Wκ8 Mκ13 h12)
      exact y_k (t_Ma_aim_61  Wκ13 h16 h16 F) ⟨rfl, trivial⟩
  · replace F := F.2 c9
    refine y_aln dX4_aim_25 rfl ?_
    refine y_aln dX4_aim_26 rfl ?_
    refine y_iln dX4_aim_27 rfl ?_
    refine y_iln dX4_aim_28 rfl ?_
    have h19 := (ztm Wκ1 Mκ5 h4)
    replace F := F h19
    refine k_X4_127 Wκ5 dX4_aim_29 rfl (Nat.le_of_ble_eq_true rfl) (Nat.le_of_ble_eq_true rfl) (Or.inl h19) F (fun r18 κ17 Wκ17 Mκ17 F => ?_) (fun _ _ h9 => False.elim h9)
    replace F := F Wκ17 Mκ17
    have h22 := (ztm Wκ5 Mκ17 h19)
    refine pf_X4_130 Wκ17 dX4_aim_32 rfl (Or.inl h22) (fun κ21 eκ21 => ?_)
    replace F := F κ21 eκ21
    have Wκ21 : zW C n0 κ21 := zW_ui Wκ17 eκ21 (fun h => absurd h (by decide))
    have Mκ21 : zM (zn κ17) κ17 κ21 := by rw [eκ21]; exact zM.of rfl rfl rfl
    replace F := F Wκ21
    exact y_rv Wκ21 dX4_aim_35 rfl F

theorem Ma_aim_run {C : zC} {n0 : Nat} {Q : zS → Prop} {a0 : Nat} {a1 : Int32} {κ : zS} (W : zW C n0 κ) (Ta0 : zT κ a0 = 7) (F : w_Ma_aim_0 C (zn κ) Q a0 a1 κ) : zRun C 2 mMa_aim [.ref a0, .int a1] κ (oV Q noX) := z_run (m_ent _ 3) (t_Ma_aim_0 (W.lo (Nat.le_trans W.1.2.1 W.1.2.2) (Nat.le_refl _)) Ta0 F)

theorem dX4_fail_0 : decode cX4_fail 0 = .ok (.aload_n 0, 1) := by decide +kernel
theorem dX4_fail_1 : decode cX4_fail 1 = .ok (.iload_n 1, 1) := by decide +kernel
theorem dX4_fail_2 : decode cX4_fail 2 = .ok (.putfield 70, 3) := by decide +kernel
theorem dX4_fail_5 : decode cX4_fail 5 = .ok (.aload_n 0, 1) := by decide +kernel
theorem dX4_fail_6 : decode cX4_fail 6 = .ok (.iconst 2, 1) := by decide +kernel
theorem dX4_fail_7 : decode cX4_fail 7 = .ok (.putfield 79, 3) := by decide +kernel
theorem dX4_fail_10 : decode cX4_fail 10 = .ok (.return_, 1) := by decide +kernel
def w_Ma_fail_0 (C : zC) (n0 : Nat) (Q : zS → Prop)  (a0 : Nat) (a1 : Int32) (κ : zS) : Prop :=
  ∀ κ1, κ1 = ui κ maFailure a0 a1 →
  ∀ _ : zW C n0 κ1,
  ∀ κ2, κ2 = ui κ1 maOutcome a0 (2 : Int32) →
  ∀ _ : zW C n0 κ2,
  Q κ2
theorem t_Ma_fail_0 {C : zC} {n0 : Nat} {Q : zS → Prop}   {a0 : Nat} {a1 : Int32} {κ : zS} (W : zW C n0 κ) (Ta0 : zT κ a0 = 7) (F : w_Ma_fail_0 C n0 Q  a0 a1 κ) : zG C n0 0 mMa_fail 0 [some (.ref a0), some (.int a1)] [] κ (oV Q noX) := by
  unfold w_Ma_fail_0 at F
  refine y_aln dX4_fail_0 rfl ?_
  refine y_iln dX4_fail_1 rfl ?_
  refine pf_X4_70 W dX4_fail_2 rfl (Or.inl Ta0) (fun κ1 eκ1 => ?_)
  replace F := F κ1 eκ1
  have Wκ1 : zW C n0 κ1 := zW_ui W eκ1 (fun h => absurd h (by decide))
  have Mκ1 : zM (zn κ) κ κ1 := by rw [eκ1]; exact zM.of rfl rfl rfl
  replace F := F Wκ1
  refine y_aln dX4_fail_5 rfl ?_
  refine y_ic dX4_fail_6 zi_2 ?_
  have h3 := (ztm W Mκ1 Ta0)
  refine pf_X4_79 Wκ1 dX4_fail_7 rfl (Or.inl h3) (fun κ2 eκ2 => ?_)
  replace F := F κ2 eκ2
  have Wκ2 : zW C n0 κ2 := zW_ui Wκ1 eκ2 (fun h => absurd h (by decide))
  have Mκ2 : zM (zn κ1) κ1 κ2 := by rw [eκ2]; exact zM.of rfl rfl rfl
  replace F := F Wκ2
  exact y_rv Wκ2 dX4_fail_10 rfl F

theorem Ma_fail_run {C : zC} {n0 : Nat} {Q : zS → Prop} {a0 : Nat} {a1 : Int32} {κ : zS} (W : zW C n0 κ) (Ta0 : zT κ a0 = 7) (F : w_Ma_fail_0 C (zn κ) Q a0 a1 κ) : zRun C 0 mMa_fail [.ref a0, .int a1] κ (oV Q noX) := z_run (m_ent _ 0) (t_Ma_fail_0 (W.lo (Nat.le_trans W.1.2.1 W.1.2.2) (Nat.le_refl _)) Ta0 F)

theorem dX4_offer_0 : decode cX4_offer 0 = .ok (.iload_n 1, 1) := by decide +kernel
theorem dX4_offer_1 : decode cX4_offer 1 = .ok (.iconst 1, 1) := by decide +kernel
theorem dX4_offer_2 : decode cX4_offer 2 = .ok (.if_icmp .lt 9, 3) := by decide +kernel
theorem dX4_offer_5 : decode cX4_offer 5 = .ok (.iload_n 1, 1) := by decide +kernel
theorem dX4_offer_6 : decode cX4_offer 6 = .ok (.bipush 8, 2) := by decide +kernel
theorem dX4_offer_8 : decode cX4_offer 8 = .ok (.if_icmp .le 9, 3) := by decide +kernel
theorem dX4_offer_11 : decode cX4_offer 11 = .ok (.aload_n 0, 1) := by decide +kernel
theorem dX4_offer_12 : decode cX4_offer 12 = .ok (.iconst 5, 1) := by decide +kernel
theorem dX4_offer_13 : decode cX4_offer 13 = .ok (.invokevirtual 154, 3) := by decide +kernel
theorem dX4_offer_16 : decode cX4_offer 16 = .ok (.return_, 1) := by decide +kernel
theorem dX4_offer_17 : decode cX4_offer 17 = .ok (.aload_n 0, 1) := by decide +kernel
theorem dX4_offer_18 : decode cX4_offer 18 = .ok (.iload_n 1, 1) := by decide +kernel
theorem dX4_offer_19 : decode cX4_offer 19 = .ok (.putfield 163, 3) := by decide +kernel
theorem dX4_offer_22 : decode cX4_offer 22 = .ok (.aload_n 0, 1) := by decide +kernel
theorem dX4_offer_23 : decode cX4_offer 23 = .ok (.iconst 0, 1) := by decide +kernel
theorem dX4_offer_24 : decode cX4_offer 24 = .ok (.putfield 166, 3) := by decide +kernel
theorem dX4_offer_27 : decode cX4_offer 27 = .ok (.iconst 0, 1) := by decide +kernel
theorem dX4_offer_28 : decode cX4_offer 28 = .ok (.istore_n 2, 1) := by decide +kernel
theorem dX4_offer_29 : decode cX4_offer 29 = .ok (.iload_n 2, 1) := by decide +kernel
theorem dX4_offer_30 : decode cX4_offer 30 = .ok (.iload_n 1, 1) := by decide +kernel
theorem dX4_offer_31 : decode cX4_offer 31 = .ok (.if_icmp .ge 23, 3) := by decide +kernel
theorem dX4_offer_34 : decode cX4_offer 34 = .ok (.aload_n 0, 1) := by decide +kernel
theorem dX4_offer_35 : decode cX4_offer 35 = .ok (.getfield 25, 3) := by decide +kernel
theorem dX4_offer_38 : decode cX4_offer 38 = .ok (.iload_n 2, 1) := by decide +kernel
theorem dX4_offer_39 : decode cX4_offer 39 = .ok (.iload_n 2, 1) := by decide +kernel
theorem dX4_offer_40 : decode cX4_offer 40 = .ok (.iastore, 1) := by decide +kernel
theorem dX4_offer_41 : decode cX4_offer 41 = .ok (.aload_n 0, 1) := by decide +kernel
theorem dX4_offer_42 : decode cX4_offer 42 = .ok (.getfield 28, 3) := by decide +kernel
theorem dX4_offer_45 : decode cX4_offer 45 = .ok (.iload_n 2, 1) := by decide +kernel
theorem dX4_offer_46 : decode cX4_offer 46 = .ok (.iconst 1, 1) := by decide +kernel
theorem dX4_offer_47 : decode cX4_offer 47 = .ok (.iastore, 1) := by decide +kernel
theorem dX4_offer_48 : decode cX4_offer 48 = .ok (.iinc 2 1, 3) := by decide +kernel
theorem dX4_offer_51 : decode cX4_offer 51 = .ok (.goto (-22), 3) := by decide +kernel
theorem dX4_offer_54 : decode cX4_offer 54 = .ok (.aload_n 0, 1) := by decide +kernel
theorem dX4_offer_55 : decode cX4_offer 55 = .ok (.iconst 4, 1) := by decide +kernel
theorem dX4_offer_56 : decode cX4_offer 56 = .ok (.putfield 76, 3) := by decide +kernel
theorem dX4_offer_59 : decode cX4_offer 59 = .ok (.return_, 1) := by decide +kernel
def w_Ma_offer_29 (C : zC) (n0 : Nat) (Q : zS → Prop)  (a0 : Nat) (a1 : Int32) (a2 : Int32) (κ : zS) : Prop :=
  ∃ I : Nat → Nat → Int32 → Int32 → zS → Prop, (∃ n, I n a0 a1 a2 κ) ∧ ∀ n a0 a1 a2 κ, zW C n0 κ → zT κ a0 = 7 → I n a0 a1 a2 κ →
    (a1 ≤ a2 →
      ∀ κ1, κ1 = ui κ maWants a0 (4 : Int32) →
      ∀ _ : zW C n0 κ1,
      Q κ1) ∧
    (¬ a1 ≤ a2 →
      inb a2 (zN κ (zR κ maValues a0)) ∧
      ∀ κ2, κ2 = ua κ (zR κ maValues a0) (a2).toNatClampNeg a2 →
      ∀ _ : zW C n0 κ2,
      inb a2 (zN κ2 (zR κ2 maWeights a0)) ∧
      ∀ κ4, κ4 = ua κ2 (zR κ2 maWeights a0) (a2).toNatClampNeg (1 : Int32) →
      ∀ _ : zW C n0 κ4,
      ∀ v2_5 : Int32, v2_5 = a2 + (1 : Int32) →
      ∃ k < n, I k a0 a1 v2_5 κ4)
theorem t_Ma_offer_29 {C : zC} {n0 : Nat} {Q : zS → Prop}   {a0 : Nat} {a1 : Int32} {a2 : Int32} {κ : zS} (W : zW C n0 κ) (Ta0 : zT κ a0 = 7) (F : w_Ma_offer_29 C n0 Q  a0 a1 a2 κ) : zG C n0 1 mMa_offer 29 [some (.ref a0), some (.int a1), some (.int a2)] [] κ (oV Q noX) := by
  obtain ⟨I, ⟨m0, hI0⟩, F0⟩ := F
  have key : ∀ n a0 a1 a2 κ, zW C n0 κ → zT κ a0 = 7 → I n a0 a1 a2 κ → zG C n0 1 mMa_offer 29 [some (.ref a0), some (.int a1), some (.int a2)] [] κ (oV Q noX) := by
    intro n
    induction n using Nat.strongRecOn with
    | _ n ih =>
      intro a0 a1 a2 κ W Ta0 hI
      have F := F0 n a0 a1 a2 κ W Ta0 hI
      clear hI hI0
      refine y_iln dX4_offer_29 rfl ?_
      refine y_iln dX4_offer_30 rfl ?_
      refine y_ii (a1 ≤ a2) dX4_offer_31 (t := 54) rfl rfl (fun c9 => ?_) (fun c9 => ?_)
      · replace F := F.1 c9
        refine y_aln dX4_offer_54 rfl ?_
        refine y_ic dX4_offer_55 zi_4 ?_
        refine pf_X4_76 W dX4_offer_56 rfl (Or.inl Ta0) (fun κ1 eκ1 => ?_)
        replace F := F κ1 eκ1
        have Wκ1 : zW C n0 κ1 := zW_ui W eκ1 (fun h => absurd h (by decide))
        have Mκ1 : zM (zn κ) κ κ1 := by rw [eκ1]; exact zM.of rfl rfl rfl
        replace F := F Wκ1
        exact y_rv Wκ1 dX4_offer_59 rfl F
      · replace F := F.2 c9
        refine y_aln dX4_offer_34 rfl ?_
        refine gf_X4_25 W dX4_offer_35 rfl Ta0 ?_
        refine y_iln dX4_offer_38 rfl ?_
        refine y_iln dX4_offer_39 rfl ?_
        refine y_ast W dX4_offer_40 (ty_maValues W Ta0) F.1 (fun κ2 eκ2 => ?_)
        replace F := F.2 κ2 eκ2
        have Wκ2 : zW C n0 κ2 := zW_ua W eκ2 (fun h => absurd (h.symm.trans (ty_maValues W Ta0)) (by decide)) (fun h => absurd (h.symm.trans (ty_maValues W Ta0)) (by decide))
        have Mκ2 : zM (zn κ) κ κ2 := by rw [eκ2]; exact zM.of rfl rfl rfl
        replace F := F Wκ2
        refine y_aln dX4_offer_41 rfl ?_
        have h3 := (ztm W Mκ2 Ta0)
        refine gf_X4_28 Wκ2 dX4_offer_42 rfl h3 ?_
        refine y_iln dX4_offer_45 rfl ?_
        refine y_ic dX4_offer_46 zi_1 ?_
        refine y_ast Wκ2 dX4_offer_47 (ty_maWeights Wκ2 h3) F.1 (fun κ4 eκ4 => ?_)
        replace F := F.2 κ4 eκ4
        have Wκ4 : zW C n0 κ4 := zW_ua Wκ2 eκ4 (fun h => absurd (h.symm.trans (ty_maWeights Wκ2 h3)) (by decide)) (fun h => absurd (h.symm.trans (ty_maWeights Wκ2 h3)) (by decide))
        have Mκ4 : zM (zn κ2) κ2 κ4 := by rw [eκ4]; exact zM.of rfl rfl rfl
        replace F := F Wκ4
        refine y_incb dX4_offer_48 zi_1 rfl (Nat.le_of_ble_eq_true rfl) (fun v2_5 ev2_5 => ?_)
        replace F := F v2_5 ev2_5
        refine y_goto dX4_offer_51 (t := 29) rfl ?_
        have h6 := (ztm Wκ2 Mκ4 h3)
        obtain ⟨k, hk, hI⟩ := F
        exact y_k (ih k hk _ _ _ _ Wκ4 h6 hI) ⟨rfl, rfl, rfl, trivial⟩
  exact key m0 a0 a1 a2 κ W Ta0 hI0

def w_Ma_offer_0 (C : zC) (n0 : Nat) (Q : zS → Prop)  (a0 : Nat) (a1 : Int32) (κ : zS) : Prop :=
  (a1 < (1 : Int32) →
    ∀ _ : zT κ a0 = 7,
    zRun C 0 mMa_fail [.ref a0, .int (5 : Int32)] κ (oV (fun κ1 =>
      ∀ _ : zW C n0 κ1,
      ∀ _ : zM (zn κ) κ κ1,
      Q κ1) noX)) ∧
  (¬ a1 < (1 : Int32) →
    (a1 ≤ (8 : Int32) →
      ∀ κ4, κ4 = ui κ maWays a0 a1 →
      ∀ _ : zW C n0 κ4,
      ∀ κ5, κ5 = ui κ4 maTotal a0 (0 : Int32) →
      ∀ _ : zW C n0 κ5,
      w_Ma_offer_29 C n0 Q  a0 a1 (0 : Int32) κ5) ∧
    (¬ a1 ≤ (8 : Int32) →
      ∀ _ : zT κ a0 = 7,
      zRun C 0 mMa_fail [.ref a0, .int (5 : Int32)] κ (oV (fun κ8 =>
        ∀ _ : zW C n0 κ8,
        ∀ _ : zM (zn κ) κ κ8,
        Q κ8) noX)))
theorem t_Ma_offer_0 {C : zC} {n0 : Nat} {Q : zS → Prop}   {a0 : Nat} {a1 : Int32} {κ : zS} (W : zW C n0 κ) (Ta0 : zT κ a0 = 7) (F : w_Ma_offer_0 C n0 Q  a0 a1 κ) : zG C n0 1 mMa_offer 0 [some (.ref a0), some (.int a1), none] [] κ (oV Q noX) := by
  unfold w_Ma_offer_0 at F
  refine y_iln dX4_offer_0 rfl ?_
  refine y_ic dX4_offer_1 zi_1 ?_
  refine y_ii (a1 < (1 : Int32)) dX4_offer_2 (t := 11) rfl rfl (fun c9 => ?_) (fun c9 => ?_)
  · replace F := F.1 c9
    refine y_aln dX4_offer_11 rfl ?_
    refine y_ic dX4_offer_12 zi_5 ?_
    replace F := F Ta0
    refine k_X4_154 W dX4_offer_13 rfl (Nat.le_of_ble_eq_true rfl) (Nat.le_of_ble_eq_true rfl) (Or.inl Ta0) F (fun  κ1 Wκ1 Mκ1 F => ?_) (fun _ _ h9 => False.elim h9)
    replace F := F Wκ1 Mκ1
    exact y_rv Wκ1 dX4_offer_16 rfl F
  · replace F := F.2 c9
    refine y_iln dX4_offer_5 rfl ?_
    refine y_bi1 dX4_offer_6 zb_8 ?_
    refine y_ii (a1 ≤ (8 : Int32)) dX4_offer_8 (t := 17) rfl rfl (fun c9 => ?_) (fun c9 => ?_)
    · replace F := F.1 c9
      refine y_aln dX4_offer_17 rfl ?_
      refine y_iln dX4_offer_18 rfl ?_
      refine pf_X4_163 W dX4_offer_19 rfl (Or.inl Ta0) (fun κ4 eκ4 => ?_)
      replace F := F κ4 eκ4
      have Wκ4 : zW C n0 κ4 := zW_ui W eκ4 (fun h => absurd h (by decide))
      have Mκ4 : zM (zn κ) κ κ4 := by rw [eκ4]; exact zM.of rfl rfl rfl
      replace F := F Wκ4
      refine y_aln dX4_offer_22 rfl ?_
      refine y_ic dX4_offer_23 zi_0 ?_
      have h6 := (ztm W Mκ4 Ta0)
      refine pf_X4_166 Wκ4 dX4_offer_24 rfl (Or.inl h6) (fun κ5 eκ5 => ?_)
      replace F := F κ5 eκ5
      have Wκ5 : zW C n0 κ5 := zW_ui Wκ4 eκ5 (fun h => absurd h (by decide))
      have Mκ5 : zM (zn κ4) κ4 κ5 := by rw [eκ5]; exact zM.of rfl rfl rfl
      replace F := F Wκ5
      refine y_ic dX4_offer_27 zi_0 ?_
      refine y_isn dX4_offer_28 (Nat.le_of_ble_eq_true rfl) rfl ?_
      have h7 := (ztm Wκ4 Mκ5 h6)
      exact y_k (t_Ma_offer_29  Wκ5 h7 F) ⟨rfl, rfl, rfl, trivial⟩
    · replace F := F.2 c9
      refine y_aln dX4_offer_11 rfl ?_
      refine y_ic dX4_offer_12 zi_5 ?_
      replace F := F Ta0
      refine k_X4_154 W dX4_offer_13 rfl (Nat.le_of_ble_eq_true rfl) (Nat.le_of_ble_eq_true rfl) (Or.inl Ta0) F (fun  κ8 Wκ8 Mκ8 F => ?_) (fun _ _ h9 => False.elim h9)
      replace F := F Wκ8 Mκ8
      exact y_rv Wκ8 dX4_offer_16 rfl F

theorem Ma_offer_run {C : zC} {n0 : Nat} {Q : zS → Prop} {a0 : Nat} {a1 : Int32} {κ : zS} (W : zW C n0 κ) (Ta0 : zT κ a0 = 7) (F : w_Ma_offer_0 C (zn κ) Q a0 a1 κ) : zRun C 1 mMa_offer [.ref a0, .int a1] κ (oV Q noX) := z_run (m_ent _ 1) (t_Ma_offer_0 (W.lo (Nat.le_trans W.1.2.1 W.1.2.2) (Nat.le_refl _)) Ta0 F)

theorem dJ7_rangeCheck_23922_0 : decode cJ7_rangeCheck_23922 0 = .ok (.iload_n 1, 1) := by decide +kernel
theorem dJ7_rangeCheck_23922_1 : decode cJ7_rangeCheck_23922 1 = .ok (.iload_n 2, 1) := by decide +kernel
theorem dJ7_rangeCheck_23922_2 : decode cJ7_rangeCheck_23922 2 = .ok (.if_icmp .le 44, 3) := by decide +kernel
theorem dJ7_rangeCheck_23922_5 : decode cJ7_rangeCheck_23922 5 = .ok (.new 43, 3) := by decide +kernel
theorem dJ7_rangeCheck_23922_46 : decode cJ7_rangeCheck_23922 46 = .ok (.iload_n 1, 1) := by decide +kernel
theorem dJ7_rangeCheck_23922_47 : decode cJ7_rangeCheck_23922 47 = .ok (.ifCond .ge 12, 3) := by decide +kernel
theorem dJ7_rangeCheck_23922_50 : decode cJ7_rangeCheck_23922 50 = .ok (.new 68, 3) := by decide +kernel
theorem dJ7_rangeCheck_23922_59 : decode cJ7_rangeCheck_23922 59 = .ok (.iload_n 2, 1) := by decide +kernel
theorem dJ7_rangeCheck_23922_60 : decode cJ7_rangeCheck_23922 60 = .ok (.iload_n 0, 1) := by decide +kernel
theorem dJ7_rangeCheck_23922_61 : decode cJ7_rangeCheck_23922 61 = .ok (.if_icmp .le 12, 3) := by decide +kernel
theorem dJ7_rangeCheck_23922_64 : decode cJ7_rangeCheck_23922 64 = .ok (.new 68, 3) := by decide +kernel
theorem dJ7_rangeCheck_23922_73 : decode cJ7_rangeCheck_23922 73 = .ok (.return_, 1) := by decide +kernel
def w_Ar_rangeCheck_0 (C : zC) (n0 : Nat) (Q : zS → Prop)  (a0 : Int32) (a1 : Int32) (a2 : Int32) (κ : zS) : Prop :=
  (a1 ≤ a2 →
    ((0 : Int32) ≤ a1 →
      (a2 ≤ a0 →
        Q κ) ∧
      (¬ a2 ≤ a0 →
        False)) ∧
    (¬ (0 : Int32) ≤ a1 →
      False)) ∧
  (¬ a1 ≤ a2 →
    False)
theorem t_Ar_rangeCheck_0 {C : zC} {n0 : Nat} {Q : zS → Prop}   {a0 : Int32} {a1 : Int32} {a2 : Int32} {κ : zS} (W : zW C n0 κ)  (F : w_Ar_rangeCheck_0 C n0 Q  a0 a1 a2 κ) : zG C n0 0 mAr_rangeCheck 0 [some (.int a0), some (.int a1), some (.int a2)] [] κ (oV Q noX) := by
  unfold w_Ar_rangeCheck_0 at F
  refine y_iln dJ7_rangeCheck_23922_0 rfl ?_
  refine y_iln dJ7_rangeCheck_23922_1 rfl ?_
  refine y_ii (a1 ≤ a2) dJ7_rangeCheck_23922_2 (t := 46) rfl rfl (fun c9 => ?_) (fun c9 => ?_)
  · replace F := F.1 c9
    refine y_iln dJ7_rangeCheck_23922_46 rfl ?_
    refine y_i ((0 : Int32) ≤ a1) dJ7_rangeCheck_23922_47 (t := 59) rfl rfl (fun c9 => ?_) (fun c9 => ?_)
    · replace F := F.1 c9
      refine y_iln dJ7_rangeCheck_23922_59 rfl ?_
      refine y_iln dJ7_rangeCheck_23922_60 rfl ?_
      refine y_ii (a2 ≤ a0) dJ7_rangeCheck_23922_61 (t := 73) rfl rfl (fun c9 => ?_) (fun c9 => ?_)
      · replace F := F.1 c9
        exact y_rv W dJ7_rangeCheck_23922_73 rfl F
      · replace F := F.2 c9
        exact F.elim
    · replace F := F.2 c9
      exact F.elim
  · replace F := F.2 c9
    exact F.elim

theorem Ar_rangeCheck_run {C : zC} {n0 : Nat} {Q : zS → Prop} {a0 : Int32} {a1 : Int32} {a2 : Int32} {κ : zS} (W : zW C n0 κ)  (F : w_Ar_rangeCheck_0 C (zn κ) Q a0 a1 a2 κ) : zRun C 0 mAr_rangeCheck [.int a0, .int a1, .int a2] κ (oV Q noX) := z_run (m_ent _ 0) (t_Ar_rangeCheck_0 (W.lo (Nat.le_trans W.1.2.1 W.1.2.2) (Nat.le_refl _))  F)

theorem dJ7_fill_fda19_0 : decode cJ7_fill_fda19 0 = .ok (.aload_n 0, 1) := by decide +kernel
theorem dJ7_fill_fda19_1 : decode cJ7_fill_fda19 1 = .ok (.arraylength, 1) := by decide +kernel
theorem dJ7_fill_fda19_2 : decode cJ7_fill_fda19 2 = .ok (.iload_n 1, 1) := by decide +kernel
theorem dJ7_fill_fda19_3 : decode cJ7_fill_fda19 3 = .ok (.iload_n 2, 1) := by decide +kernel
theorem dJ7_fill_fda19_4 : decode cJ7_fill_fda19 4 = .ok (.invokestatic 13, 3) := by decide +kernel
theorem dJ7_fill_fda19_7 : decode cJ7_fill_fda19 7 = .ok (.iload_n 1, 1) := by decide +kernel
theorem dJ7_fill_fda19_8 : decode cJ7_fill_fda19 8 = .ok (.istore 4, 2) := by decide +kernel
theorem dJ7_fill_fda19_10 : decode cJ7_fill_fda19 10 = .ok (.iload 4, 2) := by decide +kernel
theorem dJ7_fill_fda19_12 : decode cJ7_fill_fda19 12 = .ok (.iload_n 2, 1) := by decide +kernel
theorem dJ7_fill_fda19_13 : decode cJ7_fill_fda19 13 = .ok (.if_icmp .ge 14, 3) := by decide +kernel
theorem dJ7_fill_fda19_16 : decode cJ7_fill_fda19 16 = .ok (.aload_n 0, 1) := by decide +kernel
theorem dJ7_fill_fda19_17 : decode cJ7_fill_fda19 17 = .ok (.iload 4, 2) := by decide +kernel
theorem dJ7_fill_fda19_19 : decode cJ7_fill_fda19 19 = .ok (.iload_n 3, 1) := by decide +kernel
theorem dJ7_fill_fda19_20 : decode cJ7_fill_fda19 20 = .ok (.iastore, 1) := by decide +kernel
theorem dJ7_fill_fda19_21 : decode cJ7_fill_fda19 21 = .ok (.iinc 4 1, 3) := by decide +kernel
theorem dJ7_fill_fda19_24 : decode cJ7_fill_fda19 24 = .ok (.goto (-14), 3) := by decide +kernel
theorem dJ7_fill_fda19_27 : decode cJ7_fill_fda19 27 = .ok (.return_, 1) := by decide +kernel
def w_Ar_fill4_10 (C : zC) (n0 : Nat) (Q : zS → Prop)  (a0 : Nat) (a2 : Int32) (a3 : Int32) (a4 : Int32) (κ : zS) : Prop :=
  ∃ I : Nat → Nat → Int32 → Int32 → Int32 → zS → Prop, (∃ n, I n a0 a2 a3 a4 κ) ∧ ∀ n a0 a2 a3 a4 κ, zW C n0 κ → zT κ a0 = 20 → I n a0 a2 a3 a4 κ →
    (a2 ≤ a4 →
      Q κ) ∧
    (¬ a2 ≤ a4 →
      inb a4 (zN κ a0) ∧
      ∀ κ1, κ1 = ua κ a0 (a4).toNatClampNeg a3 →
      ∀ _ : zW C n0 κ1,
      ∀ v4_2 : Int32, v4_2 = a4 + (1 : Int32) →
      ∃ k < n, I k a0 a2 a3 v4_2 κ1)
theorem t_Ar_fill4_10 {C : zC} {n0 : Nat} {Q : zS → Prop}   {a0 : Nat} {a2 : Int32} {a3 : Int32} {a4 : Int32} {κ : zS} (W : zW C n0 κ) (Ta0 : zT κ a0 = 20) (F : w_Ar_fill4_10 C n0 Q  a0 a2 a3 a4 κ) : zG C n0 1 mAr_fill4 10 [some (.ref a0), none, some (.int a2), some (.int a3), some (.int a4)] [] κ (oV Q noX) := by
  obtain ⟨I, ⟨m0, hI0⟩, F0⟩ := F
  have key : ∀ n a0 a2 a3 a4 κ, zW C n0 κ → zT κ a0 = 20 → I n a0 a2 a3 a4 κ → zG C n0 1 mAr_fill4 10 [some (.ref a0), none, some (.int a2), some (.int a3), some (.int a4)] [] κ (oV Q noX) := by
    intro n
    induction n using Nat.strongRecOn with
    | _ n ih =>
      intro a0 a2 a3 a4 κ W Ta0 hI
      have F := F0 n a0 a2 a3 a4 κ W Ta0 hI
      clear hI hI0
      refine y_il dJ7_fill_fda19_10 rfl ?_
      refine y_iln dJ7_fill_fda19_12 rfl ?_
      refine y_ii (a2 ≤ a4) dJ7_fill_fda19_13 (t := 27) rfl rfl (fun c9 => ?_) (fun c9 => ?_)
      · replace F := F.1 c9
        exact y_rv W dJ7_fill_fda19_27 rfl F
      · replace F := F.2 c9
        refine y_aln dJ7_fill_fda19_16 rfl ?_
        refine y_il dJ7_fill_fda19_17 rfl ?_
        refine y_iln dJ7_fill_fda19_19 rfl ?_
        refine y_ast W dJ7_fill_fda19_20 Ta0 F.1 (fun κ1 eκ1 => ?_)
        replace F := F.2 κ1 eκ1
        have Wκ1 : zW C n0 κ1 := zW_ua W eκ1 (fun h => absurd (h.symm.trans Ta0) (by decide)) (fun h => absurd (h.symm.trans Ta0) (by decide))
        have Mκ1 : zM (zn κ) κ κ1 := by rw [eκ1]; exact zM.of rfl rfl rfl
        replace F := F Wκ1
        refine y_incb dJ7_fill_fda19_21 zi_1 rfl (Nat.le_of_ble_eq_true rfl) (fun v4_2 ev4_2 => ?_)
        replace F := F v4_2 ev4_2
        refine y_goto dJ7_fill_fda19_24 (t := 10) rfl ?_
        have h3 := (ztm W Mκ1 Ta0)
        obtain ⟨k, hk, hI⟩ := F
        exact y_k (ih k hk _ _ _ _ _ Wκ1 h3 hI) ⟨rfl, rfl, rfl, rfl, trivial⟩
  exact key m0 a0 a2 a3 a4 κ W Ta0 hI0

def w_Ar_fill4_0 (C : zC) (n0 : Nat) (Q : zS → Prop)  (a0 : Nat) (a1 : Int32) (a2 : Int32) (a3 : Int32) (κ : zS) : Prop :=
  zRun C 0 mAr_rangeCheck [.int (Int32.ofNat (zN κ a0)), .int a1, .int a2] κ (oV (fun κ1 =>
    ∀ _ : zW C n0 κ1,
    ∀ _ : zM (zn κ) κ κ1,
    w_Ar_fill4_10 C n0 Q  a0 a2 a3 a1 κ1) noX)
theorem t_Ar_fill4_0 {C : zC} {n0 : Nat} {Q : zS → Prop}   {a0 : Nat} {a1 : Int32} {a2 : Int32} {a3 : Int32} {κ : zS} (W : zW C n0 κ) (Ta0 : zT κ a0 = 20) (F : w_Ar_fill4_0 C n0 Q  a0 a1 a2 a3 κ) : zG C n0 1 mAr_fill4 0 [some (.ref a0), some (.int a1), some (.int a2), some (.int a3), none] [] κ (oV Q noX) := by
  unfold w_Ar_fill4_0 at F
  refine y_aln dJ7_fill_fda19_0 rfl ?_
  refine y_alen (t := 0) dJ7_fill_fda19_1 Ta0 (by decide) ?_
  refine y_iln dJ7_fill_fda19_2 rfl ?_
  refine y_iln dJ7_fill_fda19_3 rfl ?_
  refine k_J7_13 W dJ7_fill_fda19_4 rfl (Nat.le_of_ble_eq_true rfl) (Nat.le_of_ble_eq_true rfl)  F (fun  κ1 Wκ1 Mκ1 F => ?_) (fun _ _ h9 => False.elim h9)
  replace F := F Wκ1 Mκ1
  refine y_iln dJ7_fill_fda19_7 rfl ?_
  refine y_is dJ7_fill_fda19_8 (Nat.le_of_ble_eq_true rfl) rfl ?_
  have h4 := (ztm W Mκ1 Ta0)
  exact y_k (t_Ar_fill4_10  Wκ1 h4 F) ⟨rfl, rfl, rfl, rfl, trivial⟩

theorem Ar_fill4_run {C : zC} {n0 : Nat} {Q : zS → Prop} {a0 : Nat} {a1 : Int32} {a2 : Int32} {a3 : Int32} {κ : zS} (W : zW C n0 κ) (Ta0 : zT κ a0 = 20) (F : w_Ar_fill4_0 C (zn κ) Q a0 a1 a2 a3 κ) : zRun C 1 mAr_fill4 [.ref a0, .int a1, .int a2, .int a3] κ (oV Q noX) := z_run (m_ent _ 1) (t_Ar_fill4_0 (W.lo (Nat.le_trans W.1.2.1 W.1.2.2) (Nat.le_refl _)) Ta0 F)

theorem dX2_firstOf_0 : decode cX2_firstOf 0 = .ok (.iload_n 1, 1) := by decide +kernel
theorem dX2_firstOf_1 : decode cX2_firstOf 1 = .ok (.ifCond .lt 18, 3) := by decide +kernel
theorem dX2_firstOf_4 : decode cX2_firstOf 4 = .ok (.iload_n 1, 1) := by decide +kernel
theorem dX2_firstOf_5 : decode cX2_firstOf 5 = .ok (.bipush 10, 2) := by decide +kernel
theorem dX2_firstOf_7 : decode cX2_firstOf 7 = .ok (.if_icmp .ge 12, 3) := by decide +kernel
theorem dX2_firstOf_10 : decode cX2_firstOf 10 = .ok (.aload_n 0, 1) := by decide +kernel
theorem dX2_firstOf_11 : decode cX2_firstOf 11 = .ok (.getfield 21, 3) := by decide +kernel
theorem dX2_firstOf_14 : decode cX2_firstOf 14 = .ok (.iload_n 1, 1) := by decide +kernel
theorem dX2_firstOf_15 : decode cX2_firstOf 15 = .ok (.iaload, 1) := by decide +kernel
theorem dX2_firstOf_16 : decode cX2_firstOf 16 = .ok (.goto 4, 3) := by decide +kernel
theorem dX2_firstOf_19 : decode cX2_firstOf 19 = .ok (.iconst (-1), 1) := by decide +kernel
theorem dX2_firstOf_20 : decode cX2_firstOf 20 = .ok (.ireturn, 1) := by decide +kernel
def w_Co_firstOf_0 (C : zC) (n0 : Nat) (Q : Int32 → zS → Prop)  (a0 : Nat) (a1 : Int32) (κ : zS) : Prop :=
  (a1 < (0 : Int32) →
    Q (-1 : Int32) κ) ∧
  (¬ a1 < (0 : Int32) →
    ((10 : Int32) ≤ a1 →
      Q (-1 : Int32) κ) ∧
    (¬ (10 : Int32) ≤ a1 →
      inb a1 (zN κ (zR κ coFirstStatements a0)) ∧
      Q (zA κ (zR κ coFirstStatements a0) (a1).toNatClampNeg) κ))
theorem t_Co_firstOf_0 {C : zC} {n0 : Nat} {Q : Int32 → zS → Prop}   {a0 : Nat} {a1 : Int32} {κ : zS} (W : zW C n0 κ) (Ta0 : zT κ a0 = 5) (F : w_Co_firstOf_0 C n0 Q  a0 a1 κ) : zG C n0 0 mCo_firstOf 0 [some (.ref a0), some (.int a1)] [] κ (oI Q noX) := by
  unfold w_Co_firstOf_0 at F
  refine y_iln dX2_firstOf_0 rfl ?_
  refine y_i (a1 < (0 : Int32)) dX2_firstOf_1 (t := 19) rfl rfl (fun c9 => ?_) (fun c9 => ?_)
  · replace F := F.1 c9
    refine y_ic dX2_firstOf_19 zi_m1 ?_
    exact y_ri W dX2_firstOf_20 rfl in_nar F
  · replace F := F.2 c9
    refine y_iln dX2_firstOf_4 rfl ?_
    refine y_bi1 dX2_firstOf_5 zb_10 ?_
    refine y_ii ((10 : Int32) ≤ a1) dX2_firstOf_7 (t := 19) rfl rfl (fun c9 => ?_) (fun c9 => ?_)
    · replace F := F.1 c9
      refine y_ic dX2_firstOf_19 zi_m1 ?_
      exact y_ri W dX2_firstOf_20 rfl in_nar F
    · replace F := F.2 c9
      refine y_aln dX2_firstOf_10 rfl ?_
      refine gf_X2_21 W dX2_firstOf_11 rfl Ta0 ?_
      refine y_iln dX2_firstOf_14 rfl ?_
      refine y_ald dX2_firstOf_15 (ty_coFirstStatements W Ta0) F.1 ?_
      replace F := F.2
      refine y_goto dX2_firstOf_16 (t := 20) rfl ?_
      exact y_ri W dX2_firstOf_20 rfl in_nar F

theorem Co_firstOf_run {C : zC} {n0 : Nat} {Q : Int32 → zS → Prop} {a0 : Nat} {a1 : Int32} {κ : zS} (W : zW C n0 κ) (Ta0 : zT κ a0 = 5) (F : w_Co_firstOf_0 C (zn κ) Q a0 a1 κ) : zRun C 0 mCo_firstOf [.ref a0, .int a1] κ (oI Q noX) := z_run (m_ent _ 0) (t_Co_firstOf_0 (W.lo (Nat.le_trans W.1.2.1 W.1.2.2) (Nat.le_refl _)) Ta0 F)

theorem dX4_openCall_0 : decode cX4_openCall 0 = .ok (.aload_n 0, 1) := by decide +kernel
theorem dX4_openCall_1 : decode cX4_openCall 1 = .ok (.getfield 64, 3) := by decide +kernel
theorem dX4_openCall_4 : decode cX4_openCall 4 = .ok (.bipush 12, 2) := by decide +kernel
theorem dX4_openCall_6 : decode cX4_openCall 6 = .ok (.if_icmp .lt 9, 3) := by decide +kernel
theorem dX4_openCall_9 : decode cX4_openCall 9 = .ok (.aload_n 0, 1) := by decide +kernel
theorem dX4_openCall_10 : decode cX4_openCall 10 = .ok (.iconst 4, 1) := by decide +kernel
theorem dX4_openCall_11 : decode cX4_openCall 11 = .ok (.invokevirtual 154, 3) := by decide +kernel
theorem dX4_openCall_14 : decode cX4_openCall 14 = .ok (.return_, 1) := by decide +kernel
theorem dX4_openCall_15 : decode cX4_openCall 15 = .ok (.aload_n 0, 1) := by decide +kernel
theorem dX4_openCall_16 : decode cX4_openCall 16 = .ok (.dup, 1) := by decide +kernel
theorem dX4_openCall_17 : decode cX4_openCall 17 = .ok (.getfield 64, 3) := by decide +kernel
theorem dX4_openCall_20 : decode cX4_openCall 20 = .ok (.iconst 1, 1) := by decide +kernel
theorem dX4_openCall_21 : decode cX4_openCall 21 = .ok (.iadd, 1) := by decide +kernel
theorem dX4_openCall_22 : decode cX4_openCall 22 = .ok (.putfield 64, 3) := by decide +kernel
theorem dX4_openCall_25 : decode cX4_openCall 25 = .ok (.aload_n 0, 1) := by decide +kernel
theorem dX4_openCall_26 : decode cX4_openCall 26 = .ok (.dup, 1) := by decide +kernel
theorem dX4_openCall_27 : decode cX4_openCall 27 = .ok (.getfield 67, 3) := by decide +kernel
theorem dX4_openCall_30 : decode cX4_openCall 30 = .ok (.bipush 9, 2) := by decide +kernel
theorem dX4_openCall_32 : decode cX4_openCall 32 = .ok (.iadd, 1) := by decide +kernel
theorem dX4_openCall_33 : decode cX4_openCall 33 = .ok (.putfield 67, 3) := by decide +kernel
theorem dX4_openCall_36 : decode cX4_openCall 36 = .ok (.aload_n 0, 1) := by decide +kernel
theorem dX4_openCall_37 : decode cX4_openCall 37 = .ok (.getfield 15, 3) := by decide +kernel
theorem dX4_openCall_40 : decode cX4_openCall 40 = .ok (.aload_n 0, 1) := by decide +kernel
theorem dX4_openCall_41 : decode cX4_openCall 41 = .ok (.getfield 67, 3) := by decide +kernel
theorem dX4_openCall_44 : decode cX4_openCall 44 = .ok (.aload_n 0, 1) := by decide +kernel
theorem dX4_openCall_45 : decode cX4_openCall 45 = .ok (.getfield 67, 3) := by decide +kernel
theorem dX4_openCall_48 : decode cX4_openCall 48 = .ok (.bipush 9, 2) := by decide +kernel
theorem dX4_openCall_50 : decode cX4_openCall 50 = .ok (.iadd, 1) := by decide +kernel
theorem dX4_openCall_51 : decode cX4_openCall 51 = .ok (.iconst 0, 1) := by decide +kernel
theorem dX4_openCall_52 : decode cX4_openCall 52 = .ok (.invokestatic 157, 3) := by decide +kernel
theorem dX4_openCall_55 : decode cX4_openCall 55 = .ok (.iconst 0, 1) := by decide +kernel
theorem dX4_openCall_56 : decode cX4_openCall 56 = .ok (.istore_n 3, 1) := by decide +kernel
theorem dX4_openCall_57 : decode cX4_openCall 57 = .ok (.iload_n 3, 1) := by decide +kernel
theorem dX4_openCall_58 : decode cX4_openCall 58 = .ok (.iload_n 2, 1) := by decide +kernel
theorem dX4_openCall_59 : decode cX4_openCall 59 = .ok (.if_icmp .ge 33, 3) := by decide +kernel
theorem dX4_openCall_62 : decode cX4_openCall 62 = .ok (.iload_n 3, 1) := by decide +kernel
theorem dX4_openCall_63 : decode cX4_openCall 63 = .ok (.iconst 4, 1) := by decide +kernel
theorem dX4_openCall_64 : decode cX4_openCall 64 = .ok (.if_icmp .ge 28, 3) := by decide +kernel
theorem dX4_openCall_67 : decode cX4_openCall 67 = .ok (.aload_n 0, 1) := by decide +kernel
theorem dX4_openCall_68 : decode cX4_openCall 68 = .ok (.getfield 15, 3) := by decide +kernel
theorem dX4_openCall_71 : decode cX4_openCall 71 = .ok (.aload_n 0, 1) := by decide +kernel
theorem dX4_openCall_72 : decode cX4_openCall 72 = .ok (.getfield 67, 3) := by decide +kernel
theorem dX4_openCall_75 : decode cX4_openCall 75 = .ok (.iconst 1, 1) := by decide +kernel
theorem dX4_openCall_76 : decode cX4_openCall 76 = .ok (.iadd, 1) := by decide +kernel
theorem dX4_openCall_77 : decode cX4_openCall 77 = .ok (.iload_n 3, 1) := by decide +kernel
theorem dX4_openCall_78 : decode cX4_openCall 78 = .ok (.iadd, 1) := by decide +kernel
theorem dX4_openCall_79 : decode cX4_openCall 79 = .ok (.aload_n 0, 1) := by decide +kernel
theorem dX4_openCall_80 : decode cX4_openCall 80 = .ok (.getfield 22, 3) := by decide +kernel
theorem dX4_openCall_83 : decode cX4_openCall 83 = .ok (.iload_n 3, 1) := by decide +kernel
theorem dX4_openCall_84 : decode cX4_openCall 84 = .ok (.iaload, 1) := by decide +kernel
theorem dX4_openCall_85 : decode cX4_openCall 85 = .ok (.iastore, 1) := by decide +kernel
theorem dX4_openCall_86 : decode cX4_openCall 86 = .ok (.iinc 3 1, 3) := by decide +kernel
theorem dX4_openCall_89 : decode cX4_openCall 89 = .ok (.goto (-32), 3) := by decide +kernel
theorem dX4_openCall_92 : decode cX4_openCall 92 = .ok (.aload_n 0, 1) := by decide +kernel
theorem dX4_openCall_93 : decode cX4_openCall 93 = .ok (.aload_n 0, 1) := by decide +kernel
theorem dX4_openCall_94 : decode cX4_openCall 94 = .ok (.getfield 11, 3) := by decide +kernel
theorem dX4_openCall_97 : decode cX4_openCall 97 = .ok (.iload_n 1, 1) := by decide +kernel
theorem dX4_openCall_98 : decode cX4_openCall 98 = .ok (.invokevirtual 85, 3) := by decide +kernel
theorem dX4_openCall_101 : decode cX4_openCall 101 = .ok (.putfield 89, 3) := by decide +kernel
theorem dX4_openCall_104 : decode cX4_openCall 104 = .ok (.return_, 1) := by decide +kernel
def w_Ma_openCall_92 (C : zC) (n0 : Nat) (Q : zS → Prop)  (a0 : Nat) (a1 : Int32) (κ : zS) : Prop :=
  ∀ _ : zT κ (zR κ maCode a0) = 5,
  zRun C 0 mCo_firstOf [.ref (zR κ maCode a0), .int a1] κ (oI (fun r2 κ1 =>
    ∀ _ : zW C n0 κ1,
    ∀ _ : zM (zn κ) κ κ1,
    ∀ κ4, κ4 = ui κ1 maGoing a0 r2 →
    ∀ _ : zW C n0 κ4,
    Q κ4) noX)
theorem t_Ma_openCall_92 {C : zC} {n0 : Nat} {Q : zS → Prop}   {a0 : Nat} {a1 : Int32} {κ : zS} (W : zW C n0 κ) (Ta0 : zT κ a0 = 7) (F : w_Ma_openCall_92 C n0 Q  a0 a1 κ) : zG C n0 2 mMa_openCall 92 [some (.ref a0), some (.int a1), none, none] [] κ (oV Q noX) := by
  unfold w_Ma_openCall_92 at F
  refine y_aln dX4_openCall_92 rfl ?_
  refine y_aln dX4_openCall_93 rfl ?_
  refine gf_X4_11 W dX4_openCall_94 rfl Ta0 ?_
  refine y_iln dX4_openCall_97 rfl ?_
  replace F := F (ty_maCode W Ta0)
  refine k_X4_85 W dX4_openCall_98 rfl (Nat.le_of_ble_eq_true rfl) (Nat.le_of_ble_eq_true rfl) (Or.inl (ty_maCode W Ta0)) F (fun r2 κ1 Wκ1 Mκ1 F => ?_) (fun _ _ h9 => False.elim h9)
  replace F := F Wκ1 Mκ1
  have h5 := (ztm W Mκ1 Ta0)
  refine pf_X4_89 Wκ1 dX4_openCall_101 rfl (Or.inl h5) (fun κ4 eκ4 => ?_)
  replace F := F κ4 eκ4
  have Wκ4 : zW C n0 κ4 := zW_ui Wκ1 eκ4 (fun h => absurd h (by decide))
  have Mκ4 : zM (zn κ1) κ1 κ4 := by rw [eκ4]; exact zM.of rfl rfl rfl
  replace F := F Wκ4
  exact y_rv Wκ4 dX4_openCall_104 rfl F

def w_Ma_openCall_57 (C : zC) (n0 : Nat) (Q : zS → Prop)  (a0 : Nat) (a1 : Int32) (a2 : Int32) (a3 : Int32) (κ : zS) : Prop :=
  ∃ I : Nat → Nat → Int32 → Int32 → Int32 → zS → Prop, (∃ n, I n a0 a1 a2 a3 κ) ∧ ∀ n a0 a1 a2 a3 κ, zW C n0 κ → zT κ a0 = 7 → I n a0 a1 a2 a3 κ →
    (a2 ≤ a3 →
      w_Ma_openCall_92 C n0 Q  a0 a1 κ) ∧
    (¬ a2 ≤ a3 →
      ((4 : Int32) ≤ a3 →
        w_Ma_openCall_92 C n0 Q  a0 a1 κ) ∧
      (¬ (4 : Int32) ≤ a3 →
        inb a3 (zN κ (zR κ maWorked a0)) ∧
        inb (((zI κ maFrame a0) + (1 : Int32)) + a3) (zN κ (zR κ maMemory a0)) ∧
        ∀ κ1, κ1 = ua κ (zR κ maMemory a0) ((((zI κ maFrame a0) + (1 : Int32)) + a3)).toNatClampNeg (zA κ (zR κ maWorked a0) (a3).toNatClampNeg) →
        ∀ _ : zW C n0 κ1,
        ∀ v3_2 : Int32, v3_2 = a3 + (1 : Int32) →
        ∃ k < n, I k a0 a1 a2 v3_2 κ1))
theorem t_Ma_openCall_57 {C : zC} {n0 : Nat} {Q : zS → Prop}   {a0 : Nat} {a1 : Int32} {a2 : Int32} {a3 : Int32} {κ : zS} (W : zW C n0 κ) (Ta0 : zT κ a0 = 7) (F : w_Ma_openCall_57 C n0 Q  a0 a1 a2 a3 κ) : zG C n0 2 mMa_openCall 57 [some (.ref a0), some (.int a1), some (.int a2), some (.int a3)] [] κ (oV Q noX) := by
  obtain ⟨I, ⟨m0, hI0⟩, F0⟩ := F
  have key : ∀ n a0 a1 a2 a3 κ, zW C n0 κ → zT κ a0 = 7 → I n a0 a1 a2 a3 κ → zG C n0 2 mMa_openCall 57 [some (.ref a0), some (.int a1), some (.int a2), some (.int a3)] [] κ (oV Q noX) := by
    intro n
    induction n using Nat.strongRecOn with
    | _ n ih =>
      intro a0 a1 a2 a3 κ W Ta0 hI
      have F := F0 n a0 a1 a2 a3 κ W Ta0 hI
      clear hI hI0
      refine y_iln dX4_openCall_57 rfl ?_
      refine y_iln dX4_openCall_58 rfl ?_
      refine y_ii (a2 ≤ a3) dX4_openCall_59 (t := 92) rfl rfl (fun c9 => ?_) (fun c9 => ?_)
      · replace F := F.1 c9
        exact y_k (t_Ma_openCall_92  W Ta0 F) ⟨rfl, rfl, trivial⟩
      · replace F := F.2 c9
        refine y_iln dX4_openCall_62 rfl ?_
        refine y_ic dX4_openCall_63 zi_4 ?_
        refine y_ii ((4 : Int32) ≤ a3) dX4_openCall_64 (t := 92) rfl rfl (fun c9 => ?_) (fun c9 => ?_)
        · replace F := F.1 c9
          exact y_k (t_Ma_openCall_92  W Ta0 F) ⟨rfl, rfl, trivial⟩
        · replace F := F.2 c9
          refine y_aln dX4_openCall_67 rfl ?_
          refine gf_X4_15 W dX4_openCall_68 rfl Ta0 ?_
          refine y_aln dX4_openCall_71 rfl ?_
          refine gf_X4_67 dX4_openCall_72 rfl (Or.inl Ta0) ?_
          refine y_ic dX4_openCall_75 zi_1 ?_
          refine y_iadd dX4_openCall_76 ?_
          refine y_iln dX4_openCall_77 rfl ?_
          refine y_iadd dX4_openCall_78 ?_
          refine y_aln dX4_openCall_79 rfl ?_
          refine gf_X4_22 W dX4_openCall_80 rfl Ta0 ?_
          refine y_iln dX4_openCall_83 rfl ?_
          refine y_ald dX4_openCall_84 (ty_maWorked W Ta0) F.1 ?_
          replace F := F.2
          refine y_ast W dX4_openCall_85 (ty_maMemory W Ta0) F.1 (fun κ1 eκ1 => ?_)
          replace F := F.2 κ1 eκ1
          have Wκ1 : zW C n0 κ1 := zW_ua W eκ1 (fun h => absurd (h.symm.trans (ty_maMemory W Ta0)) (by decide)) (fun h => absurd (h.symm.trans (ty_maMemory W Ta0)) (by decide))
          have Mκ1 : zM (zn κ) κ κ1 := by rw [eκ1]; exact zM.of rfl rfl rfl
          replace F := F Wκ1
          refine y_incb dX4_openCall_86 zi_1 rfl (Nat.le_of_ble_eq_true rfl) (fun v3_2 ev3_2 => ?_)
          replace F := F v3_2 ev3_2
          refine y_goto dX4_openCall_89 (t := 57) rfl ?_
          have h3 := (ztm W Mκ1 Ta0)
          obtain ⟨k, hk, hI⟩ := F
          exact y_k (ih k hk _ _ _ _ _ Wκ1 h3 hI) ⟨rfl, rfl, rfl, rfl, trivial⟩
  exact key m0 a0 a1 a2 a3 κ W Ta0 hI0

def w_Ma_openCall_0 (C : zC) (n0 : Nat) (Q : zS → Prop)  (a0 : Nat) (a1 : Int32) (a2 : Int32) (κ : zS) : Prop :=
  ((zI κ maOpen a0) < (12 : Int32) →
    ∀ κ1, κ1 = ui κ maOpen a0 ((zI κ maOpen a0) + (1 : Int32)) →
    ∀ _ : zW C n0 κ1,
    ∀ κ3, κ3 = ui κ1 maFrame a0 ((zI κ1 maFrame a0) + (9 : Int32)) →
    ∀ _ : zW C n0 κ3,
    ∀ _ : zT κ3 (zR κ3 maMemory a0) = 20,
    zRun C 1 mAr_fill4 [.ref (zR κ3 maMemory a0), .int (zI κ3 maFrame a0), .int ((zI κ3 maFrame a0) + (9 : Int32)), .int (0 : Int32)] κ3 (oV (fun κ5 =>
      ∀ _ : zW C n0 κ5,
      ∀ _ : zM (zn κ3) κ3 κ5,
      w_Ma_openCall_57 C n0 Q  a0 a1 a2 (0 : Int32) κ5) noX)) ∧
  (¬ (zI κ maOpen a0) < (12 : Int32) →
    ∀ _ : zT κ a0 = 7,
    zRun C 0 mMa_fail [.ref a0, .int (4 : Int32)] κ (oV (fun κ9 =>
      ∀ _ : zW C n0 κ9,
      ∀ _ : zM (zn κ) κ κ9,
      Q κ9) noX))
theorem t_Ma_openCall_0 {C : zC} {n0 : Nat} {Q : zS → Prop}   {a0 : Nat} {a1 : Int32} {a2 : Int32} {κ : zS} (W : zW C n0 κ) (Ta0 : zT κ a0 = 7) (F : w_Ma_openCall_0 C n0 Q  a0 a1 a2 κ) : zG C n0 2 mMa_openCall 0 [some (.ref a0), some (.int a1), some (.int a2), none] [] κ (oV Q noX) := by
  unfold w_Ma_openCall_0 at F
  refine y_aln dX4_openCall_0 rfl ?_
  refine gf_X4_64 dX4_openCall_1 rfl (Or.inl Ta0) ?_
  refine y_bi1 dX4_openCall_4 zb_12 ?_
  refine y_ii ((zI κ maOpen a0) < (12 : Int32)) dX4_openCall_6 (t := 15) rfl rfl (fun c9 => ?_) (fun c9 => ?_)
  · replace F := F.1 c9
    refine y_aln dX4_openCall_15 rfl ?_
    refine y_dup dX4_openCall_16 rfl ?_
    refine gf_X4_64 dX4_openCall_17 rfl (Or.inl Ta0) ?_
    refine y_ic dX4_openCall_20 zi_1 ?_
    refine y_iadd dX4_openCall_21 ?_
    refine pf_X4_64 W dX4_openCall_22 rfl (Or.inl Ta0) (fun κ1 eκ1 => ?_)
    replace F := F κ1 eκ1
    have Wκ1 : zW C n0 κ1 := zW_ui W eκ1 (fun h => absurd h (by decide))
    have Mκ1 : zM (zn κ) κ κ1 := by rw [eκ1]; exact zM.of rfl rfl rfl
    replace F := F Wκ1
    refine y_aln dX4_openCall_25 rfl ?_
    refine y_dup dX4_openCall_26 rfl ?_
    have h2 := (ztm W Mκ1 Ta0)
    refine gf_X4_67 dX4_openCall_27 rfl (Or.inl h2) ?_
    refine y_bi1 dX4_openCall_30 zb_9 ?_
    refine y_iadd dX4_openCall_32 ?_
    refine pf_X4_67 Wκ1 dX4_openCall_33 rfl (Or.inl h2) (fun κ3 eκ3 => ?_)
    replace F := F κ3 eκ3
    have Wκ3 : zW C n0 κ3 := zW_ui Wκ1 eκ3 (fun h => absurd h (by decide))
    have Mκ3 : zM (zn κ1) κ1 κ3 := by rw [eκ3]; exact zM.of rfl rfl rfl
    replace F := F Wκ3
    refine y_aln dX4_openCall_36 rfl ?_
    have h4 := (ztm Wκ1 Mκ3 h2)
    refine gf_X4_15 Wκ3 dX4_openCall_37 rfl h4 ?_
    refine y_aln dX4_openCall_40 rfl ?_
    refine gf_X4_67 dX4_openCall_41 rfl (Or.inl h4) ?_
    refine y_aln dX4_openCall_44 rfl ?_
    refine gf_X4_67 dX4_openCall_45 rfl (Or.inl h4) ?_
    refine y_bi1 dX4_openCall_48 zb_9 ?_
    refine y_iadd dX4_openCall_50 ?_
    refine y_ic dX4_openCall_51 zi_0 ?_
    replace F := F (ty_maMemory Wκ3 h4)
    refine k_X4_157 Wκ3 dX4_openCall_52 rfl (Nat.le_of_ble_eq_true rfl) (Nat.le_of_ble_eq_true rfl)  F (fun  κ5 Wκ5 Mκ5 F => ?_) (fun _ _ h9 => False.elim h9)
    replace F := F Wκ5 Mκ5
    refine y_ic dX4_openCall_55 zi_0 ?_
    refine y_isn dX4_openCall_56 (Nat.le_of_ble_eq_true rfl) rfl ?_
    have h8 := (ztm Wκ3 Mκ5 h4)
    exact y_k (t_Ma_openCall_57  Wκ5 h8 F) ⟨rfl, rfl, rfl, rfl, trivial⟩
  · replace F := F.2 c9
    refine y_aln dX4_openCall_9 rfl ?_
    refine y_ic dX4_openCall_10 zi_4 ?_
    replace F := F Ta0
    refine k_X4_154 W dX4_openCall_11 rfl (Nat.le_of_ble_eq_true rfl) (Nat.le_of_ble_eq_true rfl) (Or.inl Ta0) F (fun  κ9 Wκ9 Mκ9 F => ?_) (fun _ _ h9 => False.elim h9)
    replace F := F Wκ9 Mκ9
    exact y_rv Wκ9 dX4_openCall_14 rfl F

theorem Ma_openCall_run {C : zC} {n0 : Nat} {Q : zS → Prop} {a0 : Nat} {a1 : Int32} {a2 : Int32} {κ : zS} (W : zW C n0 κ) (Ta0 : zT κ a0 = 7) (F : w_Ma_openCall_0 C (zn κ) Q a0 a1 a2 κ) : zRun C 2 mMa_openCall [.ref a0, .int a1, .int a2] κ (oV Q noX) := z_run (m_ent _ 1) (t_Ma_openCall_0 (W.lo (Nat.le_trans W.1.2.1 W.1.2.2) (Nat.le_refl _)) Ta0 F)

theorem dX4_put_0 : decode cX4_put 0 = .ok (.iload_n 1, 1) := by decide +kernel
theorem dX4_put_1 : decode cX4_put 1 = .ok (.ifCond .lt 19, 3) := by decide +kernel
theorem dX4_put_4 : decode cX4_put 4 = .ok (.iload_n 1, 1) := by decide +kernel
theorem dX4_put_5 : decode cX4_put 5 = .ok (.aload_n 0, 1) := by decide +kernel
theorem dX4_put_6 : decode cX4_put 6 = .ok (.getfield 15, 3) := by decide +kernel
theorem dX4_put_9 : decode cX4_put 9 = .ok (.arraylength, 1) := by decide +kernel
theorem dX4_put_10 : decode cX4_put 10 = .ok (.if_icmp .ge 10, 3) := by decide +kernel
theorem dX4_put_13 : decode cX4_put 13 = .ok (.aload_n 0, 1) := by decide +kernel
theorem dX4_put_14 : decode cX4_put 14 = .ok (.getfield 15, 3) := by decide +kernel
theorem dX4_put_17 : decode cX4_put 17 = .ok (.iload_n 1, 1) := by decide +kernel
theorem dX4_put_18 : decode cX4_put 18 = .ok (.iload_n 2, 1) := by decide +kernel
theorem dX4_put_19 : decode cX4_put 19 = .ok (.iastore, 1) := by decide +kernel
theorem dX4_put_20 : decode cX4_put 20 = .ok (.return_, 1) := by decide +kernel
def w_Ma_put_0 (C : zC) (n0 : Nat) (Q : zS → Prop)  (a0 : Nat) (a1 : Int32) (a2 : Int32) (κ : zS) : Prop :=
  (a1 < (0 : Int32) →
    Q κ) ∧
  (¬ a1 < (0 : Int32) →
    ((Int32.ofNat (zN κ (zR κ maMemory a0))) ≤ a1 →
      Q κ) ∧
    (¬ (Int32.ofNat (zN κ (zR κ maMemory a0))) ≤ a1 →
      inb a1 (zN κ (zR κ maMemory a0)) ∧
      ∀ κ1, κ1 = ua κ (zR κ maMemory a0) (a1).toNatClampNeg a2 →
      ∀ _ : zW C n0 κ1,
      Q κ1))
theorem t_Ma_put_0 {C : zC} {n0 : Nat} {Q : zS → Prop}   {a0 : Nat} {a1 : Int32} {a2 : Int32} {κ : zS} (W : zW C n0 κ) (Ta0 : zT κ a0 = 7) (F : w_Ma_put_0 C n0 Q  a0 a1 a2 κ) : zG C n0 0 mMa_put 0 [some (.ref a0), some (.int a1), some (.int a2)] [] κ (oV Q noX) := by
  unfold w_Ma_put_0 at F
  refine y_iln dX4_put_0 rfl ?_
  refine y_i (a1 < (0 : Int32)) dX4_put_1 (t := 20) rfl rfl (fun c9 => ?_) (fun c9 => ?_)
  · replace F := F.1 c9
    exact y_rv W dX4_put_20 rfl F
  · replace F := F.2 c9
    refine y_iln dX4_put_4 rfl ?_
    refine y_aln dX4_put_5 rfl ?_
    refine gf_X4_15 W dX4_put_6 rfl Ta0 ?_
    refine y_alen (t := 0) dX4_put_9 (ty_maMemory W Ta0) (by decide) ?_
    refine y_ii ((Int32.ofNat (zN κ (zR κ maMemory a0))) ≤ a1) dX4_put_10 (t := 20) rfl rfl (fun c9 => ?_) (fun c9 => ?_)
    · replace F := F.1 c9
      exact y_rv W dX4_put_20 rfl F
    · replace F := F.2 c9
      refine y_aln dX4_put_13 rfl ?_
      refine gf_X4_15 W dX4_put_14 rfl Ta0 ?_
      refine y_iln dX4_put_17 rfl ?_
      refine y_iln dX4_put_18 rfl ?_
      refine y_ast W dX4_put_19 (ty_maMemory W Ta0) F.1 (fun κ1 eκ1 => ?_)
      replace F := F.2 κ1 eκ1
      have Wκ1 : zW C n0 κ1 := zW_ua W eκ1 (fun h => absurd (h.symm.trans (ty_maMemory W Ta0)) (by decide)) (fun h => absurd (h.symm.trans (ty_maMemory W Ta0)) (by decide))
      have Mκ1 : zM (zn κ) κ κ1 := by rw [eκ1]; exact zM.of rfl rfl rfl
      replace F := F Wκ1
      exact y_rv Wκ1 dX4_put_20 rfl F

theorem Ma_put_run {C : zC} {n0 : Nat} {Q : zS → Prop} {a0 : Nat} {a1 : Int32} {a2 : Int32} {κ : zS} (W : zW C n0 κ) (Ta0 : zT κ a0 = 7) (F : w_Ma_put_0 C (zn κ) Q a0 a1 a2 κ) : zRun C 0 mMa_put [.ref a0, .int a1, .int a2] κ (oV Q noX) := z_run (m_ent _ 0) (t_Ma_put_0 (W.lo (Nat.le_trans W.1.2.1 W.1.2.2) (Nat.le_refl _)) Ta0 F)

theorem dX4_spreadOut_0 : decode cX4_spreadOut 0 = .ok (.iload_n 2, 1) := by decide +kernel
theorem dX4_spreadOut_1 : decode cX4_spreadOut 1 = .ok (.iconst 1, 1) := by decide +kernel
theorem dX4_spreadOut_2 : decode cX4_spreadOut 2 = .ok (.if_icmp .ne 71, 3) := by decide +kernel
theorem dX4_spreadOut_5 : decode cX4_spreadOut 5 = .ok (.aload_n 0, 1) := by decide +kernel
theorem dX4_spreadOut_6 : decode cX4_spreadOut 6 = .ok (.aload_n 0, 1) := by decide +kernel
theorem dX4_spreadOut_7 : decode cX4_spreadOut 7 = .ok (.getfield 22, 3) := by decide +kernel
theorem dX4_spreadOut_10 : decode cX4_spreadOut 10 = .ok (.iconst 0, 1) := by decide +kernel
theorem dX4_spreadOut_11 : decode cX4_spreadOut 11 = .ok (.iaload, 1) := by decide +kernel
theorem dX4_spreadOut_12 : decode cX4_spreadOut 12 = .ok (.iconst 1, 1) := by decide +kernel
theorem dX4_spreadOut_13 : decode cX4_spreadOut 13 = .ok (.if_icmp .lt 23, 3) := by decide +kernel
theorem dX4_spreadOut_16 : decode cX4_spreadOut 16 = .ok (.aload_n 0, 1) := by decide +kernel
theorem dX4_spreadOut_17 : decode cX4_spreadOut 17 = .ok (.getfield 22, 3) := by decide +kernel
theorem dX4_spreadOut_20 : decode cX4_spreadOut 20 = .ok (.iconst 0, 1) := by decide +kernel
theorem dX4_spreadOut_21 : decode cX4_spreadOut 21 = .ok (.iaload, 1) := by decide +kernel
theorem dX4_spreadOut_22 : decode cX4_spreadOut 22 = .ok (.bipush 64, 2) := by decide +kernel
theorem dX4_spreadOut_24 : decode cX4_spreadOut 24 = .ok (.if_icmp .gt 12, 3) := by decide +kernel
theorem dX4_spreadOut_27 : decode cX4_spreadOut 27 = .ok (.aload_n 0, 1) := by decide +kernel
theorem dX4_spreadOut_28 : decode cX4_spreadOut 28 = .ok (.getfield 22, 3) := by decide +kernel
theorem dX4_spreadOut_31 : decode cX4_spreadOut 31 = .ok (.iconst 0, 1) := by decide +kernel
theorem dX4_spreadOut_32 : decode cX4_spreadOut 32 = .ok (.iaload, 1) := by decide +kernel
theorem dX4_spreadOut_33 : decode cX4_spreadOut 33 = .ok (.goto 4, 3) := by decide +kernel
theorem dX4_spreadOut_36 : decode cX4_spreadOut 36 = .ok (.iconst 0, 1) := by decide +kernel
theorem dX4_spreadOut_37 : decode cX4_spreadOut 37 = .ok (.putfield 163, 3) := by decide +kernel
theorem dX4_spreadOut_40 : decode cX4_spreadOut 40 = .ok (.iconst 0, 1) := by decide +kernel
theorem dX4_spreadOut_41 : decode cX4_spreadOut 41 = .ok (.istore_n 3, 1) := by decide +kernel
theorem dX4_spreadOut_42 : decode cX4_spreadOut 42 = .ok (.iload_n 3, 1) := by decide +kernel
theorem dX4_spreadOut_43 : decode cX4_spreadOut 43 = .ok (.aload_n 0, 1) := by decide +kernel
theorem dX4_spreadOut_44 : decode cX4_spreadOut 44 = .ok (.getfield 163, 3) := by decide +kernel
theorem dX4_spreadOut_47 : decode cX4_spreadOut 47 = .ok (.if_icmp .ge 23, 3) := by decide +kernel
theorem dX4_spreadOut_50 : decode cX4_spreadOut 50 = .ok (.aload_n 0, 1) := by decide +kernel
theorem dX4_spreadOut_51 : decode cX4_spreadOut 51 = .ok (.getfield 25, 3) := by decide +kernel
theorem dX4_spreadOut_54 : decode cX4_spreadOut 54 = .ok (.iload_n 3, 1) := by decide +kernel
theorem dX4_spreadOut_55 : decode cX4_spreadOut 55 = .ok (.iload_n 3, 1) := by decide +kernel
theorem dX4_spreadOut_56 : decode cX4_spreadOut 56 = .ok (.iastore, 1) := by decide +kernel
theorem dX4_spreadOut_57 : decode cX4_spreadOut 57 = .ok (.aload_n 0, 1) := by decide +kernel
theorem dX4_spreadOut_58 : decode cX4_spreadOut 58 = .ok (.getfield 28, 3) := by decide +kernel
theorem dX4_spreadOut_61 : decode cX4_spreadOut 61 = .ok (.iload_n 3, 1) := by decide +kernel
theorem dX4_spreadOut_62 : decode cX4_spreadOut 62 = .ok (.iconst 1, 1) := by decide +kernel
theorem dX4_spreadOut_63 : decode cX4_spreadOut 63 = .ok (.iastore, 1) := by decide +kernel
theorem dX4_spreadOut_64 : decode cX4_spreadOut 64 = .ok (.iinc 3 1, 3) := by decide +kernel
theorem dX4_spreadOut_67 : decode cX4_spreadOut 67 = .ok (.goto (-25), 3) := by decide +kernel
theorem dX4_spreadOut_70 : decode cX4_spreadOut 70 = .ok (.goto 120, 3) := by decide +kernel
theorem dX4_spreadOut_73 : decode cX4_spreadOut 73 = .ok (.iload_n 2, 1) := by decide +kernel
theorem dX4_spreadOut_74 : decode cX4_spreadOut 74 = .ok (.iconst 2, 1) := by decide +kernel
theorem dX4_spreadOut_75 : decode cX4_spreadOut 75 = .ok (.if_icmp .ne 49, 3) := by decide +kernel
theorem dX4_spreadOut_78 : decode cX4_spreadOut 78 = .ok (.aload_n 0, 1) := by decide +kernel
theorem dX4_spreadOut_79 : decode cX4_spreadOut 79 = .ok (.iconst 2, 1) := by decide +kernel
theorem dX4_spreadOut_80 : decode cX4_spreadOut 80 = .ok (.putfield 163, 3) := by decide +kernel
theorem dX4_spreadOut_83 : decode cX4_spreadOut 83 = .ok (.aload_n 0, 1) := by decide +kernel
theorem dX4_spreadOut_84 : decode cX4_spreadOut 84 = .ok (.getfield 25, 3) := by decide +kernel
theorem dX4_spreadOut_87 : decode cX4_spreadOut 87 = .ok (.iconst 0, 1) := by decide +kernel
theorem dX4_spreadOut_88 : decode cX4_spreadOut 88 = .ok (.iconst 1, 1) := by decide +kernel
theorem dX4_spreadOut_89 : decode cX4_spreadOut 89 = .ok (.iastore, 1) := by decide +kernel
theorem dX4_spreadOut_90 : decode cX4_spreadOut 90 = .ok (.aload_n 0, 1) := by decide +kernel
theorem dX4_spreadOut_91 : decode cX4_spreadOut 91 = .ok (.getfield 28, 3) := by decide +kernel
theorem dX4_spreadOut_94 : decode cX4_spreadOut 94 = .ok (.iconst 0, 1) := by decide +kernel
theorem dX4_spreadOut_95 : decode cX4_spreadOut 95 = .ok (.aload_n 0, 1) := by decide +kernel
theorem dX4_spreadOut_96 : decode cX4_spreadOut 96 = .ok (.getfield 22, 3) := by decide +kernel
theorem dX4_spreadOut_99 : decode cX4_spreadOut 99 = .ok (.iconst 0, 1) := by decide +kernel
theorem dX4_spreadOut_100 : decode cX4_spreadOut 100 = .ok (.iaload, 1) := by decide +kernel
theorem dX4_spreadOut_101 : decode cX4_spreadOut 101 = .ok (.iastore, 1) := by decide +kernel
theorem dX4_spreadOut_102 : decode cX4_spreadOut 102 = .ok (.aload_n 0, 1) := by decide +kernel
theorem dX4_spreadOut_103 : decode cX4_spreadOut 103 = .ok (.getfield 25, 3) := by decide +kernel
theorem dX4_spreadOut_106 : decode cX4_spreadOut 106 = .ok (.iconst 1, 1) := by decide +kernel
theorem dX4_spreadOut_107 : decode cX4_spreadOut 107 = .ok (.iconst 0, 1) := by decide +kernel
theorem dX4_spreadOut_108 : decode cX4_spreadOut 108 = .ok (.iastore, 1) := by decide +kernel
theorem dX4_spreadOut_109 : decode cX4_spreadOut 109 = .ok (.aload_n 0, 1) := by decide +kernel
theorem dX4_spreadOut_110 : decode cX4_spreadOut 110 = .ok (.getfield 28, 3) := by decide +kernel
theorem dX4_spreadOut_113 : decode cX4_spreadOut 113 = .ok (.iconst 1, 1) := by decide +kernel
theorem dX4_spreadOut_114 : decode cX4_spreadOut 114 = .ok (.aload_n 0, 1) := by decide +kernel
theorem dX4_spreadOut_115 : decode cX4_spreadOut 115 = .ok (.getfield 22, 3) := by decide +kernel
theorem dX4_spreadOut_118 : decode cX4_spreadOut 118 = .ok (.iconst 1, 1) := by decide +kernel
theorem dX4_spreadOut_119 : decode cX4_spreadOut 119 = .ok (.iaload, 1) := by decide +kernel
theorem dX4_spreadOut_120 : decode cX4_spreadOut 120 = .ok (.iastore, 1) := by decide +kernel
theorem dX4_spreadOut_121 : decode cX4_spreadOut 121 = .ok (.goto 69, 3) := by decide +kernel
theorem dX4_spreadOut_124 : decode cX4_spreadOut 124 = .ok (.aload_n 0, 1) := by decide +kernel
theorem dX4_spreadOut_125 : decode cX4_spreadOut 125 = .ok (.aload_n 0, 1) := by decide +kernel
theorem dX4_spreadOut_126 : decode cX4_spreadOut 126 = .ok (.getfield 11, 3) := by decide +kernel
theorem dX4_spreadOut_129 : decode cX4_spreadOut 129 = .ok (.iload_n 1, 1) := by decide +kernel
theorem dX4_spreadOut_130 : decode cX4_spreadOut 130 = .ok (.iconst 4, 1) := by decide +kernel
theorem dX4_spreadOut_131 : decode cX4_spreadOut 131 = .ok (.invokevirtual 110, 3) := by decide +kernel
theorem dX4_spreadOut_134 : decode cX4_spreadOut 134 = .ok (.iconst 2, 1) := by decide +kernel
theorem dX4_spreadOut_135 : decode cX4_spreadOut 135 = .ok (.idiv, 1) := by decide +kernel
theorem dX4_spreadOut_136 : decode cX4_spreadOut 136 = .ok (.bipush 8, 2) := by decide +kernel
theorem dX4_spreadOut_138 : decode cX4_spreadOut 138 = .ok (.invokestatic 37, 3) := by decide +kernel
theorem dX4_spreadOut_141 : decode cX4_spreadOut 141 = .ok (.putfield 163, 3) := by decide +kernel
theorem dX4_spreadOut_144 : decode cX4_spreadOut 144 = .ok (.iconst 0, 1) := by decide +kernel
theorem dX4_spreadOut_145 : decode cX4_spreadOut 145 = .ok (.istore_n 3, 1) := by decide +kernel
theorem dX4_spreadOut_146 : decode cX4_spreadOut 146 = .ok (.iload_n 3, 1) := by decide +kernel
theorem dX4_spreadOut_147 : decode cX4_spreadOut 147 = .ok (.aload_n 0, 1) := by decide +kernel
theorem dX4_spreadOut_148 : decode cX4_spreadOut 148 = .ok (.getfield 163, 3) := by decide +kernel
theorem dX4_spreadOut_151 : decode cX4_spreadOut 151 = .ok (.if_icmp .ge 39, 3) := by decide +kernel
theorem dX4_spreadOut_154 : decode cX4_spreadOut 154 = .ok (.aload_n 0, 1) := by decide +kernel
theorem dX4_spreadOut_155 : decode cX4_spreadOut 155 = .ok (.getfield 25, 3) := by decide +kernel
theorem dX4_spreadOut_158 : decode cX4_spreadOut 158 = .ok (.iload_n 3, 1) := by decide +kernel
theorem dX4_spreadOut_159 : decode cX4_spreadOut 159 = .ok (.aload_n 0, 1) := by decide +kernel
theorem dX4_spreadOut_160 : decode cX4_spreadOut 160 = .ok (.getfield 22, 3) := by decide +kernel
theorem dX4_spreadOut_163 : decode cX4_spreadOut 163 = .ok (.iconst 2, 1) := by decide +kernel
theorem dX4_spreadOut_164 : decode cX4_spreadOut 164 = .ok (.iload_n 3, 1) := by decide +kernel
theorem dX4_spreadOut_165 : decode cX4_spreadOut 165 = .ok (.imul, 1) := by decide +kernel
theorem dX4_spreadOut_166 : decode cX4_spreadOut 166 = .ok (.iaload, 1) := by decide +kernel
theorem dX4_spreadOut_167 : decode cX4_spreadOut 167 = .ok (.iastore, 1) := by decide +kernel
theorem dX4_spreadOut_168 : decode cX4_spreadOut 168 = .ok (.aload_n 0, 1) := by decide +kernel
theorem dX4_spreadOut_169 : decode cX4_spreadOut 169 = .ok (.getfield 28, 3) := by decide +kernel
theorem dX4_spreadOut_172 : decode cX4_spreadOut 172 = .ok (.iload_n 3, 1) := by decide +kernel
theorem dX4_spreadOut_173 : decode cX4_spreadOut 173 = .ok (.aload_n 0, 1) := by decide +kernel
theorem dX4_spreadOut_174 : decode cX4_spreadOut 174 = .ok (.getfield 22, 3) := by decide +kernel
theorem dX4_spreadOut_177 : decode cX4_spreadOut 177 = .ok (.iconst 2, 1) := by decide +kernel
theorem dX4_spreadOut_178 : decode cX4_spreadOut 178 = .ok (.iload_n 3, 1) := by decide +kernel
theorem dX4_spreadOut_179 : decode cX4_spreadOut 179 = .ok (.imul, 1) := by decide +kernel
theorem dX4_spreadOut_180 : decode cX4_spreadOut 180 = .ok (.iconst 1, 1) := by decide +kernel
theorem dX4_spreadOut_181 : decode cX4_spreadOut 181 = .ok (.iadd, 1) := by decide +kernel
theorem dX4_spreadOut_182 : decode cX4_spreadOut 182 = .ok (.iaload, 1) := by decide +kernel
theorem dX4_spreadOut_183 : decode cX4_spreadOut 183 = .ok (.iastore, 1) := by decide +kernel
theorem dX4_spreadOut_184 : decode cX4_spreadOut 184 = .ok (.iinc 3 1, 3) := by decide +kernel
theorem dX4_spreadOut_187 : decode cX4_spreadOut 187 = .ok (.goto (-41), 3) := by decide +kernel
theorem dX4_spreadOut_190 : decode cX4_spreadOut 190 = .ok (.aload_n 0, 1) := by decide +kernel
theorem dX4_spreadOut_191 : decode cX4_spreadOut 191 = .ok (.iconst 0, 1) := by decide +kernel
theorem dX4_spreadOut_192 : decode cX4_spreadOut 192 = .ok (.putfield 166, 3) := by decide +kernel
theorem dX4_spreadOut_195 : decode cX4_spreadOut 195 = .ok (.iconst 1, 1) := by decide +kernel
theorem dX4_spreadOut_196 : decode cX4_spreadOut 196 = .ok (.istore_n 3, 1) := by decide +kernel
theorem dX4_spreadOut_197 : decode cX4_spreadOut 197 = .ok (.iconst 0, 1) := by decide +kernel
theorem dX4_spreadOut_198 : decode cX4_spreadOut 198 = .ok (.istore 4, 2) := by decide +kernel
theorem dX4_spreadOut_200 : decode cX4_spreadOut 200 = .ok (.iload 4, 2) := by decide +kernel
theorem dX4_spreadOut_202 : decode cX4_spreadOut 202 = .ok (.aload_n 0, 1) := by decide +kernel
theorem dX4_spreadOut_203 : decode cX4_spreadOut 203 = .ok (.getfield 163, 3) := by decide +kernel
theorem dX4_spreadOut_206 : decode cX4_spreadOut 206 = .ok (.if_icmp .ge 57, 3) := by decide +kernel
theorem dX4_spreadOut_209 : decode cX4_spreadOut 209 = .ok (.iload_n 3, 1) := by decide +kernel
theorem dX4_spreadOut_210 : decode cX4_spreadOut 210 = .ok (.ifCond .eq 29, 3) := by decide +kernel
theorem dX4_spreadOut_213 : decode cX4_spreadOut 213 = .ok (.aload_n 0, 1) := by decide +kernel
theorem dX4_spreadOut_214 : decode cX4_spreadOut 214 = .ok (.getfield 28, 3) := by decide +kernel
theorem dX4_spreadOut_217 : decode cX4_spreadOut 217 = .ok (.iload 4, 2) := by decide +kernel
theorem dX4_spreadOut_219 : decode cX4_spreadOut 219 = .ok (.iaload, 1) := by decide +kernel
theorem dX4_spreadOut_220 : decode cX4_spreadOut 220 = .ok (.ifCond .lt 19, 3) := by decide +kernel
theorem dX4_spreadOut_223 : decode cX4_spreadOut 223 = .ok (.aload_n 0, 1) := by decide +kernel
theorem dX4_spreadOut_224 : decode cX4_spreadOut 224 = .ok (.getfield 28, 3) := by decide +kernel
theorem dX4_spreadOut_227 : decode cX4_spreadOut 227 = .ok (.iload 4, 2) := by decide +kernel
theorem dX4_spreadOut_229 : decode cX4_spreadOut 229 = .ok (.iaload, 1) := by decide +kernel
theorem dX4_spreadOut_230 : decode cX4_spreadOut 230 = .ok (.ldc 169, 2) := by decide +kernel
theorem dX4_spreadOut_232 : decode cX4_spreadOut 232 = .ok (.if_icmp .gt 7, 3) := by decide +kernel
theorem dX4_spreadOut_235 : decode cX4_spreadOut 235 = .ok (.iconst 1, 1) := by decide +kernel
theorem dX4_spreadOut_236 : decode cX4_spreadOut 236 = .ok (.goto 4, 3) := by decide +kernel
theorem dX4_spreadOut_239 : decode cX4_spreadOut 239 = .ok (.iconst 0, 1) := by decide +kernel
theorem dX4_spreadOut_240 : decode cX4_spreadOut 240 = .ok (.istore_n 3, 1) := by decide +kernel
theorem dX4_spreadOut_241 : decode cX4_spreadOut 241 = .ok (.aload_n 0, 1) := by decide +kernel
theorem dX4_spreadOut_242 : decode cX4_spreadOut 242 = .ok (.dup, 1) := by decide +kernel
theorem dX4_spreadOut_243 : decode cX4_spreadOut 243 = .ok (.getfield 166, 3) := by decide +kernel
theorem dX4_spreadOut_246 : decode cX4_spreadOut 246 = .ok (.aload_n 0, 1) := by decide +kernel
theorem dX4_spreadOut_247 : decode cX4_spreadOut 247 = .ok (.getfield 28, 3) := by decide +kernel
theorem dX4_spreadOut_250 : decode cX4_spreadOut 250 = .ok (.iload 4, 2) := by decide +kernel
theorem dX4_spreadOut_252 : decode cX4_spreadOut 252 = .ok (.iaload, 1) := by decide +kernel
theorem dX4_spreadOut_253 : decode cX4_spreadOut 253 = .ok (.iadd, 1) := by decide +kernel
theorem dX4_spreadOut_254 : decode cX4_spreadOut 254 = .ok (.putfield 166, 3) := by decide +kernel
theorem dX4_spreadOut_257 : decode cX4_spreadOut 257 = .ok (.iinc 4 1, 3) := by decide +kernel
theorem dX4_spreadOut_260 : decode cX4_spreadOut 260 = .ok (.goto (-60), 3) := by decide +kernel
theorem dX4_spreadOut_263 : decode cX4_spreadOut 263 = .ok (.iload_n 3, 1) := by decide +kernel
theorem dX4_spreadOut_264 : decode cX4_spreadOut 264 = .ok (.ifCond .eq 18, 3) := by decide +kernel
theorem dX4_spreadOut_267 : decode cX4_spreadOut 267 = .ok (.aload_n 0, 1) := by decide +kernel
theorem dX4_spreadOut_268 : decode cX4_spreadOut 268 = .ok (.getfield 166, 3) := by decide +kernel
theorem dX4_spreadOut_271 : decode cX4_spreadOut 271 = .ok (.ifCond .le 11, 3) := by decide +kernel
theorem dX4_spreadOut_274 : decode cX4_spreadOut 274 = .ok (.aload_n 0, 1) := by decide +kernel
theorem dX4_spreadOut_275 : decode cX4_spreadOut 275 = .ok (.iconst 3, 1) := by decide +kernel
theorem dX4_spreadOut_276 : decode cX4_spreadOut 276 = .ok (.putfield 76, 3) := by decide +kernel
theorem dX4_spreadOut_279 : decode cX4_spreadOut 279 = .ok (.goto 8, 3) := by decide +kernel
theorem dX4_spreadOut_282 : decode cX4_spreadOut 282 = .ok (.aload_n 0, 1) := by decide +kernel
theorem dX4_spreadOut_283 : decode cX4_spreadOut 283 = .ok (.iconst 3, 1) := by decide +kernel
theorem dX4_spreadOut_284 : decode cX4_spreadOut 284 = .ok (.invokevirtual 154, 3) := by decide +kernel
theorem dX4_spreadOut_287 : decode cX4_spreadOut 287 = .ok (.return_, 1) := by decide +kernel
def w_Ma_spreadOut_240 (C : zC) (n0 : Nat) (Q : zS → Prop) (B200 : Nat → Int32 → Int32 → zS → Prop) (a0 : Nat) (a4 : Int32) (s0 : Int32) (κ : zS) : Prop :=
  inb a4 (zN κ (zR κ maWeights a0)) ∧
  ∀ κ1, κ1 = ui κ maTotal a0 ((zI κ maTotal a0) + (zA κ (zR κ maWeights a0) (a4).toNatClampNeg)) →
  ∀ _ : zW C n0 κ1,
  ∀ v4_2 : Int32, v4_2 = a4 + (1 : Int32) →
  B200 a0 s0 v4_2 κ1
theorem t_Ma_spreadOut_240 {C : zC} {n0 : Nat} {Q : zS → Prop} {B200 : Nat → Int32 → Int32 → zS → Prop} (hB200 : ∀ a0' a3' a4' τ, zW C n0 τ → zT τ a0' = 7 → B200 a0' a3' a4' τ → zG C n0 1 mMa_spreadOut 200 [some (.ref a0'), none, none, some (.int a3'), some (.int a4')] [] τ (oV Q noX)) {a0 : Nat} {a4 : Int32} {s0 : Int32} {κ : zS} (W : zW C n0 κ) (Ta0 : zT κ a0 = 7) (F : w_Ma_spreadOut_240 C n0 Q B200 a0 a4 s0 κ) : zG C n0 1 mMa_spreadOut 240 [some (.ref a0), none, none, none, some (.int a4)] [.int s0] κ (oV Q noX) := by
  unfold w_Ma_spreadOut_240 at F
  refine y_isn dX4_spreadOut_240 (Nat.le_of_ble_eq_true rfl) rfl ?_
  refine y_aln dX4_spreadOut_241 rfl ?_
  refine y_dup dX4_spreadOut_242 rfl ?_
  refine gf_X4_166 dX4_spreadOut_243 rfl (Or.inl Ta0) ?_
  refine y_aln dX4_spreadOut_246 rfl ?_
  refine gf_X4_28 W dX4_spreadOut_247 rfl Ta0 ?_
  refine y_il dX4_spreadOut_250 rfl ?_
  refine y_ald dX4_spreadOut_252 (ty_maWeights W Ta0) F.1 ?_
  replace F := F.2
  refine y_iadd dX4_spreadOut_253 ?_
  refine pf_X4_166 W dX4_spreadOut_254 rfl (Or.inl Ta0) (fun κ1 eκ1 => ?_)
  replace F := F κ1 eκ1
  have Wκ1 : zW C n0 κ1 := zW_ui W eκ1 (fun h => absurd h (by decide))
  have Mκ1 : zM (zn κ) κ κ1 := by rw [eκ1]; exact zM.of rfl rfl rfl
  replace F := F Wκ1
  refine y_incb dX4_spreadOut_257 zi_1 rfl (Nat.le_of_ble_eq_true rfl) (fun v4_2 ev4_2 => ?_)
  replace F := F v4_2 ev4_2
  refine y_goto dX4_spreadOut_260 (t := 200) rfl ?_
  have h3 := (ztm W Mκ1 Ta0)
  exact y_k (hB200 _ _ _ _ Wκ1 h3 F) ⟨rfl, rfl, rfl, trivial⟩

def w_Ma_spreadOut_282 (C : zC) (n0 : Nat) (Q : zS → Prop)  (a0 : Nat) (κ : zS) : Prop :=
  ∀ _ : zT κ a0 = 7,
  zRun C 0 mMa_fail [.ref a0, .int (3 : Int32)] κ (oV (fun κ1 =>
    ∀ _ : zW C n0 κ1,
    ∀ _ : zM (zn κ) κ κ1,
    Q κ1) noX)
theorem t_Ma_spreadOut_282 {C : zC} {n0 : Nat} {Q : zS → Prop}   {a0 : Nat} {κ : zS} (W : zW C n0 κ) (Ta0 : zT κ a0 = 7) (F : w_Ma_spreadOut_282 C n0 Q  a0 κ) : zG C n0 1 mMa_spreadOut 282 [some (.ref a0), none, none, none, none] [] κ (oV Q noX) := by
  unfold w_Ma_spreadOut_282 at F
  refine y_aln dX4_spreadOut_282 rfl ?_
  refine y_ic dX4_spreadOut_283 zi_3 ?_
  replace F := F Ta0
  refine k_X4_154 W dX4_spreadOut_284 rfl (Nat.le_of_ble_eq_true rfl) (Nat.le_of_ble_eq_true rfl) (Or.inl Ta0) F (fun  κ1 Wκ1 Mκ1 F => ?_) (fun _ _ h9 => False.elim h9)
  replace F := F Wκ1 Mκ1
  exact y_rv Wκ1 dX4_spreadOut_287 rfl F

def w_Ma_spreadOut_200 (C : zC) (n0 : Nat) (Q : zS → Prop)  (a0 : Nat) (a3 : Int32) (a4 : Int32) (κ : zS) : Prop :=
  ∃ I : Nat → Nat → Int32 → Int32 → zS → Prop, (∃ n, I n a0 a3 a4 κ) ∧ ∀ n a0 a3 a4 κ, zW C n0 κ → zT κ a0 = 7 → I n a0 a3 a4 κ →
    ((zI κ maWays a0) ≤ a4 →
      (a3 = (0 : Int32) →
        w_Ma_spreadOut_282 C n0 Q  a0 κ) ∧
      (¬ a3 = (0 : Int32) →
        ((zI κ maTotal a0) ≤ (0 : Int32) →
          w_Ma_spreadOut_282 C n0 Q  a0 κ) ∧
        (¬ (zI κ maTotal a0) ≤ (0 : Int32) →
          ∀ κ1, κ1 = ui κ maWants a0 (3 : Int32) →
          ∀ _ : zW C n0 κ1,
          Q κ1))) ∧
    (¬ (zI κ maWays a0) ≤ a4 →
      (a3 = (0 : Int32) →
        w_Ma_spreadOut_240 C n0 Q (fun a0' a3' a4' τ => ∃ k < n, I k a0' a3' a4' τ) a0 a4 (0 : Int32) κ) ∧
      (¬ a3 = (0 : Int32) →
        inb a4 (zN κ (zR κ maWeights a0)) ∧
        ((zA κ (zR κ maWeights a0) (a4).toNatClampNeg) < (0 : Int32) →
          w_Ma_spreadOut_240 C n0 Q (fun a0' a3' a4' τ => ∃ k < n, I k a0' a3' a4' τ) a0 a4 (0 : Int32) κ) ∧
        (¬ (zA κ (zR κ maWeights a0) (a4).toNatClampNeg) < (0 : Int32) →
          inb a4 (zN κ (zR κ maWeights a0)) ∧
          ((1000000 : Int32) < (zA κ (zR κ maWeights a0) (a4).toNatClampNeg) →
            w_Ma_spreadOut_240 C n0 Q (fun a0' a3' a4' τ => ∃ k < n, I k a0' a3' a4' τ) a0 a4 (0 : Int32) κ) ∧
          (¬ (1000000 : Int32) < (zA κ (zR κ maWeights a0) (a4).toNatClampNeg) →
            w_Ma_spreadOut_240 C n0 Q (fun a0' a3' a4' τ => ∃ k < n, I k a0' a3' a4' τ) a0 a4 (1 : Int32) κ))))
theorem t_Ma_spreadOut_200 {C : zC} {n0 : Nat} {Q : zS → Prop}   {a0 : Nat} {a3 : Int32} {a4 : Int32} {κ : zS} (W : zW C n0 κ) (Ta0 : zT κ a0 = 7) (F : w_Ma_spreadOut_200 C n0 Q  a0 a3 a4 κ) : zG C n0 1 mMa_spreadOut 200 [some (.ref a0), none, none, some (.int a3), some (.int a4)] [] κ (oV Q noX) := by
  obtain ⟨I, ⟨m0, hI0⟩, F0⟩ := F
  have key : ∀ n a0 a3 a4 κ, zW C n0 κ → zT κ a0 = 7 → I n a0 a3 a4 κ → zG C n0 1 mMa_spreadOut 200 [some (.ref a0), none, none, some (.int a3), some (.int a4)] [] κ (oV Q noX) := by
    intro n
    induction n using Nat.strongRecOn with
    | _ n ih =>
      intro a0 a3 a4 κ W Ta0 hI
      have F := F0 n a0 a3 a4 κ W Ta0 hI
      clear hI hI0
      refine y_il dX4_spreadOut_200 rfl ?_
      refine y_aln dX4_spreadOut_202 rfl ?_
      refine gf_X4_163 dX4_spreadOut_203 rfl (Or.inl Ta0) ?_
      refine y_ii ((zI κ maWays a0) ≤ a4) dX4_spreadOut_206 (t := 263) rfl rfl (fun c9 => ?_) (fun c9 => ?_)
      · replace F := F.1 c9
        refine y_iln dX4_spreadOut_263 rfl ?_
        refine y_i (a3 = (0 : Int32)) dX4_spreadOut_264 (t := 282) rfl rfl (fun c9 => ?_) (fun c9 => ?_)
        · replace F := F.1 c9
          exact y_k (t_Ma_spreadOut_282  W Ta0 F) ⟨rfl, trivial⟩
        · replace F := F.2 c9
          refine y_aln dX4_spreadOut_267 rfl ?_
          refine gf_X4_166 dX4_spreadOut_268 rfl (Or.inl Ta0) ?_
          refine y_i ((zI κ maTotal a0) ≤ (0 : Int32)) dX4_spreadOut_271 (t := 282) rfl rfl (fun c9 => ?_) (fun c9 => ?_)
          · replace F := F.1 c9
            exact y_k (t_Ma_spreadOut_282  W Ta0 F) ⟨rfl, trivial⟩
          · replace F := F.2 c9
            refine y_aln dX4_spreadOut_274 rfl ?_
            refine y_ic dX4_spreadOut_275 zi_3 ?_
            refine pf_X4_76 W dX4_spreadOut_276 rfl (Or.inl Ta0) (fun κ1 eκ1 => ?_)
            replace F := F κ1 eκ1
            have Wκ1 : zW C n0 κ1 := zW_ui W eκ1 (fun h => absurd h (by decide))
            have Mκ1 : zM (zn κ) κ κ1 := by rw [eκ1]; exact zM.of rfl rfl rfl
            replace F := F Wκ1
            refine y_goto dX4_spreadOut_279 (t := 287) rfl ?_
            exact y_rv Wκ1 dX4_spreadOut_287 rfl F
      · replace F := F.2 c9
        refine y_iln dX4_spreadOut_209 rfl ?_
        refine y_i (a3 = (0 : Int32)) dX4_spreadOut_210 (t := 239) rfl rfl (fun c9 => ?_) (fun c9 => ?_)
        · replace F := F.1 c9
          refine y_ic dX4_spreadOut_239 zi_0 ?_
          exact y_k (t_Ma_spreadOut_240 (fun a0' a3' a4' τ w9 f09 hb => by obtain ⟨k, hk, hI⟩ := hb; exact ih k hk a0' a3' a4' τ w9 f09 hI) W Ta0 F) ⟨rfl, rfl, trivial⟩
        · replace F := F.2 c9
          refine y_aln dX4_spreadOut_213 rfl ?_
          refine gf_X4_28 W dX4_spreadOut_214 rfl Ta0 ?_
          refine y_il dX4_spreadOut_217 rfl ?_
          refine y_ald dX4_spreadOut_219 (ty_maWeights W Ta0) F.1 ?_
          replace F := F.2
          refine y_i ((zA κ (zR κ maWeights a0) (a4).toNatClampNeg) < (0 : Int32)) dX4_spreadOut_220 (t := 239) rfl rfl (fun c9 => ?_) (fun c9 => ?_)
          · replace F := F.1 c9
            refine y_ic dX4_spreadOut_239 zi_0 ?_
            exact y_k (t_Ma_spreadOut_240 (fun a0' a3' a4' τ w9 f09 hb => by obtain ⟨k, hk, hI⟩ := hb; exact ih k hk a0' a3' a4' τ w9 f09 hI) W Ta0 F) ⟨rfl, rfl, trivial⟩
          · replace F := F.2 c9
            refine y_aln dX4_spreadOut_223 rfl ?_
            refine gf_X4_28 W dX4_spreadOut_224 rfl Ta0 ?_
            refine y_il dX4_spreadOut_227 rfl ?_
            refine y_ald dX4_spreadOut_229 (ty_maWeights W Ta0) F.1 ?_
            replace F := F.2
            refine y_ldc dX4_spreadOut_230 rfl zcn_X4_169 ?_
            refine y_ii ((1000000 : Int32) < (zA κ (zR κ maWeights a0) (a4).toNatClampNeg)) dX4_spreadOut_232 (t := 239) rfl rfl (fun c9 => ?_) (fun c9 => ?_)
            · replace F := F.1 c9
              refine y_ic dX4_spreadOut_239 zi_0 ?_
              exact y_k (t_Ma_spreadOut_240 (fun a0' a3' a4' τ w9 f09 hb => by obtain ⟨k, hk, hI⟩ := hb; exact ih k hk a0' a3' a4' τ w9 f09 hI) W Ta0 F) ⟨rfl, rfl, trivial⟩
            · replace F := F.2 c9
              refine y_ic dX4_spreadOut_235 zi_1 ?_
              refine y_goto dX4_spreadOut_236 (t := 240) rfl ?_
              exact y_k (t_Ma_spreadOut_240 (fun a0' a3' a4' τ w9 f09 hb => by obtain ⟨k, hk, hI⟩ := hb; exact ih k hk a0' a3' a4' τ w9 f09 hI) W Ta0 F) ⟨rfl, rfl, trivial⟩
  exact key m0 a0 a3 a4 κ W Ta0 hI0

def w_Ma_spreadOut_190 (C : zC) (n0 : Nat) (Q : zS → Prop)  (a0 : Nat) (κ : zS) : Prop :=
  ∀ κ1, κ1 = ui κ maTotal a0 (0 : Int32) →
  ∀ _ : zW C n0 κ1,
  w_Ma_spreadOut_200 C n0 Q  a0 (1 : Int32) (0 : Int32) κ1
theorem t_Ma_spreadOut_190 {C : zC} {n0 : Nat} {Q : zS → Prop}   {a0 : Nat} {κ : zS} (W : zW C n0 κ) (Ta0 : zT κ a0 = 7) (F : w_Ma_spreadOut_190 C n0 Q  a0 κ) : zG C n0 1 mMa_spreadOut 190 [some (.ref a0), none, none, none, none] [] κ (oV Q noX) := by
  unfold w_Ma_spreadOut_190 at F
  refine y_aln dX4_spreadOut_190 rfl ?_
  refine y_ic dX4_spreadOut_191 zi_0 ?_
  refine pf_X4_166 W dX4_spreadOut_192 rfl (Or.inl Ta0) (fun κ1 eκ1 => ?_)
  replace F := F κ1 eκ1
  have Wκ1 : zW C n0 κ1 := zW_ui W eκ1 (fun h => absurd h (by decide))
  have Mκ1 : zM (zn κ) κ κ1 := by rw [eκ1]; exact zM.of rfl rfl rfl
  replace F := F Wκ1
  refine y_ic dX4_spreadOut_195 zi_1 ?_
  refine y_isn dX4_spreadOut_196 (Nat.le_of_ble_eq_true rfl) rfl ?_
  refine y_ic dX4_spreadOut_197 zi_0 ?_
  refine y_is dX4_spreadOut_198 (Nat.le_of_ble_eq_true rfl) rfl ?_
  have h2 := (ztm W Mκ1 Ta0)
  exact y_k (t_Ma_spreadOut_200  Wκ1 h2 F) ⟨rfl, rfl, rfl, trivial⟩

def w_Ma_spreadOut_42 (C : zC) (n0 : Nat) (Q : zS → Prop)  (a0 : Nat) (a3 : Int32) (κ : zS) : Prop :=
  ∃ I : Nat → Nat → Int32 → zS → Prop, (∃ n, I n a0 a3 κ) ∧ ∀ n a0 a3 κ, zW C n0 κ → zT κ a0 = 7 → I n a0 a3 κ →
    ((zI κ maWays a0) ≤ a3 →
      w_Ma_spreadOut_190 C n0 Q  a0 κ) ∧
    (¬ (zI κ maWays a0) ≤ a3 →
      inb a3 (zN κ (zR κ maValues a0)) ∧
      ∀ κ1, κ1 = ua κ (zR κ maValues a0) (a3).toNatClampNeg a3 →
      ∀ _ : zW C n0 κ1,
      inb a3 (zN κ1 (zR κ1 maWeights a0)) ∧
      ∀ κ3, κ3 = ua κ1 (zR κ1 maWeights a0) (a3).toNatClampNeg (1 : Int32) →
      ∀ _ : zW C n0 κ3,
      ∀ v3_4 : Int32, v3_4 = a3 + (1 : Int32) →
      ∃ k < n, I k a0 v3_4 κ3)
theorem t_Ma_spreadOut_42 {C : zC} {n0 : Nat} {Q : zS → Prop}   {a0 : Nat} {a3 : Int32} {κ : zS} (W : zW C n0 κ) (Ta0 : zT κ a0 = 7) (F : w_Ma_spreadOut_42 C n0 Q  a0 a3 κ) : zG C n0 1 mMa_spreadOut 42 [some (.ref a0), none, none, some (.int a3), none] [] κ (oV Q noX) := by
  obtain ⟨I, ⟨m0, hI0⟩, F0⟩ := F
  have key : ∀ n a0 a3 κ, zW C n0 κ → zT κ a0 = 7 → I n a0 a3 κ → zG C n0 1 mMa_spreadOut 42 [some (.ref a0), none, none, some (.int a3), none] [] κ (oV Q noX) := by
    intro n
    induction n using Nat.strongRecOn with
    | _ n ih =>
      intro a0 a3 κ W Ta0 hI
      have F := F0 n a0 a3 κ W Ta0 hI
      clear hI hI0
      refine y_iln dX4_spreadOut_42 rfl ?_
      refine y_aln dX4_spreadOut_43 rfl ?_
      refine gf_X4_163 dX4_spreadOut_44 rfl (Or.inl Ta0) ?_
      refine y_ii ((zI κ maWays a0) ≤ a3) dX4_spreadOut_47 (t := 70) rfl rfl (fun c9 => ?_) (fun c9 => ?_)
      · replace F := F.1 c9
        refine y_goto dX4_spreadOut_70 (t := 190) rfl ?_
        exact y_k (t_Ma_spreadOut_190  W Ta0 F) ⟨rfl, trivial⟩
      · replace F := F.2 c9
        refine y_aln dX4_spreadOut_50 rfl ?_
        refine gf_X4_25 W dX4_spreadOut_51 rfl Ta0 ?_
        refine y_iln dX4_spreadOut_54 rfl ?_
        refine y_iln dX4_spreadOut_55 rfl ?_
        refine y_ast W dX4_spreadOut_56 (ty_maValues W Ta0) F.1 (fun κ1 eκ1 => ?_)
        replace F := F.2 κ1 eκ1
        have Wκ1 : zW C n0 κ1 := zW_ua W eκ1 (fun h => absurd (h.symm.trans (ty_maValues W Ta0)) (by decide)) (fun h => absurd (h.symm.trans (ty_maValues W Ta0)) (by decide))
        have Mκ1 : zM (zn κ) κ κ1 := by rw [eκ1]; exact zM.of rfl rfl rfl
        replace F := F Wκ1
        refine y_aln dX4_spreadOut_57 rfl ?_
        have h2 := (ztm W Mκ1 Ta0)
        refine gf_X4_28 Wκ1 dX4_spreadOut_58 rfl h2 ?_
        refine y_iln dX4_spreadOut_61 rfl ?_
        refine y_ic dX4_spreadOut_62 zi_1 ?_
        refine y_ast Wκ1 dX4_spreadOut_63 (ty_maWeights Wκ1 h2) F.1 (fun κ3 eκ3 => ?_)
        replace F := F.2 κ3 eκ3
        have Wκ3 : zW C n0 κ3 := zW_ua Wκ1 eκ3 (fun h => absurd (h.symm.trans (ty_maWeights Wκ1 h2)) (by decide)) (fun h => absurd (h.symm.trans (ty_maWeights Wκ1 h2)) (by decide))
        have Mκ3 : zM (zn κ1) κ1 κ3 := by rw [eκ3]; exact zM.of rfl rfl rfl
        replace F := F Wκ3
        refine y_incb dX4_spreadOut_64 zi_1 rfl (Nat.le_of_ble_eq_true rfl) (fun v3_4 ev3_4 => ?_)
        replace F := F v3_4 ev3_4
        refine y_goto dX4_spreadOut_67 (t := 42) rfl ?_
        have h5 := (ztm Wκ1 Mκ3 h2)
        obtain ⟨k, hk, hI⟩ := F
        exact y_k (ih k hk _ _ _ Wκ3 h5 hI) ⟨rfl, rfl, trivial⟩
  exact key m0 a0 a3 κ W Ta0 hI0

def w_Ma_spreadOut_37 (C : zC) (n0 : Nat) (Q : zS → Prop)  (a0 : Nat) (s0 : Nat) (s1 : Int32) (κ : zS) : Prop :=
  ∀ κ1, κ1 = ui κ maWays s0 s1 →
  ∀ _ : zW C n0 κ1,
  w_Ma_spreadOut_42 C n0 Q  a0 (0 : Int32) κ1
theorem t_Ma_spreadOut_37 {C : zC} {n0 : Nat} {Q : zS → Prop}   {a0 : Nat} {s0 : Nat} {s1 : Int32} {κ : zS} (W : zW C n0 κ) (Ta0 : zT κ a0 = 7) (Ts0 : zT κ s0 = 7) (F : w_Ma_spreadOut_37 C n0 Q  a0 s0 s1 κ) : zG C n0 1 mMa_spreadOut 37 [some (.ref a0), none, none, none, none] [.int s1, .ref s0] κ (oV Q noX) := by
  unfold w_Ma_spreadOut_37 at F
  refine pf_X4_163 W dX4_spreadOut_37 rfl (Or.inl Ts0) (fun κ1 eκ1 => ?_)
  replace F := F κ1 eκ1
  have Wκ1 : zW C n0 κ1 := zW_ui W eκ1 (fun h => absurd h (by decide))
  have Mκ1 : zM (zn κ) κ κ1 := by rw [eκ1]; exact zM.of rfl rfl rfl
  replace F := F Wκ1
  refine y_ic dX4_spreadOut_40 zi_0 ?_
  refine y_isn dX4_spreadOut_41 (Nat.le_of_ble_eq_true rfl) rfl ?_
  have h2 := (ztm W Mκ1 Ta0)
  exact y_k (t_Ma_spreadOut_42  Wκ1 h2 F) ⟨rfl, rfl, trivial⟩

def w_Ma_spreadOut_146 (C : zC) (n0 : Nat) (Q : zS → Prop)  (a0 : Nat) (a3 : Int32) (κ : zS) : Prop :=
  ∃ I : Nat → Nat → Int32 → zS → Prop, (∃ n, I n a0 a3 κ) ∧ ∀ n a0 a3 κ, zW C n0 κ → zT κ a0 = 7 → I n a0 a3 κ →
    ((zI κ maWays a0) ≤ a3 →
      w_Ma_spreadOut_190 C n0 Q  a0 κ) ∧
    (¬ (zI κ maWays a0) ≤ a3 →
      inb ((2 : Int32) * a3) (zN κ (zR κ maWorked a0)) ∧
      inb a3 (zN κ (zR κ maValues a0)) ∧
      ∀ κ1, κ1 = ua κ (zR κ maValues a0) (a3).toNatClampNeg (zA κ (zR κ maWorked a0) (((2 : Int32) * a3)).toNatClampNeg) →
      ∀ _ : zW C n0 κ1,
      inb (((2 : Int32) * a3) + (1 : Int32)) (zN κ1 (zR κ1 maWorked a0)) ∧
      inb a3 (zN κ1 (zR κ1 maWeights a0)) ∧
      ∀ κ3, κ3 = ua κ1 (zR κ1 maWeights a0) (a3).toNatClampNeg (zA κ1 (zR κ1 maWorked a0) ((((2 : Int32) * a3) + (1 : Int32))).toNatClampNeg) →
      ∀ _ : zW C n0 κ3,
      ∀ v3_4 : Int32, v3_4 = a3 + (1 : Int32) →
      ∃ k < n, I k a0 v3_4 κ3)
theorem t_Ma_spreadOut_146 {C : zC} {n0 : Nat} {Q : zS → Prop}   {a0 : Nat} {a3 : Int32} {κ : zS} (W : zW C n0 κ) (Ta0 : zT κ a0 = 7) (F : w_Ma_spreadOut_146 C n0 Q  a0 a3 κ) : zG C n0 1 mMa_spreadOut 146 [some (.ref a0), none, none, some (.int a3), none] [] κ (oV Q noX) := by
  obtain ⟨I, ⟨m0, hI0⟩, F0⟩ := F
  have key : ∀ n a0 a3 κ, zW C n0 κ → zT κ a0 = 7 → I n a0 a3 κ → zG C n0 1 mMa_spreadOut 146 [some (.ref a0), none, none, some (.int a3), none] [] κ (oV Q noX) := by
    intro n
    induction n using Nat.strongRecOn with
    | _ n ih =>
      intro a0 a3 κ W Ta0 hI
      have F := F0 n a0 a3 κ W Ta0 hI
      clear hI hI0
      refine y_iln dX4_spreadOut_146 rfl ?_
      refine y_aln dX4_spreadOut_147 rfl ?_
      refine gf_X4_163 dX4_spreadOut_148 rfl (Or.inl Ta0) ?_
      refine y_ii ((zI κ maWays a0) ≤ a3) dX4_spreadOut_151 (t := 190) rfl rfl (fun c9 => ?_) (fun c9 => ?_)
      · replace F := F.1 c9
        exact y_k (t_Ma_spreadOut_190  W Ta0 F) ⟨rfl, trivial⟩
      · replace F := F.2 c9
        refine y_aln dX4_spreadOut_154 rfl ?_
        refine gf_X4_25 W dX4_spreadOut_155 rfl Ta0 ?_
        refine y_iln dX4_spreadOut_158 rfl ?_
        refine y_aln dX4_spreadOut_159 rfl ?_
        refine gf_X4_22 W dX4_spreadOut_160 rfl Ta0 ?_
        refine y_ic dX4_spreadOut_163 zi_2 ?_
        refine y_iln dX4_spreadOut_164 rfl ?_
        refine y_imul dX4_spreadOut_165 ?_
        refine y_ald dX4_spreadOut_166 (ty_maWorked W Ta0) F.1 ?_
        replace F := F.2
        refine y_ast W dX4_spreadOut_167 (ty_maValues W Ta0) F.1 (fun κ1 eκ1 => ?_)
        replace F := F.2 κ1 eκ1
        have Wκ1 : zW C n0 κ1 := zW_ua W eκ1 (fun h => absurd (h.symm.trans (ty_maValues W Ta0)) (by decide)) (fun h => absurd (h.symm.trans (ty_maValues W Ta0)) (by decide))
        have Mκ1 : zM (zn κ) κ κ1 := by rw [eκ1]; exact zM.of rfl rfl rfl
        replace F := F Wκ1
        refine y_aln dX4_spreadOut_168 rfl ?_
        have h2 := (ztm W Mκ1 Ta0)
        refine gf_X4_28 Wκ1 dX4_spreadOut_169 rfl h2 ?_
        refine y_iln dX4_spreadOut_172 rfl ?_
        refine y_aln dX4_spreadOut_173 rfl ?_
        refine gf_X4_22 Wκ1 dX4_spreadOut_174 rfl h2 ?_
        refine y_ic dX4_spreadOut_177 zi_2 ?_
        refine y_iln dX4_spreadOut_178 rfl ?_
        refine y_imul dX4_spreadOut_179 ?_
        refine y_ic dX4_spreadOut_180 zi_1 ?_
        refine y_iadd dX4_spreadOut_181 ?_
        refine y_ald dX4_spreadOut_182 (ty_maWorked Wκ1 h2) F.1 ?_
        replace F := F.2
        refine y_ast Wκ1 dX4_spreadOut_183 (ty_maWeights Wκ1 h2) F.1 (fun κ3 eκ3 => ?_)
        replace F := F.2 κ3 eκ3
        have Wκ3 : zW C n0 κ3 := zW_ua Wκ1 eκ3 (fun h => absurd (h.symm.trans (ty_maWeights Wκ1 h2)) (by decide)) (fun h => absurd (h.symm.trans (ty_maWeights Wκ1 h2)) (by decide))
        have Mκ3 : zM (zn κ1) κ1 κ3 := by rw [eκ3]; exact zM.of rfl rfl rfl
        replace F := F Wκ3
        refine y_incb dX4_spreadOut_184 zi_1 rfl (Nat.le_of_ble_eq_true rfl) (fun v3_4 ev3_4 => ?_)
        replace F := F v3_4 ev3_4
        refine y_goto dX4_spreadOut_187 (t := 146) rfl ?_
        have h5 := (ztm Wκ1 Mκ3 h2)
        obtain ⟨k, hk, hI⟩ := F
        exact y_k (ih k hk _ _ _ Wκ3 h5 hI) ⟨rfl, rfl, trivial⟩
  exact key m0 a0 a3 κ W Ta0 hI0

def w_Ma_spreadOut_0 (C : zC) (n0 : Nat) (Q : zS → Prop)  (a0 : Nat) (a1 : Int32) (a2 : Int32) (κ : zS) : Prop :=
  (¬ a2 = (1 : Int32) →
    (¬ a2 = (2 : Int32) →
      ∀ _ : zT κ (zR κ maCode a0) = 5,
      zRun C 0 mCo_column [.ref (zR κ maCode a0), .int a1, .int (4 : Int32)] κ (oI (fun r2 κ1 =>
        ∀ _ : zW C n0 κ1,
        ∀ _ : zM (zn κ) κ κ1,
        ¬ (2 : Int32) = 0 ∧
        ∀ κ4, κ4 = ui κ1 maWays a0 (if (8 : Int32) < (r2 / (2 : Int32)) then (8 : Int32) else (r2 / (2 : Int32))) →
        ∀ _ : zW C n0 κ4,
        w_Ma_spreadOut_146 C n0 Q  a0 (0 : Int32) κ4) noX)) ∧
    (a2 = (2 : Int32) →
      ∀ κ7, κ7 = ui κ maWays a0 (2 : Int32) →
      ∀ _ : zW C n0 κ7,
      inb (0 : Int32) (zN κ7 (zR κ7 maValues a0)) ∧
      ∀ κ9, κ9 = ua κ7 (zR κ7 maValues a0) ((0 : Int32)).toNatClampNeg (1 : Int32) →
      ∀ _ : zW C n0 κ9,
      inb (0 : Int32) (zN κ9 (zR κ9 maWorked a0)) ∧
      inb (0 : Int32) (zN κ9 (zR κ9 maWeights a0)) ∧
      ∀ κ11, κ11 = ua κ9 (zR κ9 maWeights a0) ((0 : Int32)).toNatClampNeg (zA κ9 (zR κ9 maWorked a0) ((0 : Int32)).toNatClampNeg) →
      ∀ _ : zW C n0 κ11,
      inb (1 : Int32) (zN κ11 (zR κ11 maValues a0)) ∧
      ∀ κ13, κ13 = ua κ11 (zR κ11 maValues a0) ((1 : Int32)).toNatClampNeg (0 : Int32) →
      ∀ _ : zW C n0 κ13,
      inb (1 : Int32) (zN κ13 (zR κ13 maWorked a0)) ∧
      inb (1 : Int32) (zN κ13 (zR κ13 maWeights a0)) ∧
      ∀ κ15, κ15 = ua κ13 (zR κ13 maWeights a0) ((1 : Int32)).toNatClampNeg (zA κ13 (zR κ13 maWorked a0) ((1 : Int32)).toNatClampNeg) →
      ∀ _ : zW C n0 κ15,
      w_Ma_spreadOut_190 C n0 Q  a0 κ15)) ∧
  (a2 = (1 : Int32) →
    inb (0 : Int32) (zN κ (zR κ maWorked a0)) ∧
    ((zA κ (zR κ maWorked a0) ((0 : Int32)).toNatClampNeg) < (1 : Int32) →
      w_Ma_spreadOut_37 C n0 Q  a0 a0 (0 : Int32) κ) ∧
    (¬ (zA κ (zR κ maWorked a0) ((0 : Int32)).toNatClampNeg) < (1 : Int32) →
      inb (0 : Int32) (zN κ (zR κ maWorked a0)) ∧
      ((64 : Int32) < (zA κ (zR κ maWorked a0) ((0 : Int32)).toNatClampNeg) →
        w_Ma_spreadOut_37 C n0 Q  a0 a0 (0 : Int32) κ) ∧
      (¬ (64 : Int32) < (zA κ (zR κ maWorked a0) ((0 : Int32)).toNatClampNeg) →
        inb (0 : Int32) (zN κ (zR κ maWorked a0)) ∧
        w_Ma_spreadOut_37 C n0 Q  a0 a0 (zA κ (zR κ maWorked a0) ((0 : Int32)).toNatClampNeg) κ)))
theorem t_Ma_spreadOut_0 {C : zC} {n0 : Nat} {Q : zS → Prop}   {a0 : Nat} {a1 : Int32} {a2 : Int32} {κ : zS} (W : zW C n0 κ) (Ta0 : zT κ a0 = 7) (F : w_Ma_spreadOut_0 C n0 Q  a0 a1 a2 κ) : zG C n0 1 mMa_spreadOut 0 [some (.ref a0), some (.int a1), some (.int a2), none, none] [] κ (oV Q noX) := by
  unfold w_Ma_spreadOut_0 at F
  refine y_iln dX4_spreadOut_0 rfl ?_
  refine y_ic dX4_spreadOut_1 zi_1 ?_
  refine y_iin (a2 = (1 : Int32)) dX4_spreadOut_2 (t := 73) rfl rfl (fun c9 => ?_) (fun c9 => ?_)
  · replace F := F.1 c9
    refine y_iln dX4_spreadOut_73 rfl ?_
    refine y_ic dX4_spreadOut_74 zi_2 ?_
    refine y_iin (a2 = (2 : Int32)) dX4_spreadOut_75 (t := 124) rfl rfl (fun c9 => ?_) (fun c9 => ?_)
    · replace F := F.1 c9
      refine y_aln dX4_spreadOut_124 rfl ?_
      refine y_aln dX4_spreadOut_125 rfl ?_
      refine gf_X4_11 W dX4_spreadOut_126 rfl Ta0 ?_
      refine y_iln dX4_spreadOut_129 rfl ?_
      refine y_ic dX4_spreadOut_130 zi_4 ?_
      replace F := F (ty_maCode W Ta0)
      refine k_X4_110 W dX4_spreadOut_131 rfl (Nat.le_of_ble_eq_true rfl) (Nat.le_of_ble_eq_true rfl) (Or.inl (ty_maCode W Ta0)) F (fun r2 κ1 Wκ1 Mκ1 F => ?_) (fun _ _ h9 => False.elim h9)
      replace F := F Wκ1 Mκ1
      refine y_ic dX4_spreadOut_134 zi_2 ?_
      refine y_div dX4_spreadOut_135 F.1 ?_
      replace F := F.2
      refine y_bi1 dX4_spreadOut_136 zb_8 ?_
      refine y_min dX4_spreadOut_138 rfl zbi_X4_37 (Nat.le_of_ble_eq_true rfl) (Nat.le_of_ble_eq_true rfl) ?_
      have h5 := (ztm W Mκ1 Ta0)
      refine pf_X4_163 Wκ1 dX4_spreadOut_141 rfl (Or.inl h5) (fun κ4 eκ4 => ?_)
      replace F := F κ4 eκ4
      have Wκ4 : zW C n0 κ4 := zW_ui Wκ1 eκ4 (fun h => absurd h (by decide))
      have Mκ4 : zM (zn κ1) κ1 κ4 := by rw [eκ4]; exact zM.of rfl rfl rfl
      replace F := F Wκ4
      refine y_ic dX4_spreadOut_144 zi_0 ?_
      refine y_isn dX4_spreadOut_145 (Nat.le_of_ble_eq_true rfl) rfl ?_
      have h6 := (ztm Wκ1 Mκ4 h5)
      exact y_k (t_Ma_spreadOut_146  Wκ4 h6 F) ⟨rfl, rfl, trivial⟩
    · replace F := F.2 c9
      refine y_aln dX4_spreadOut_78 rfl ?_
      refine y_ic dX4_spreadOut_79 zi_2 ?_
      refine pf_X4_163 W dX4_spreadOut_80 rfl (Or.inl Ta0) (fun κ7 eκ7 => ?_)
      replace F := F κ7 eκ7
      have Wκ7 : zW C n0 κ7 := zW_ui W eκ7 (fun h => absurd h (by decide))
      have Mκ7 : zM (zn κ) κ κ7 := by rw [eκ7]; exact zM.of rfl rfl rfl
      replace F := F Wκ7
      refine y_aln dX4_spreadOut_83 rfl ?_
      have h8 := (ztm W Mκ7 Ta0)
      refine gf_X4_25 Wκ7 dX4_spreadOut_84 rfl h8 ?_
      refine y_ic dX4_spreadOut_87 zi_0 ?_
      refine y_ic dX4_spreadOut_88 zi_1 ?_
      refine y_ast Wκ7 dX4_spreadOut_89 (ty_maValues Wκ7 h8) F.1 (fun κ9 eκ9 => ?_)
      replace F := F.2 κ9 eκ9
      have Wκ9 : zW C n0 κ9 := zW_ua Wκ7 eκ9 (fun h => absurd (h.symm.trans (ty_maValues Wκ7 h8)) (by decide)) (fun h => absurd (h.symm.trans (ty_maValues Wκ7 h8)) (by decide))
      have Mκ9 : zM (zn κ7) κ7 κ9 := by rw [eκ9]; exact zM.of rfl rfl rfl
      replace F := F Wκ9
      refine y_aln dX4_spreadOut_90 rfl ?_
      have h10 := (ztm Wκ7 Mκ9 h8)
      refine gf_X4_28 Wκ9 dX4_spreadOut_91 rfl h10 ?_
      refine y_ic dX4_spreadOut_94 zi_0 ?_
      refine y_aln dX4_spreadOut_95 rfl ?_
      refine gf_X4_22 Wκ9 dX4_spreadOut_96 rfl h10 ?_
      refine y_ic dX4_spreadOut_99 zi_0 ?_
      refine y_ald dX4_spreadOut_100 (ty_maWorked Wκ9 h10) F.1 ?_
      replace F := F.2
      refine y_ast Wκ9 dX4_spreadOut_101 (ty_maWeights Wκ9 h10) F.1 (fun κ11 eκ11 => ?_)
      replace F := F.2 κ11 eκ11
      have Wκ11 : zW C n0 κ11 := zW_ua Wκ9 eκ11 (fun h => absurd (h.symm.trans (ty_maWeights Wκ9 h10)) (by decide)) (fun h => absurd (h.symm.trans (ty_maWeights Wκ9 h10)) (by decide))
      have Mκ11 : zM (zn κ9) κ9 κ11 := by rw [eκ11]; exact zM.of rfl rfl rfl
      replace F := F Wκ11
      refine y_aln dX4_spreadOut_102 rfl ?_
      have h12 := (ztm Wκ9 Mκ11 h10)
      refine gf_X4_25 Wκ11 dX4_spreadOut_103 rfl h12 ?_
      refine y_ic dX4_spreadOut_106 zi_1 ?_
      refine y_ic dX4_spreadOut_107 zi_0 ?_
      refine y_ast Wκ11 dX4_spreadOut_108 (ty_maValues Wκ11 h12) F.1 (fun κ13 eκ13 => ?_)
      replace F := F.2 κ13 eκ13
      have Wκ13 : zW C n0 κ13 := zW_ua Wκ11 eκ13 (fun h => absurd (h.symm.trans (ty_maValues Wκ11 h12)) (by decide)) (fun h => absurd (h.symm.trans (ty_maValues Wκ11 h12)) (by decide))
      have Mκ13 : zM (zn κ11) κ11 κ13 := by rw [eκ13]; exact zM.of rfl rfl rfl
      replace F := F Wκ13
      refine y_aln dX4_spreadOut_109 rfl ?_
      have h14 := (ztm Wκ11 Mκ13 h12)
      refine gf_X4_28 Wκ13 dX4_spreadOut_110 rfl h14 ?_
      refine y_ic dX4_spreadOut_113 zi_1 ?_
      refine y_aln dX4_spreadOut_114 rfl ?_
      refine gf_X4_22 Wκ13 dX4_spreadOut_115 rfl h14 ?_
      refine y_ic dX4_spreadOut_118 zi_1 ?_
      refine y_ald dX4_spreadOut_119 (ty_maWorked Wκ13 h14) F.1 ?_
      replace F := F.2
      refine y_ast Wκ13 dX4_spreadOut_120 (ty_maWeights Wκ13 h14) F.1 (fun κ15 eκ15 => ?_)
      replace F := F.2 κ15 eκ15
      have Wκ15 : zW C n0 κ15 := zW_ua Wκ13 eκ15 (fun h => absurd (h.symm.trans (ty_maWeights Wκ13 h14)) (by decide)) (fun h => absurd (h.symm.trans (ty_maWeights Wκ13 h14)) (by decide))
      have Mκ15 : zM (zn κ13) κ13 κ15 := by rw [eκ15]; exact zM.of rfl rfl rfl
      replace F := F Wκ15
      refine y_goto dX4_spreadOut_121 (t := 190) rfl ?_
      have h16 := (ztm Wκ13 Mκ15 h14)
      exact y_k (t_Ma_spreadOut_190  Wκ15 h16 F) ⟨rfl, trivial⟩
  · replace F := F.2 c9
    refine y_aln dX4_spreadOut_5 rfl ?_
    refine y_aln dX4_spreadOut_6 rfl ?_
    refine gf_X4_22 W dX4_spreadOut_7 rfl Ta0 ?_
    refine y_ic dX4_spreadOut_10 zi_0 ?_
    refine y_ald dX4_spreadOut_11 (ty_maWorked W Ta0) F.1 ?_
    replace F := F.2
    refine y_ic dX4_spreadOut_12 zi_1 ?_
    refine y_ii ((zA κ (zR κ maWorked a0) ((0 : Int32)).toNatClampNeg) < (1 : Int32)) dX4_spreadOut_13 (t := 36) rfl rfl (fun c9 => ?_) (fun c9 => ?_)
    · replace F := F.1 c9
      refine y_ic dX4_spreadOut_36 zi_0 ?_
      exact y_k (t_Ma_spreadOut_37  W Ta0 Ta0 F) ⟨rfl, trivial⟩
    · replace F := F.2 c9
      refine y_aln dX4_spreadOut_16 rfl ?_
      refine gf_X4_22 W dX4_spreadOut_17 rfl Ta0 ?_
      refine y_ic dX4_spreadOut_20 zi_0 ?_
      refine y_ald dX4_spreadOut_21 (ty_maWorked W Ta0) F.1 ?_
      replace F := F.2
      refine y_bi1 dX4_spreadOut_22 zb_64 ?_
      refine y_ii ((64 : Int32) < (zA κ (zR κ maWorked a0) ((0 : Int32)).toNatClampNeg)) dX4_spreadOut_24 (t := 36) rfl rfl (fun c9 => ?_) (fun c9 => ?_)
      · replace F := F.1 c9
        refine y_ic dX4_spreadOut_36 zi_0 ?_
        exact y_k (t_Ma_spreadOut_37  W Ta0 Ta0 F) ⟨rfl, trivial⟩
      · replace F := F.2 c9
        refine y_aln dX4_spreadOut_27 rfl ?_
        refine gf_X4_22 W dX4_spreadOut_28 rfl Ta0 ?_
        refine y_ic dX4_spreadOut_31 zi_0 ?_
        refine y_ald dX4_spreadOut_32 (ty_maWorked W Ta0) F.1 ?_
        replace F := F.2
        refine y_goto dX4_spreadOut_33 (t := 37) rfl ?_
        exact y_k (t_Ma_spreadOut_37  W Ta0 Ta0 F) ⟨rfl, trivial⟩

theorem Ma_spreadOut_run {C : zC} {n0 : Nat} {Q : zS → Prop} {a0 : Nat} {a1 : Int32} {a2 : Int32} {κ : zS} (W : zW C n0 κ) (Ta0 : zT κ a0 = 7) (F : w_Ma_spreadOut_0 C (zn κ) Q a0 a1 a2 κ) : zRun C 1 mMa_spreadOut [.ref a0, .int a1, .int a2] κ (oV Q noX) := z_run (m_ent _ 2) (t_Ma_spreadOut_0 (W.lo (Nat.le_trans W.1.2.1 W.1.2.2) (Nat.le_refl _)) Ta0 F)

