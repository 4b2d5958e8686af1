set_option maxHeartbeats 1600000
/-! the class: findVisits and makePlan once more: a row that is stored may be the field's own -/
abbrev zOo9 (κ : zS) (v f a : Nat) : Prop := zO κ v = (0, 0) ∨ zO κ v = (f, a)
theorem zW_uo9 {C : zC} {n0 f a v : Nat} {κ κ1 : zS} (W : zW C n0 κ) (e : κ1 = uo κ f a v) (hv : ∀ t, zr f = some t → zT κ v = t) (ho : zOo9 κ v f a) : zW C n0 κ1 := by
  rcases ho with ho | ho
  · exact zW_uo W e hv ho
  subst e
  obtain ⟨w1, w2, w3, w4, w5, w6, w7, w8, w9⟩ := W
  refine ⟨w1, w2, fun g t b hg hb => ?_, w4, w5, w6, w7, w8, fun g t b hg ht hb => ?_⟩
  · show zT κ (if g = f ∧ b = a then v else zR κ g b) = t
    by_cases e : g = f ∧ b = a
    · rw [if_pos e]; rw [e.1] at hg; exact hv t hg
    · rw [if_neg e]; exact w3 g t b hg hb
  · show (if (if g = f ∧ b = a then v else zR κ g b) = v then (f, a) else zO κ (if g = f ∧ b = a then v else zR κ g b)) = (g, b)
    by_cases e : g = f ∧ b = a
    · rw [if_pos e, if_pos rfl, e.1, e.2]
    · rw [if_neg e]
      have h9 := w9 g t b hg ht hb
      by_cases e2 : zR κ g b = v
      · rw [e2, ho] at h9
        exact absurd ⟨(congrArg Prod.fst h9).symm, (congrArg Prod.snd h9).symm⟩ e
      · rw [if_neg e2]; exact h9

def w_So_findVisitz_214 (C : zC) (n0 : Nat) (Q : Int32 → zS → Prop) (B139 : Nat → Int32 → zS → Prop) (a0 : Nat) (a1 : Int32) (a2 : Int32) (κ : zS) : Prop :=
  (¬ a2 = (0 : Int32) →
    ∀ v1_1 : Int32, v1_1 = a1 + (-1 : Int32) →
    B139 a0 v1_1 κ) ∧
  (a2 = (0 : Int32) →
    Q (-3 : Int32) κ)
theorem t_So_findVisitz_214 {C : zC} {n0 : Nat} {Q : Int32 → zS → Prop} {B139 : Nat → Int32 → zS → Prop} (hB139 : ∀ a0' a1' τ, zW C n0 τ → zT τ a0' = 12 → B139 a0' a1' τ → zG C n0 8 mSo_findVisits 139 [some (.ref a0'), some (.int a1'), none] [] τ (oI Q noX)) {a0 : Nat} {a1 : Int32} {a2 : Int32} {κ : zS} (W : zW C n0 κ) (Ta0 : zT κ a0 = 12) (F : w_So_findVisitz_214 C n0 Q B139 a0 a1 a2 κ) : zG C n0 8 mSo_findVisits 214 [some (.ref a0), some (.int a1), some (.int a2)] [] κ (oI Q noX) := by
  unfold w_So_findVisitz_214 at F
  refine y_iln dX9_findVisits_214 rfl ?_
  refine y_in (a2 = (0 : Int32)) dX9_findVisits_215 (t := 221) rfl rfl (fun c9 => ?_) (fun c9 => ?_)
  · replace F := F.1 c9
    refine y_incb dX9_findVisits_221 zi_m1 rfl (Nat.le_of_ble_eq_true rfl) (fun v1_1 ev1_1 => ?_)
    replace F := F v1_1 ev1_1
    show zG _ _ _ _ _ [some (.ref a0), some (.int v1_1), some (.int a2)] _ _ _
    refine y_goto dX9_findVisits_224 (t := 139) rfl ?_
    exact y_k (hB139 _ _ _ W Ta0 F) ⟨rfl, rfl, trivial⟩
  · replace F := F.2 c9
    refine y_bi1 dX9_findVisits_218 zb_m3 ?_
    exact y_ri W dX9_findVisits_220 rfl in_nar F

def w_So_findVisitz_139 (C : zC) (n0 : Nat) (Q : Int32 → zS → Prop)  (a0 : Nat) (a1 : Int32) (κ : zS) : Prop :=
  ∃ I : Nat → Nat → Int32 → zS → Prop, (∃ n, I n a0 a1 κ) ∧ ∀ n a0 a1 κ, zW C n0 κ → zT κ a0 = 12 → I n a0 a1 κ →
    (a1 < (0 : Int32) →
      ∀ κ1, κ1 = ui κ soSolved a0 (1 : Int32) →
      ∀ _ : zW C n0 κ1,
      Q (0 : Int32) κ1) ∧
    (¬ a1 < (0 : Int32) →
      inb a1 (zN κ (zR κ weKnotFirsts (zR κ soWeb a0))) ∧
      inb (zA κ (zR κ weKnotFirsts (zR κ soWeb a0)) (a1).toNatClampNeg) (zN κ (zR κ weOrder (zR κ soWeb a0))) ∧
      inb (zA κ (zR κ weOrder (zR κ soWeb a0)) ((zA κ (zR κ weKnotFirsts (zR κ soWeb a0)) (a1).toNatClampNeg)).toNatClampNeg) (zN κ (zR κ weOpen (zR κ soWeb a0))) ∧
      ((zA κ (zR κ weOpen (zR κ soWeb a0)) ((zA κ (zR κ weOrder (zR κ soWeb a0)) ((zA κ (zR κ weKnotFirsts (zR κ soWeb a0)) (a1).toNatClampNeg)).toNatClampNeg)).toNatClampNeg) = (0 : Int32) →
        w_So_findVisitz_214 C n0 Q (fun a0' a1' τ => ∃ k < n, I k a0' a1' τ) a0 a1 (1 : Int32) κ) ∧
      (¬ (zA κ (zR κ weOpen (zR κ soWeb a0)) ((zA κ (zR κ weOrder (zR κ soWeb a0)) ((zA κ (zR κ weKnotFirsts (zR κ soWeb a0)) (a1).toNatClampNeg)).toNatClampNeg)).toNatClampNeg) = (0 : Int32) →
        ∀ _ : zT κ (zR κ soWeb a0) = 14,
        zRun C 1 mWe_isRing [.ref (zR κ soWeb a0), .int a1] κ (oI (fun r3 κ2 =>
          ∀ _ : zW C n0 κ2,
          ∀ _ : zM (zn κ) κ κ2,
          (r3 = (0 : Int32) →
            inb a1 (zN κ2 (zR κ2 weKnotFirsts (zR κ2 soWeb a0))) ∧
            inb (zA κ2 (zR κ2 weKnotFirsts (zR κ2 soWeb a0)) (a1).toNatClampNeg) (zN κ2 (zR κ2 weOrder (zR κ2 soWeb a0))) ∧
            ∀ _ : zT κ2 a0 = 12,
            zRun C 7 mSo_visitOne [.ref a0, .int (zA κ2 (zR κ2 weOrder (zR κ2 soWeb a0)) ((zA κ2 (zR κ2 weKnotFirsts (zR κ2 soWeb a0)) (a1).toNatClampNeg)).toNatClampNeg)] κ2 (oI (fun r7 κ6 =>
              ∀ _ : zW C n0 κ6,
              ∀ _ : zM (zn κ2) κ2 κ6,
              w_So_findVisitz_214 C n0 Q (fun a0' a1' τ => ∃ k < n, I k a0' a1' τ) a0 a1 r7 κ6) noX)) ∧
          (¬ r3 = (0 : Int32) →
            ∀ _ : zT κ2 a0 = 12,
            zRun C 7 mSo_visitRing [.ref a0, .int a1] κ2 (oI (fun r11 κ10 =>
              ∀ _ : zW C n0 κ10,
              ∀ _ : zM (zn κ2) κ2 κ10,
              w_So_findVisitz_214 C n0 Q (fun a0' a1' τ => ∃ k < n, I k a0' a1' τ) a0 a1 r11 κ10) noX))) noX)))
theorem t_So_findVisitz_139 {C : zC} {n0 : Nat} {Q : Int32 → zS → Prop}   {a0 : Nat} {a1 : Int32} {κ : zS} (W : zW C n0 κ) (Ta0 : zT κ a0 = 12) (F : w_So_findVisitz_139 C n0 Q  a0 a1 κ) : zG C n0 8 mSo_findVisits 139 [some (.ref a0), some (.int a1), none] [] κ (oI Q noX) := by
  obtain ⟨I, ⟨m0, hI0⟩, F0⟩ := F
  have key : ∀ n a0 a1 κ, zW C n0 κ → zT κ a0 = 12 → I n a0 a1 κ → zG C n0 8 mSo_findVisits 139 [some (.ref a0), some (.int a1), none] [] κ (oI Q noX) := by
    intro n
    induction n using Nat.strongRecOn with
    | _ n ih =>
      intro a0 a1 κ W Ta0 hI
      have F := F0 n a0 a1 κ W Ta0 hI
      clear hI hI0
      refine y_iln dX9_findVisits_139 rfl ?_
      refine y_i (a1 < (0 : Int32)) dX9_findVisits_140 (t := 227) rfl rfl (fun c9 => ?_) (fun c9 => ?_)
      · replace F := F.1 c9
        refine y_aln dX9_findVisits_227 rfl ?_
        refine y_ic dX9_findVisits_228 zi_1 ?_
        refine pf_X9_84 W dX9_findVisits_229 rfl (nb_nar nb_1) (Or.inl Ta0) (fun κ1 eκ1 => ?_)
        replace F := F κ1 eκ1
        have Wκ1 : zW C n0 κ1 := zW_ui W eκ1 (fun _ => nb_1)
        have Mκ1 : zM (zn κ) κ κ1 := by rw [eκ1]; exact zM.of rfl rfl rfl
        replace F := F Wκ1
        refine y_ic dX9_findVisits_232 zi_0 ?_
        exact y_ri Wκ1 dX9_findVisits_233 rfl in_nar F
      · replace F := F.2 c9
        refine y_ic dX9_findVisits_143 zi_1 ?_
        refine y_isn dX9_findVisits_144 (Nat.le_of_ble_eq_true rfl) rfl ?_
        show zG _ _ _ _ _ [some (.ref a0), some (.int a1), some (.int (1 : Int32))] _ _ _
        refine y_aln dX9_findVisits_145 rfl ?_
        refine gf_X9_25 W dX9_findVisits_146 rfl Ta0 ?_
        refine gf_X9_101 W dX9_findVisits_149 rfl (ty_soWeb W Ta0) ?_
        refine y_aln dX9_findVisits_152 rfl ?_
        refine gf_X9_25 W dX9_findVisits_153 rfl Ta0 ?_
        refine gf_X9_105 W dX9_findVisits_156 rfl (ty_soWeb W Ta0) ?_
        refine y_aln dX9_findVisits_159 rfl ?_
        refine gf_X9_25 W dX9_findVisits_160 rfl Ta0 ?_
        refine gf_X9_108 W dX9_findVisits_163 rfl (ty_soWeb W Ta0) ?_
        refine y_iln dX9_findVisits_166 rfl ?_
        refine y_ald dX9_findVisits_167 (ty_weKnotFirsts W (ty_soWeb W Ta0)) F.1 ?_
        replace F := F.2
        refine y_ald dX9_findVisits_168 (ty_weOrder W (ty_soWeb W Ta0)) F.1 ?_
        replace F := F.2
        refine y_zld dX9_findVisits_169 (ty_weOpen W (ty_soWeb W Ta0)) F.1 ?_
        replace F := F.2
        refine y_i ((zA κ (zR κ weOpen (zR κ soWeb a0)) ((zA κ (zR κ weOrder (zR κ soWeb a0)) ((zA κ (zR κ weKnotFirsts (zR κ soWeb a0)) (a1).toNatClampNeg)).toNatClampNeg)).toNatClampNeg) = (0 : Int32)) dX9_findVisits_170 (t := 214) rfl rfl (fun c9 => ?_) (fun c9 => ?_)
        · replace F := F.1 c9
          exact y_k (t_So_findVisitz_214 (fun a0' a1' τ w9 f09 hb => by obtain ⟨k, hk, hI⟩ := hb; exact ih k hk a0' a1' τ w9 f09 hI) W Ta0 F) ⟨rfl, rfl, rfl, trivial⟩
        · replace F := F.2 c9
          refine y_aln dX9_findVisits_173 rfl ?_
          refine gf_X9_25 W dX9_findVisits_174 rfl Ta0 ?_
          refine y_iln dX9_findVisits_177 rfl ?_
          replace F := F (ty_soWeb W Ta0)
          refine k_X9_122 W dX9_findVisits_178 rfl (Nat.le_of_ble_eq_true rfl) (Nat.le_of_ble_eq_true rfl) (Or.inl (ty_soWeb W Ta0)) F (fun r3 κ2 Wκ2 Mκ2 F => ?_) (fun _ _ h9 => False.elim h9)
          replace F := F Wκ2 Mκ2
          refine y_i (r3 = (0 : Int32)) dX9_findVisits_181 (t := 192) rfl rfl (fun c9 => ?_) (fun c9 => ?_)
          · replace F := F.1 c9
            refine y_aln dX9_findVisits_192 rfl ?_
            refine y_aln dX9_findVisits_193 rfl ?_
            have h5 := (ztm W Mκ2 Ta0)
            refine gf_X9_25 Wκ2 dX9_findVisits_194 rfl h5 ?_
            refine gf_X9_105 Wκ2 dX9_findVisits_197 rfl (ty_soWeb Wκ2 h5) ?_
            refine y_aln dX9_findVisits_200 rfl ?_
            refine gf_X9_25 Wκ2 dX9_findVisits_201 rfl h5 ?_
            refine gf_X9_108 Wκ2 dX9_findVisits_204 rfl (ty_soWeb Wκ2 h5) ?_
            refine y_iln dX9_findVisits_207 rfl ?_
            refine y_ald dX9_findVisits_208 (ty_weKnotFirsts Wκ2 (ty_soWeb Wκ2 h5)) F.1 ?_
            replace F := F.2
            refine y_ald dX9_findVisits_209 (ty_weOrder Wκ2 (ty_soWeb Wκ2 h5)) F.1 ?_
            replace F := F.2
            replace F := F h5
            refine k_X9_129 Wκ2 dX9_findVisits_210 rfl (Nat.le_of_ble_eq_true rfl) (Nat.le_of_ble_eq_true rfl) (Or.inl h5) F (fun r7 κ6 Wκ6 Mκ6 F => ?_) (fun _ _ h9 => False.elim h9)
            replace F := F Wκ6 Mκ6
            refine y_isn dX9_findVisits_213 (Nat.le_of_ble_eq_true rfl) rfl ?_
            show zG _ _ _ _ _ [some (.ref a0), some (.int a1), some (.int r7)] _ _ _
            have h9 := (ztm Wκ2 Mκ6 h5)
            exact y_k (t_So_findVisitz_214 (fun a0' a1' τ w9 f09 hb => by obtain ⟨k, hk, hI⟩ := hb; exact ih k hk a0' a1' τ w9 f09 hI) Wκ6 h9 F) ⟨rfl, rfl, rfl, trivial⟩
          · replace F := F.2 c9
            refine y_aln dX9_findVisits_184 rfl ?_
            refine y_iln dX9_findVisits_185 rfl ?_
            have h12 := (ztm W Mκ2 Ta0)
            replace F := F h12
            refine k_X9_126 Wκ2 dX9_findVisits_186 rfl (Nat.le_of_ble_eq_true rfl) (Nat.le_of_ble_eq_true rfl) (Or.inl h12) F (fun r11 κ10 Wκ10 Mκ10 F => ?_) (fun _ _ h9 => False.elim h9)
            replace F := F Wκ10 Mκ10
            refine y_goto dX9_findVisits_189 (t := 213) rfl ?_
            refine y_isn dX9_findVisits_213 (Nat.le_of_ble_eq_true rfl) rfl ?_
            show zG _ _ _ _ _ [some (.ref a0), some (.int a1), some (.int r11)] _ _ _
            have h14 := (ztm Wκ2 Mκ10 h12)
            exact y_k (t_So_findVisitz_214 (fun a0' a1' τ w9 f09 hb => by obtain ⟨k, hk, hI⟩ := hb; exact ih k hk a0' a1' τ w9 f09 hI) Wκ10 h14 F) ⟨rfl, rfl, rfl, trivial⟩
  exact key m0 a0 a1 κ W Ta0 hI0

def w_So_findVisitz_129 (C : zC) (n0 : Nat) (Q : Int32 → zS → Prop)  (a0 : Nat) (κ : zS) : Prop :=
  ∀ v1_1 : Int32, v1_1 = ((zI κ weKnots (zR κ soWeb a0)) - (1 : Int32)) →
  w_So_findVisitz_139 C n0 Q  a0 v1_1 κ
theorem t_So_findVisitz_129 {C : zC} {n0 : Nat} {Q : Int32 → zS → Prop}   {a0 : Nat} {κ : zS} (W : zW C n0 κ) (Ta0 : zT κ a0 = 12) (F : w_So_findVisitz_129 C n0 Q  a0 κ) : zG C n0 8 mSo_findVisits 129 [some (.ref a0), none, none] [] κ (oI Q noX) := by
  unfold w_So_findVisitz_129 at F
  refine y_aln dX9_findVisits_129 rfl ?_
  refine gf_X9_25 W dX9_findVisits_130 rfl Ta0 ?_
  refine gf_X9_97 dX9_findVisits_133 rfl (Or.inl (ty_soWeb W Ta0)) ?_
  refine y_ic dX9_findVisits_136 zi_1 ?_
  refine y_isub dX9_findVisits_137 ?_
  refine y_isnb dX9_findVisits_138 (Nat.le_of_ble_eq_true rfl) (fun v1_1 ev1_1 => ?_)
  replace F := F v1_1 ev1_1
  show zG _ _ _ _ _ [some (.ref a0), some (.int v1_1), none] _ _ _
  exact y_k (t_So_findVisitz_139  W Ta0 F) ⟨rfl, rfl, trivial⟩

def w_So_findVisitz_26 (C : zC) (n0 : Nat) (Q : Int32 → zS → Prop)  (a0 : Nat) (a1 : Int32) (κ : zS) : Prop :=
  ∃ I : Nat → Nat → Int32 → zS → Prop, (∃ n, I n a0 a1 κ) ∧ ∀ n a0 a1 κ, zW C n0 κ → zT κ a0 = 12 → I n a0 a1 κ →
    ((zI κ weKnots (zR κ soWeb a0)) ≤ a1 →
      ∀ _ : zT κ (zR κ soVisits a0) = 25,
      zRun C 3 mSo_fresh [.ref (zR κ soVisits a0), .int (zI κ weTotal (zR κ soWeb a0))] κ (oR 25 (fun r2 κ1 =>
        ∀ _ : zW C n0 κ1,
        ∀ _ : zM (zn κ) κ κ1,
        ∀ _ : zT κ1 r2 = 25,
        zOo9 κ1 r2 soVisits a0 ∧
        ∀ κ4, κ4 = uo κ1 soVisits a0 r2 →
        ∀ _ : zW C n0 κ4,
        ((zI κ4 weTotal (zR κ4 soWeb a0)) ≤ (Int32.ofNat (zN κ4 (zR κ4 soRows a0))) →
          w_So_findVisitz_129 C n0 Q  a0 κ4) ∧
        (¬ (zI κ4 weTotal (zR κ4 soWeb a0)) ≤ (Int32.ofNat (zN κ4 (zR κ4 soRows a0))) →
          nsz (1000 : Int32) ∧
          ∀ κ8, κ8 = na κ4 20 ((1000 : Int32)).toNatClampNeg →
          ∀ _ : zW C n0 κ8,
          zO κ8 (zn κ4) = (0, 0) ∧
          ∀ κ11, κ11 = uo κ8 soRows a0 (zn κ4) →
          ∀ _ : zW C n0 κ11,
          w_So_findVisitz_129 C n0 Q  a0 κ11)) noX)) ∧
    (¬ (zI κ weKnots (zR κ soWeb a0)) ≤ a1 →
      inb a1 (zN κ (zR κ weKnotFirsts (zR κ soWeb a0))) ∧
      inb (zA κ (zR κ weKnotFirsts (zR κ soWeb a0)) (a1).toNatClampNeg) (zN κ (zR κ weOrder (zR κ soWeb a0))) ∧
      inb (zA κ (zR κ weOrder (zR κ soWeb a0)) ((zA κ (zR κ weKnotFirsts (zR κ soWeb a0)) (a1).toNatClampNeg)).toNatClampNeg) (zN κ (zR κ weOpen (zR κ soWeb a0))) ∧
      ((zA κ (zR κ weOpen (zR κ soWeb a0)) ((zA κ (zR κ weOrder (zR κ soWeb a0)) ((zA κ (zR κ weKnotFirsts (zR κ soWeb a0)) (a1).toNatClampNeg)).toNatClampNeg)).toNatClampNeg) = (0 : Int32) →
        ∀ v1_15 : Int32, v1_15 = a1 + (1 : Int32) →
        ∃ k < n, I k a0 v1_15 κ) ∧
      (¬ (zA κ (zR κ weOpen (zR κ soWeb a0)) ((zA κ (zR κ weOrder (zR κ soWeb a0)) ((zA κ (zR κ weKnotFirsts (zR κ soWeb a0)) (a1).toNatClampNeg)).toNatClampNeg)).toNatClampNeg) = (0 : Int32) →
        ∀ _ : zT κ (zR κ soWeb a0) = 14,
        zRun C 0 mWe_sizeOf [.ref (zR κ soWeb a0), .int a1] κ (oI (fun r17 κ16 =>
          ∀ _ : zW C n0 κ16,
          ∀ _ : zM (zn κ) κ κ16,
          (r17 ≤ (32 : Int32) →
            ∀ v1_19 : Int32, v1_19 = a1 + (1 : Int32) →
            ∃ k < n, I k a0 v1_19 κ16) ∧
          (¬ r17 ≤ (32 : Int32) →
            Q (-2 : Int32) κ16)) noX)))
theorem t_So_findVisitz_26 {C : zC} {n0 : Nat} {Q : Int32 → zS → Prop}   {a0 : Nat} {a1 : Int32} {κ : zS} (W : zW C n0 κ) (Ta0 : zT κ a0 = 12) (F : w_So_findVisitz_26 C n0 Q  a0 a1 κ) : zG C n0 8 mSo_findVisits 26 [some (.ref a0), some (.int a1), none] [] κ (oI Q noX) := by
  obtain ⟨I, ⟨m0, hI0⟩, F0⟩ := F
  have key : ∀ n a0 a1 κ, zW C n0 κ → zT κ a0 = 12 → I n a0 a1 κ → zG C n0 8 mSo_findVisits 26 [some (.ref a0), some (.int a1), none] [] κ (oI Q noX) := by
    intro n
    induction n using Nat.strongRecOn with
    | _ n ih =>
      intro a0 a1 κ W Ta0 hI
      have F := F0 n a0 a1 κ W Ta0 hI
      clear hI hI0
      refine y_iln dX9_findVisits_26 rfl ?_
      refine y_aln dX9_findVisits_27 rfl ?_
      refine gf_X9_25 W dX9_findVisits_28 rfl Ta0 ?_
      refine gf_X9_97 dX9_findVisits_31 rfl (Or.inl (ty_soWeb W Ta0)) ?_
      refine y_ii ((zI κ weKnots (zR κ soWeb a0)) ≤ a1) dX9_findVisits_34 (t := 87) rfl rfl (fun c9 => ?_) (fun c9 => ?_)
      · replace F := F.1 c9
        refine y_aln dX9_findVisits_87 rfl ?_
        refine y_aln dX9_findVisits_88 rfl ?_
        refine gf_X9_28 W dX9_findVisits_89 rfl Ta0 ?_
        refine y_aln dX9_findVisits_92 rfl ?_
        refine gf_X9_25 W dX9_findVisits_93 rfl Ta0 ?_
        refine gf_X9_115 dX9_findVisits_96 rfl (Or.inl (ty_soWeb W Ta0)) ?_
        replace F := F (ty_soVisits W Ta0)
        refine k_X9_118 W dX9_findVisits_99 rfl (Nat.le_of_ble_eq_true rfl) (Nat.le_of_ble_eq_true rfl)  F (fun r2 κ1 Wκ1 Mκ1 g3 F => ?_) (fun _ _ h9 => False.elim h9)
        replace F := F Wκ1 Mκ1 g3
        have b5 := F.1
        replace F := F.2
        have h6 := (ztm W Mκ1 Ta0)
        refine pf_X9_28 Wκ1 dX9_findVisits_102 rfl (Or.inl h6) g3 (fun κ4 eκ4 => ?_)
        replace F := F κ4 eκ4
        have Wκ4 : zW C n0 κ4 := zW_uo9 Wκ1 eκ4 (fun t ht => by cases ht; exact g3) b5
        have Mκ4 : zM (zn κ1) κ1 κ4 := by rw [eκ4]; exact zM.of rfl rfl rfl
        replace F := F Wκ4
        refine y_aln dX9_findVisits_105 rfl ?_
        have h7 := (ztm Wκ1 Mκ4 h6)
        refine gf_X9_68 Wκ4 dX9_findVisits_106 rfl h7 ?_
        refine y_alen (t := 0) dX9_findVisits_109 (ty_soRows Wκ4 h7) (by decide) ?_
        refine y_aln dX9_findVisits_110 rfl ?_
        refine gf_X9_25 Wκ4 dX9_findVisits_111 rfl h7 ?_
        refine gf_X9_115 dX9_findVisits_114 rfl (Or.inl (ty_soWeb Wκ4 h7)) ?_
        refine y_ii ((zI κ4 weTotal (zR κ4 soWeb a0)) ≤ (Int32.ofNat (zN κ4 (zR κ4 soRows a0)))) dX9_findVisits_117 (t := 129) rfl rfl (fun c9 => ?_) (fun c9 => ?_)
        · replace F := F.1 c9
          exact y_k (t_So_findVisitz_129  Wκ4 h7 F) ⟨rfl, trivial⟩
        · replace F := F.2 c9
          refine y_aln dX9_findVisits_120 rfl ?_
          refine y_si dX9_findVisits_121 zs_1000 ?_
          have b9 := F.1
          refine y_newa (t := 0) Wκ4 dX9_findVisits_124 (by decide) b9 (fun κ8 eκ8 => ?_)
          replace F := F.2 κ8 eκ8
          have Wκ8 : zW C n0 κ8 := zW_na Wκ4 eκ8 (by decide) (by decide) b9.2
          have Mκ8 : zM (zn κ4) κ4 κ8 := zM_na (Wκ4.lo (Nat.le_trans Wκ4.1.2.1 Wκ4.1.2.2) (Nat.le_refl _)) eκ8
          replace F := F Wκ8
          have g10 : zT κ8 (zn κ4) = 20 := by rw [eκ8]; exact if_pos rfl
          have b12 := F.1
          replace F := F.2
          have h13 := (ztm Wκ4 Mκ8 h7)
          refine pf_X9_68 Wκ8 dX9_findVisits_126 rfl (Or.inl h13) g10 (fun κ11 eκ11 => ?_)
          replace F := F κ11 eκ11
          have Wκ11 : zW C n0 κ11 := zW_uo Wκ8 eκ11 (fun t ht => by cases ht; exact g10) b12
          have Mκ11 : zM (zn κ8) κ8 κ11 := by rw [eκ11]; exact zM.of rfl rfl rfl
          replace F := F Wκ11
          have h14 := (ztm Wκ8 Mκ11 h13)
          exact y_k (t_So_findVisitz_129  Wκ11 h14 F) ⟨rfl, trivial⟩
      · replace F := F.2 c9
        refine y_aln dX9_findVisits_37 rfl ?_
        refine gf_X9_25 W dX9_findVisits_38 rfl Ta0 ?_
        refine gf_X9_101 W dX9_findVisits_41 rfl (ty_soWeb W Ta0) ?_
        refine y_aln dX9_findVisits_44 rfl ?_
        refine gf_X9_25 W dX9_findVisits_45 rfl Ta0 ?_
        refine gf_X9_105 W dX9_findVisits_48 rfl (ty_soWeb W Ta0) ?_
        refine y_aln dX9_findVisits_51 rfl ?_
        refine gf_X9_25 W dX9_findVisits_52 rfl Ta0 ?_
        refine gf_X9_108 W dX9_findVisits_55 rfl (ty_soWeb W Ta0) ?_
        refine y_iln dX9_findVisits_58 rfl ?_
        refine y_ald dX9_findVisits_59 (ty_weKnotFirsts W (ty_soWeb W Ta0)) F.1 ?_
        replace F := F.2
        refine y_ald dX9_findVisits_60 (ty_weOrder W (ty_soWeb W Ta0)) F.1 ?_
        replace F := F.2
        refine y_zld dX9_findVisits_61 (ty_weOpen W (ty_soWeb W Ta0)) F.1 ?_
        replace F := F.2
        refine y_i ((zA κ (zR κ weOpen (zR κ soWeb a0)) ((zA κ (zR κ weOrder (zR κ soWeb a0)) ((zA κ (zR κ weKnotFirsts (zR κ soWeb a0)) (a1).toNatClampNeg)).toNatClampNeg)).toNatClampNeg) = (0 : Int32)) dX9_findVisits_62 (t := 81) rfl rfl (fun c9 => ?_) (fun c9 => ?_)
        · replace F := F.1 c9
          refine y_incb dX9_findVisits_81 zi_1 rfl (Nat.le_of_ble_eq_true rfl) (fun v1_15 ev1_15 => ?_)
          replace F := F v1_15 ev1_15
          show zG _ _ _ _ _ [some (.ref a0), some (.int v1_15), none] _ _ _
          refine y_goto dX9_findVisits_84 (t := 26) rfl ?_
          obtain ⟨k, hk, hI⟩ := F
          exact y_k (ih k hk _ _ _ W Ta0 hI) ⟨rfl, rfl, trivial⟩
        · replace F := F.2 c9
          refine y_aln dX9_findVisits_65 rfl ?_
          refine gf_X9_25 W dX9_findVisits_66 rfl Ta0 ?_
          refine y_iln dX9_findVisits_69 rfl ?_
          replace F := F (ty_soWeb W Ta0)
          refine k_X9_111 W dX9_findVisits_70 rfl (Nat.le_of_ble_eq_true rfl) (Nat.le_of_ble_eq_true rfl) (Or.inl (ty_soWeb W Ta0)) F (fun r17 κ16 Wκ16 Mκ16 F => ?_) (fun _ _ h9 => False.elim h9)
          replace F := F Wκ16 Mκ16
          refine y_bi1 dX9_findVisits_73 zb_32 ?_
          refine y_ii (r17 ≤ (32 : Int32)) dX9_findVisits_75 (t := 81) rfl rfl (fun c9 => ?_) (fun c9 => ?_)
          · replace F := F.1 c9
            refine y_incb dX9_findVisits_81 zi_1 rfl (Nat.le_of_ble_eq_true rfl) (fun v1_19 ev1_19 => ?_)
            replace F := F v1_19 ev1_19
            show zG _ _ _ _ _ [some (.ref a0), some (.int v1_19), none] _ _ _
            refine y_goto dX9_findVisits_84 (t := 26) rfl ?_
            have h20 := (ztm W Mκ16 Ta0)
            obtain ⟨k, hk, hI⟩ := F
            exact y_k (ih k hk _ _ _ Wκ16 h20 hI) ⟨rfl, rfl, trivial⟩
          · replace F := F.2 c9
            refine y_bi1 dX9_findVisits_78 zb_m2 ?_
            exact y_ri Wκ16 dX9_findVisits_80 rfl in_nar F
  exact key m0 a0 a1 κ W Ta0 hI0

def w_So_findVisitz_0 (C : zC) (n0 : Nat) (Q : Int32 → zS → Prop)  (a0 : Nat) (κ : zS) : Prop :=
  ∀ κ1, κ1 = ui κ soSolved a0 (0 : Int32) →
  ∀ _ : zW C n0 κ1,
  ∀ _ : zT κ1 (zR κ1 soWeb a0) = 14,
  ∀ _ : zT κ1 (zR κ1 soAtlas a0) = 3,
  zRun C 2 mWe_weave [.ref (zR κ1 soWeb a0), .ref (zR κ1 soAtlas a0), .int (1 : Int32)] κ1 (oV (fun κ3 =>
    ∀ _ : zW C n0 κ3,
    ∀ _ : zM (zn κ1) κ1 κ3,
    ∀ _ : zT κ3 (zR κ3 soWeb a0) = 14,
    zRun C 2 mWe_knot [.ref (zR κ3 soWeb a0)] κ3 (oV (fun κ7 =>
      ∀ _ : zW C n0 κ7,
      ∀ _ : zM (zn κ3) κ3 κ7,
      w_So_findVisitz_26 C n0 Q  a0 (0 : Int32) κ7) noX)) noX)
theorem t_So_findVisitz_0 {C : zC} {n0 : Nat} {Q : Int32 → zS → Prop}   {a0 : Nat} {κ : zS} (W : zW C n0 κ) (Ta0 : zT κ a0 = 12) (F : w_So_findVisitz_0 C n0 Q  a0 κ) : zG C n0 8 mSo_findVisits 0 [some (.ref a0), none, none] [] κ (oI Q noX) := by
  unfold w_So_findVisitz_0 at F
  refine y_aln dX9_findVisits_0 rfl ?_
  refine y_ic dX9_findVisits_1 zi_0 ?_
  refine pf_X9_84 W dX9_findVisits_2 rfl (nb_nar nb_0) (Or.inl Ta0) (fun κ1 eκ1 => ?_)
  replace F := F κ1 eκ1
  have Wκ1 : zW C n0 κ1 := zW_ui W eκ1 (fun _ => nb_0)
  have Mκ1 : zM (zn κ) κ κ1 := by rw [eκ1]; exact zM.of rfl rfl rfl
  replace F := F Wκ1
  refine y_aln dX9_findVisits_5 rfl ?_
  have h2 := (ztm W Mκ1 Ta0)
  refine gf_X9_25 Wκ1 dX9_findVisits_6 rfl h2 ?_
  refine y_aln dX9_findVisits_9 rfl ?_
  refine gf_X9_9 Wκ1 dX9_findVisits_10 rfl h2 ?_
  refine y_ic dX9_findVisits_13 zi_1 ?_
  replace F := F (ty_soWeb Wκ1 h2)
  replace F := F (ty_soAtlas Wκ1 h2)
  refine k_X9_88 Wκ1 dX9_findVisits_14 rfl (Nat.le_of_ble_eq_true rfl) (Nat.le_of_ble_eq_true rfl) (Or.inl (ty_soWeb Wκ1 h2)) F (fun  κ3 Wκ3 Mκ3 F => ?_) (fun _ _ h9 => False.elim h9)
  replace F := F Wκ3 Mκ3
  refine y_aln dX9_findVisits_17 rfl ?_
  have h6 := (ztm Wκ1 Mκ3 h2)
  refine gf_X9_25 Wκ3 dX9_findVisits_18 rfl h6 ?_
  replace F := F (ty_soWeb Wκ3 h6)
  refine k_X9_94 Wκ3 dX9_findVisits_21 rfl (Nat.le_of_ble_eq_true rfl) (Nat.le_of_ble_eq_true rfl) (Or.inl (ty_soWeb Wκ3 h6)) F (fun  κ7 Wκ7 Mκ7 F => ?_) (fun _ _ h9 => False.elim h9)
  replace F := F Wκ7 Mκ7
  refine y_ic dX9_findVisits_24 zi_0 ?_
  refine y_isn dX9_findVisits_25 (Nat.le_of_ble_eq_true rfl) rfl ?_
  show zG _ _ _ _ _ [some (.ref a0), some (.int (0 : Int32)), none] _ _ _
  have h10 := (ztm Wκ3 Mκ7 h6)
  exact y_k (t_So_findVisitz_26  Wκ7 h10 F) ⟨rfl, rfl, trivial⟩

theorem So_findVisitz_run {C : zC} {n0 : Nat} {Q : Int32 → zS → Prop} {a0 : Nat} {κ : zS} (W : zW C n0 κ) (Ta0 : zT κ a0 = 12) (F : w_So_findVisitz_0 C (zn κ) Q a0 κ) : zRun C 8 mSo_findVisits [.ref a0] κ (oI Q noX) := z_run (m_ent _ 2) (t_So_findVisitz_0 (W.lo (Nat.le_trans W.1.2.1 W.1.2.2) (Nat.le_refl _)) Ta0 F)


def w_So_makePlanz_141 (C : zC) (n0 : Nat) (Q : Int32 → zS → Prop) (B76 : Nat → Int32 → zS → Prop) (a0 : Nat) (a1 : Int32) (s0 : Int32) (κ : zS) : Prop :=
  (¬ s0 = (0 : Int32) →
    ∀ v1_1 : Int32, v1_1 = a1 + (1 : Int32) →
    B76 a0 v1_1 κ) ∧
  (s0 = (0 : Int32) →
    Q (-3 : Int32) κ)
theorem t_So_makePlanz_141 {C : zC} {n0 : Nat} {Q : Int32 → zS → Prop} {B76 : Nat → Int32 → zS → Prop} (hB76 : ∀ a0' a1' τ, zW C n0 τ → zT τ a0' = 12 → B76 a0' a1' τ → zG C n0 8 mSo_makePlan 76 [some (.ref a0'), some (.int a1'), none, none] [] τ (oI Q noX)) {a0 : Nat} {a1 : Int32} {s0 : Int32} {κ : zS} (W : zW C n0 κ) (Ta0 : zT κ a0 = 12) (F : w_So_makePlanz_141 C n0 Q B76 a0 a1 s0 κ) : zG C n0 8 mSo_makePlan 141 [some (.ref a0), some (.int a1), none, none] [.int s0] κ (oI Q noX) := by
  unfold w_So_makePlanz_141 at F
  refine y_isn dX9_makePlan_141 (Nat.le_of_ble_eq_true rfl) rfl ?_
  show zG _ _ _ _ _ [some (.ref a0), some (.int a1), none, some (.int s0)] _ _ _
  refine y_iln dX9_makePlan_142 rfl ?_
  refine y_in (s0 = (0 : Int32)) dX9_makePlan_143 (t := 149) rfl rfl (fun c9 => ?_) (fun c9 => ?_)
  · replace F := F.1 c9
    refine y_incb dX9_makePlan_149 zi_1 rfl (Nat.le_of_ble_eq_true rfl) (fun v1_1 ev1_1 => ?_)
    replace F := F v1_1 ev1_1
    show zG _ _ _ _ _ [some (.ref a0), some (.int v1_1), none, some (.int s0)] _ _ _
    refine y_goto dX9_makePlan_152 (t := 76) rfl ?_
    exact y_k (hB76 _ _ _ W Ta0 F) ⟨rfl, rfl, trivial⟩
  · replace F := F.2 c9
    refine y_bi1 dX9_makePlan_146 zb_m3 ?_
    exact y_ri W dX9_makePlan_148 rfl in_nar F

def w_So_makePlanz_128 (C : zC) (n0 : Nat) (Q : Int32 → zS → Prop) (B76 : Nat → Int32 → zS → Prop) (a0 : Nat) (a1 : Int32) (a2 : Int32) (κ : zS) : Prop :=
  ∀ _ : zT κ a0 = 12,
  zRun C 5 mSo_findWorth [.ref a0, .int a2] κ (oI (fun r2 κ1 =>
    ∀ _ : zW C n0 κ1,
    ∀ _ : zM (zn κ) κ κ1,
    w_So_makePlanz_141 C n0 Q B76 a0 a1 r2 κ1) noX)
theorem t_So_makePlanz_128 {C : zC} {n0 : Nat} {Q : Int32 → zS → Prop} {B76 : Nat → Int32 → zS → Prop} (hB76 : ∀ a0' a1' τ, zW C n0 τ → zT τ a0' = 12 → B76 a0' a1' τ → zG C n0 8 mSo_makePlan 76 [some (.ref a0'), some (.int a1'), none, none] [] τ (oI Q noX)) {a0 : Nat} {a1 : Int32} {a2 : Int32} {κ : zS} (W : zW C n0 κ) (Ta0 : zT κ a0 = 12) (F : w_So_makePlanz_128 C n0 Q B76 a0 a1 a2 κ) : zG C n0 8 mSo_makePlan 128 [some (.ref a0), some (.int a1), some (.int a2), none] [] κ (oI Q noX) := by
  unfold w_So_makePlanz_128 at F
  refine y_aln dX9_makePlan_128 rfl ?_
  refine y_iln dX9_makePlan_129 rfl ?_
  replace F := F Ta0
  refine k_X9_293 W dX9_makePlan_130 rfl (Nat.le_of_ble_eq_true rfl) (Nat.le_of_ble_eq_true rfl) (Or.inl Ta0) F (fun r2 κ1 Wκ1 Mκ1 F => ?_) (fun _ _ h9 => False.elim h9)
  replace F := F Wκ1 Mκ1
  refine y_goto dX9_makePlan_133 (t := 141) rfl ?_
  have h4 := (ztm W Mκ1 Ta0)
  exact y_k (t_So_makePlanz_141 hB76 Wκ1 h4 F) ⟨rfl, rfl, trivial⟩

def w_So_makePlanz_76 (C : zC) (n0 : Nat) (Q : Int32 → zS → Prop)  (a0 : Nat) (a1 : Int32) (κ : zS) : Prop :=
  ∃ I : Nat → Nat → Int32 → zS → Prop, (∃ n, I n a0 a1 κ) ∧ ∀ n a0 a1 κ, zW C n0 κ → zT κ a0 = 12 → I n a0 a1 κ →
    ((zI κ weTotal (zR κ soWeb a0)) ≤ a1 →
      cpo κ (zR κ soTaken a0) (zR κ atPlan (zR κ soAtlas a0)) (0 : Int32) (0 : Int32) (zI κ weTotal (zR κ soWeb a0)) ∧
      ∀ κ1, κ1 = uc κ (zR κ soTaken a0) (zR κ atPlan (zR κ soAtlas a0)) ((0 : Int32)).toNatClampNeg ((0 : Int32)).toNatClampNeg ((zI κ weTotal (zR κ soWeb a0))).toNatClampNeg →
      ∀ _ : zW C n0 κ1,
      ∀ κ2, κ2 = ui κ1 soPlanned a0 (1 : Int32) →
      ∀ _ : zW C n0 κ2,
      ∀ κ4, κ4 = ui κ2 soSolved a0 (0 : Int32) →
      ∀ _ : zW C n0 κ4,
      Q (0 : Int32) κ4) ∧
    (¬ (zI κ weTotal (zR κ soWeb a0)) ≤ a1 →
      inb a1 (zN κ (zR κ weOrder (zR κ soWeb a0))) ∧
      ∀ v2_6 : Int32, v2_6 = (zA κ (zR κ weOrder (zR κ soWeb a0)) (a1).toNatClampNeg) →
      inb v2_6 (zN κ (zR κ soTaken a0)) ∧
      ∀ κ7, κ7 = ua κ (zR κ soTaken a0) (v2_6).toNatClampNeg (0 : Int32) →
      ∀ _ : zW C n0 κ7,
      inb v2_6 (zN κ7 (zR κ7 atChooses (zR κ7 soAtlas a0))) ∧
      (¬ (zA κ7 (zR κ7 atChooses (zR κ7 soAtlas a0)) (v2_6).toNatClampNeg) = (0 : Int32) →
        w_So_makePlanz_128 C n0 Q (fun a0' a1' τ => ∃ k < n, I k a0' a1' τ) a0 a1 v2_6 κ7) ∧
      ((zA κ7 (zR κ7 atChooses (zR κ7 soAtlas a0)) (v2_6).toNatClampNeg) = (0 : Int32) →
        ∀ _ : zT κ7 (zR κ7 soAtlas a0) = 3,
        zRun C 0 mAt_waysOf [.ref (zR κ7 soAtlas a0), .int v2_6] κ7 (oI (fun r10 κ9 =>
          ∀ _ : zW C n0 κ9,
          ∀ _ : zM (zn κ7) κ7 κ9,
          (¬ r10 = (1 : Int32) →
            ∀ _ : zT κ9 a0 = 12,
            zRun C 7 mSo_mixWorths [.ref a0, .int v2_6] κ9 (oI (fun r13 κ12 =>
              ∀ _ : zW C n0 κ12,
              ∀ _ : zM (zn κ9) κ9 κ12,
              w_So_makePlanz_141 C n0 Q (fun a0' a1' τ => ∃ k < n, I k a0' a1' τ) a0 a1 r13 κ12) noX)) ∧
          (r10 = (1 : Int32) →
            w_So_makePlanz_128 C n0 Q (fun a0' a1' τ => ∃ k < n, I k a0' a1' τ) a0 a1 v2_6 κ9)) noX)))
theorem t_So_makePlanz_76 {C : zC} {n0 : Nat} {Q : Int32 → zS → Prop}   {a0 : Nat} {a1 : Int32} {κ : zS} (W : zW C n0 κ) (Ta0 : zT κ a0 = 12) (F : w_So_makePlanz_76 C n0 Q  a0 a1 κ) : zG C n0 8 mSo_makePlan 76 [some (.ref a0), some (.int a1), none, none] [] κ (oI Q noX) := by
  obtain ⟨I, ⟨m0, hI0⟩, F0⟩ := F
  have key : ∀ n a0 a1 κ, zW C n0 κ → zT κ a0 = 12 → I n a0 a1 κ → zG C n0 8 mSo_makePlan 76 [some (.ref a0), some (.int a1), none, none] [] κ (oI Q noX) := by
    intro n
    induction n using Nat.strongRecOn with
    | _ n ih =>
      intro a0 a1 κ W Ta0 hI
      have F := F0 n a0 a1 κ W Ta0 hI
      clear hI hI0
      refine y_iln dX9_makePlan_76 rfl ?_
      refine y_aln dX9_makePlan_77 rfl ?_
      refine gf_X9_25 W dX9_makePlan_78 rfl Ta0 ?_
      refine gf_X9_115 dX9_makePlan_81 rfl (Or.inl (ty_soWeb W Ta0)) ?_
      refine y_ii ((zI κ weTotal (zR κ soWeb a0)) ≤ a1) dX9_makePlan_84 (t := 155) rfl rfl (fun c9 => ?_) (fun c9 => ?_)
      · replace F := F.1 c9
        refine y_aln dX9_makePlan_155 rfl ?_
        refine gf_X9_72 W dX9_makePlan_156 rfl Ta0 ?_
        refine y_ic dX9_makePlan_159 zi_0 ?_
        refine y_aln dX9_makePlan_160 rfl ?_
        refine gf_X9_9 W dX9_makePlan_161 rfl Ta0 ?_
        refine gf_X9_299 W dX9_makePlan_164 rfl (ty_soAtlas W Ta0) ?_
        refine y_ic dX9_makePlan_167 zi_0 ?_
        refine y_aln dX9_makePlan_168 rfl ?_
        refine gf_X9_25 W dX9_makePlan_169 rfl Ta0 ?_
        refine gf_X9_115 dX9_makePlan_172 rfl (Or.inl (ty_soWeb W Ta0)) ?_
        refine y_cpy (t := 0) W dX9_makePlan_175 rfl zbi_X9_302 (ty_soTaken W Ta0) (ty_atPlan W (ty_soAtlas W Ta0)) (by decide) (Nat.le_of_ble_eq_true rfl) (Nat.le_of_ble_eq_true rfl) F.1 (fun κ1 eκ1 => ?_)
        replace F := F.2 κ1 eκ1
        have Wκ1 : zW C n0 κ1 := zW_uc W eκ1 ((ty_soTaken W Ta0).trans (ty_atPlan W (ty_soAtlas W Ta0)).symm)
        have Mκ1 : zM (zn κ) κ κ1 := by rw [eκ1]; exact zM.of rfl rfl rfl
        replace F := F Wκ1
        refine y_aln dX9_makePlan_178 rfl ?_
        refine y_ic dX9_makePlan_179 zi_1 ?_
        have h3 := (ztm W Mκ1 Ta0)
        refine pf_X9_308 Wκ1 dX9_makePlan_180 rfl (nb_nar nb_1) (Or.inl h3) (fun κ2 eκ2 => ?_)
        replace F := F κ2 eκ2
        have Wκ2 : zW C n0 κ2 := zW_ui Wκ1 eκ2 (fun _ => nb_1)
        have Mκ2 : zM (zn κ1) κ1 κ2 := by rw [eκ2]; exact zM.of rfl rfl rfl
        replace F := F Wκ2
        refine y_aln dX9_makePlan_183 rfl ?_
        refine y_ic dX9_makePlan_184 zi_0 ?_
        have h5 := (ztm Wκ1 Mκ2 h3)
        refine pf_X9_84 Wκ2 dX9_makePlan_185 rfl (nb_nar nb_0) (Or.inl h5) (fun κ4 eκ4 => ?_)
        replace F := F κ4 eκ4
        have Wκ4 : zW C n0 κ4 := zW_ui Wκ2 eκ4 (fun _ => nb_0)
        have Mκ4 : zM (zn κ2) κ2 κ4 := by rw [eκ4]; exact zM.of rfl rfl rfl
        replace F := F Wκ4
        refine y_ic dX9_makePlan_188 zi_0 ?_
        exact y_ri Wκ4 dX9_makePlan_189 rfl in_nar F
      · replace F := F.2 c9
        refine y_aln dX9_makePlan_87 rfl ?_
        refine gf_X9_25 W dX9_makePlan_88 rfl Ta0 ?_
        refine gf_X9_105 W dX9_makePlan_91 rfl (ty_soWeb W Ta0) ?_
        refine y_iln dX9_makePlan_94 rfl ?_
        refine y_ald dX9_makePlan_95 (ty_weOrder W (ty_soWeb W Ta0)) F.1 ?_
        replace F := F.2
        refine y_isnb dX9_makePlan_96 (Nat.le_of_ble_eq_true rfl) (fun v2_6 ev2_6 => ?_)
        replace F := F v2_6 ev2_6
        show zG _ _ _ _ _ [some (.ref a0), some (.int a1), some (.int v2_6), none] _ _ _
        refine y_aln dX9_makePlan_97 rfl ?_
        refine gf_X9_72 W dX9_makePlan_98 rfl Ta0 ?_
        refine y_iln dX9_makePlan_101 rfl ?_
        refine y_ic dX9_makePlan_102 zi_0 ?_
        refine y_ast W dX9_makePlan_103 (ty_soTaken W Ta0) F.1 (fun κ7 eκ7 => ?_)
        replace F := F.2 κ7 eκ7
        have Wκ7 : zW C n0 κ7 := zW_ua W eκ7 (fun h => absurd (h.symm.trans (ty_soTaken W Ta0)) (by decide)) (fun h => absurd (h.symm.trans (ty_soTaken W Ta0)) (by decide))
        have Mκ7 : zM (zn κ) κ κ7 := by rw [eκ7]; exact zM.of rfl rfl rfl
        replace F := F Wκ7
        refine y_aln dX9_makePlan_104 rfl ?_
        have h8 := (ztm W Mκ7 Ta0)
        refine gf_X9_9 Wκ7 dX9_makePlan_105 rfl h8 ?_
        refine gf_X9_287 Wκ7 dX9_makePlan_108 rfl (ty_soAtlas Wκ7 h8) ?_
        refine y_iln dX9_makePlan_111 rfl ?_
        refine y_zld dX9_makePlan_112 (ty_atChooses Wκ7 (ty_soAtlas Wκ7 h8)) F.1 ?_
        replace F := F.2
        refine y_in ((zA κ7 (zR κ7 atChooses (zR κ7 soAtlas a0)) (v2_6).toNatClampNeg) = (0 : Int32)) dX9_makePlan_113 (t := 128) rfl rfl (fun c9 => ?_) (fun c9 => ?_)
        · replace F := F.1 c9
          exact y_k (t_So_makePlanz_128 (fun a0' a1' τ w9 f09 hb => by obtain ⟨k, hk, hI⟩ := hb; exact ih k hk a0' a1' τ w9 f09 hI) Wκ7 h8 F) ⟨rfl, rfl, rfl, trivial⟩
        · replace F := F.2 c9
          refine y_aln dX9_makePlan_116 rfl ?_
          refine gf_X9_9 Wκ7 dX9_makePlan_117 rfl h8 ?_
          refine y_iln dX9_makePlan_120 rfl ?_
          replace F := F (ty_soAtlas Wκ7 h8)
          refine k_X9_290 Wκ7 dX9_makePlan_121 rfl (Nat.le_of_ble_eq_true rfl) (Nat.le_of_ble_eq_true rfl) (Or.inl (ty_soAtlas Wκ7 h8)) F (fun r10 κ9 Wκ9 Mκ9 F => ?_) (fun _ _ h9 => False.elim h9)
          replace F := F Wκ9 Mκ9
          refine y_ic dX9_makePlan_124 zi_1 ?_
          refine y_iin (r10 = (1 : Int32)) dX9_makePlan_125 (t := 136) rfl rfl (fun c9 => ?_) (fun c9 => ?_)
          · replace F := F.1 c9
            refine y_aln dX9_makePlan_136 rfl ?_
            refine y_iln dX9_makePlan_137 rfl ?_
            have h14 := (ztm Wκ7 Mκ9 h8)
            replace F := F h14
            refine k_X9_296 Wκ9 dX9_makePlan_138 rfl (Nat.le_of_ble_eq_true rfl) (Nat.le_of_ble_eq_true rfl) (Or.inl h14) F (fun r13 κ12 Wκ12 Mκ12 F => ?_) (fun _ _ h9 => False.elim h9)
            replace F := F Wκ12 Mκ12
            have h16 := (ztm Wκ9 Mκ12 h14)
            exact y_k (t_So_makePlanz_141 (fun a0' a1' τ w9 f09 hb => by obtain ⟨k, hk, hI⟩ := hb; exact ih k hk a0' a1' τ w9 f09 hI) Wκ12 h16 F) ⟨rfl, rfl, trivial⟩
          · replace F := F.2 c9
            have h17 := (ztm Wκ7 Mκ9 h8)
            exact y_k (t_So_makePlanz_128 (fun a0' a1' τ w9 f09 hb => by obtain ⟨k, hk, hI⟩ := hb; exact ih k hk a0' a1' τ w9 f09 hI) Wκ9 h17 F) ⟨rfl, rfl, rfl, trivial⟩
  exact key m0 a0 a1 κ W Ta0 hI0

def w_So_makePlanz_0 (C : zC) (n0 : Nat) (Q : Int32 → zS → Prop)  (a0 : Nat) (κ : zS) : Prop :=
  ((zI κ atRings (zR κ soAtlas a0)) ≤ (0 : Int32) →
    ∀ _ : zT κ (zR κ soWeb a0) = 14,
    ∀ _ : zT κ (zR κ soAtlas a0) = 3,
    zRun C 2 mWe_weave [.ref (zR κ soWeb a0), .ref (zR κ soAtlas a0), .int (0 : Int32)] κ (oV (fun κ1 =>
      ∀ _ : zW C n0 κ1,
      ∀ _ : zM (zn κ) κ κ1,
      ∀ _ : zT κ1 (zR κ1 soWeb a0) = 14,
      zRun C 2 mWe_knot [.ref (zR κ1 soWeb a0)] κ1 (oV (fun κ5 =>
        ∀ _ : zW C n0 κ5,
        ∀ _ : zM (zn κ1) κ1 κ5,
        ∀ _ : zT κ5 (zR κ5 soWorths a0) = 25,
        zRun C 3 mSo_fresh [.ref (zR κ5 soWorths a0), .int (zI κ5 weTotal (zR κ5 soWeb a0))] κ5 (oR 25 (fun r10 κ9 =>
          ∀ _ : zW C n0 κ9,
          ∀ _ : zM (zn κ5) κ5 κ9,
          ∀ _ : zT κ9 r10 = 25,
          zOo9 κ9 r10 soWorths a0 ∧
          ∀ κ12, κ12 = uo κ9 soWorths a0 r10 →
          ∀ _ : zW C n0 κ12,
          ((zI κ12 weTotal (zR κ12 soWeb a0)) ≤ (Int32.ofNat (zN κ12 (zR κ12 soTaken a0))) →
            w_So_makePlanz_76 C n0 Q  a0 (0 : Int32) κ12) ∧
          (¬ (zI κ12 weTotal (zR κ12 soWeb a0)) ≤ (Int32.ofNat (zN κ12 (zR κ12 soTaken a0))) →
            nsz (1000 : Int32) ∧
            ∀ κ16, κ16 = na κ12 20 ((1000 : Int32)).toNatClampNeg →
            ∀ _ : zW C n0 κ16,
            zO κ16 (zn κ12) = (0, 0) ∧
            ∀ κ19, κ19 = uo κ16 soTaken a0 (zn κ12) →
            ∀ _ : zW C n0 κ19,
            w_So_makePlanz_76 C n0 Q  a0 (0 : Int32) κ19)) noX)) noX)) noX)) ∧
  (¬ (zI κ atRings (zR κ soAtlas a0)) ≤ (0 : Int32) →
    Q (-2 : Int32) κ)
theorem t_So_makePlanz_0 {C : zC} {n0 : Nat} {Q : Int32 → zS → Prop}   {a0 : Nat} {κ : zS} (W : zW C n0 κ) (Ta0 : zT κ a0 = 12) (F : w_So_makePlanz_0 C n0 Q  a0 κ) : zG C n0 8 mSo_makePlan 0 [some (.ref a0), none, none, none] [] κ (oI Q noX) := by
  unfold w_So_makePlanz_0 at F
  refine y_aln dX9_makePlan_0 rfl ?_
  refine gf_X9_9 W dX9_makePlan_1 rfl Ta0 ?_
  refine gf_X9_284 dX9_makePlan_4 rfl (Or.inl (ty_soAtlas W Ta0)) ?_
  refine y_i ((zI κ atRings (zR κ soAtlas a0)) ≤ (0 : Int32)) dX9_makePlan_7 (t := 13) rfl rfl (fun c9 => ?_) (fun c9 => ?_)
  · replace F := F.1 c9
    refine y_aln dX9_makePlan_13 rfl ?_
    refine gf_X9_25 W dX9_makePlan_14 rfl Ta0 ?_
    refine y_aln dX9_makePlan_17 rfl ?_
    refine gf_X9_9 W dX9_makePlan_18 rfl Ta0 ?_
    refine y_ic dX9_makePlan_21 zi_0 ?_
    replace F := F (ty_soWeb W Ta0)
    replace F := F (ty_soAtlas W Ta0)
    refine k_X9_88 W dX9_makePlan_22 rfl (Nat.le_of_ble_eq_true rfl) (Nat.le_of_ble_eq_true rfl) (Or.inl (ty_soWeb W Ta0)) F (fun  κ1 Wκ1 Mκ1 F => ?_) (fun _ _ h9 => False.elim h9)
    replace F := F Wκ1 Mκ1
    refine y_aln dX9_makePlan_25 rfl ?_
    have h4 := (ztm W Mκ1 Ta0)
    refine gf_X9_25 Wκ1 dX9_makePlan_26 rfl h4 ?_
    replace F := F (ty_soWeb Wκ1 h4)
    refine k_X9_94 Wκ1 dX9_makePlan_29 rfl (Nat.le_of_ble_eq_true rfl) (Nat.le_of_ble_eq_true rfl) (Or.inl (ty_soWeb Wκ1 h4)) F (fun  κ5 Wκ5 Mκ5 F => ?_) (fun _ _ h9 => False.elim h9)
    replace F := F Wκ5 Mκ5
    refine y_aln dX9_makePlan_32 rfl ?_
    refine y_aln dX9_makePlan_33 rfl ?_
    have h8 := (ztm Wκ1 Mκ5 h4)
    refine gf_X9_32 Wκ5 dX9_makePlan_34 rfl h8 ?_
    refine y_aln dX9_makePlan_37 rfl ?_
    refine gf_X9_25 Wκ5 dX9_makePlan_38 rfl h8 ?_
    refine gf_X9_115 dX9_makePlan_41 rfl (Or.inl (ty_soWeb Wκ5 h8)) ?_
    replace F := F (ty_soWorths Wκ5 h8)
    refine k_X9_118 Wκ5 dX9_makePlan_44 rfl (Nat.le_of_ble_eq_true rfl) (Nat.le_of_ble_eq_true rfl)  F (fun r10 κ9 Wκ9 Mκ9 g11 F => ?_) (fun _ _ h9 => False.elim h9)
    replace F := F Wκ9 Mκ9 g11
    have b13 := F.1
    replace F := F.2
    have h14 := (ztm Wκ5 Mκ9 h8)
    refine pf_X9_32 Wκ9 dX9_makePlan_47 rfl (Or.inl h14) g11 (fun κ12 eκ12 => ?_)
    replace F := F κ12 eκ12
    have Wκ12 : zW C n0 κ12 := zW_uo9 Wκ9 eκ12 (fun t ht => by cases ht; exact g11) b13
    have Mκ12 : zM (zn κ9) κ9 κ12 := by rw [eκ12]; exact zM.of rfl rfl rfl
    replace F := F Wκ12
    refine y_aln dX9_makePlan_50 rfl ?_
    have h15 := (ztm Wκ9 Mκ12 h14)
    refine gf_X9_72 Wκ12 dX9_makePlan_51 rfl h15 ?_
    refine y_alen (t := 0) dX9_makePlan_54 (ty_soTaken Wκ12 h15) (by decide) ?_
    refine y_aln dX9_makePlan_55 rfl ?_
    refine gf_X9_25 Wκ12 dX9_makePlan_56 rfl h15 ?_
    refine gf_X9_115 dX9_makePlan_59 rfl (Or.inl (ty_soWeb Wκ12 h15)) ?_
    refine y_ii ((zI κ12 weTotal (zR κ12 soWeb a0)) ≤ (Int32.ofNat (zN κ12 (zR κ12 soTaken a0)))) dX9_makePlan_62 (t := 74) rfl rfl (fun c9 => ?_) (fun c9 => ?_)
    · replace F := F.1 c9
      refine y_ic dX9_makePlan_74 zi_0 ?_
      refine y_isn dX9_makePlan_75 (Nat.le_of_ble_eq_true rfl) rfl ?_
      show zG _ _ _ _ _ [some (.ref a0), some (.int (0 : Int32)), none, none] _ _ _
      exact y_k (t_So_makePlanz_76  Wκ12 h15 F) ⟨rfl, rfl, trivial⟩
    · replace F := F.2 c9
      refine y_aln dX9_makePlan_65 rfl ?_
      refine y_si dX9_makePlan_66 zs_1000 ?_
      have b17 := F.1
      refine y_newa (t := 0) Wκ12 dX9_makePlan_69 (by decide) b17 (fun κ16 eκ16 => ?_)
      replace F := F.2 κ16 eκ16
      have Wκ16 : zW C n0 κ16 := zW_na Wκ12 eκ16 (by decide) (by decide) b17.2
      have Mκ16 : zM (zn κ12) κ12 κ16 := zM_na (Wκ12.lo (Nat.le_trans Wκ12.1.2.1 Wκ12.1.2.2) (Nat.le_refl _)) eκ16
      replace F := F Wκ16
      have g18 : zT κ16 (zn κ12) = 20 := by rw [eκ16]; exact if_pos rfl
      have b20 := F.1
      replace F := F.2
      have h21 := (ztm Wκ12 Mκ16 h15)
      refine pf_X9_72 Wκ16 dX9_makePlan_71 rfl (Or.inl h21) g18 (fun κ19 eκ19 => ?_)
      replace F := F κ19 eκ19
      have Wκ19 : zW C n0 κ19 := zW_uo Wκ16 eκ19 (fun t ht => by cases ht; exact g18) b20
      have Mκ19 : zM (zn κ16) κ16 κ19 := by rw [eκ19]; exact zM.of rfl rfl rfl
      replace F := F Wκ19
      refine y_ic dX9_makePlan_74 zi_0 ?_
      refine y_isn dX9_makePlan_75 (Nat.le_of_ble_eq_true rfl) rfl ?_
      show zG _ _ _ _ _ [some (.ref a0), some (.int (0 : Int32)), none, none] _ _ _
      have h22 := (ztm Wκ16 Mκ19 h21)
      exact y_k (t_So_makePlanz_76  Wκ19 h22 F) ⟨rfl, rfl, trivial⟩
  · replace F := F.2 c9
    refine y_bi1 dX9_makePlan_10 zb_m2 ?_
    exact y_ri W dX9_makePlan_12 rfl in_nar F

theorem So_makePlanz_run {C : zC} {n0 : Nat} {Q : Int32 → zS → Prop} {a0 : Nat} {κ : zS} (W : zW C n0 κ) (Ta0 : zT κ a0 = 12) (F : w_So_makePlanz_0 C (zn κ) Q a0 κ) : zRun C 8 mSo_makePlan [.ref a0] κ (oI Q noX) := z_run (m_ent _ 3) (t_So_makePlanz_0 (W.lo (Nat.le_trans W.1.2.1 W.1.2.2) (Nat.le_refl _)) Ta0 F)
