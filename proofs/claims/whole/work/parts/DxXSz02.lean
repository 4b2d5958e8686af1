section
set_option maxHeartbeats 1600000
/-! the reference: what is free of what -/
def co24 (σ : rS) (m : Nat) (a1 a2 a3 a4 x y : Int32) : Prop := ∃ g, g < m ∧ sel24 σ a3 a4 g ∧ to24 σ g a1 = x ∧ to24 σ g a2 = y
def pq24 (σ : rS) (s : Nat) (a1 a2 a3 a4 x y : Int32) : Prop := ws24 σ (sh24 σ a1 x a2 y a3 a4) s * ws24 σ (sh24 σ (-1) 0 (-1) 0 a3 a4) s = ws24 σ (sh24 σ a1 x (-1) 0 a3 a4) s * ws24 σ (sh24 σ (-1) 0 a2 y a3 a4) s
/-- the first is free of the second, among endings whose third is alike -/
def fr24 (σ : rS) (s m : Nat) (a1 a2 a3 a4 : Int32) : Prop := ∀ e f, e < m → f < m → sel24 σ a3 a4 e → sel24 σ a3 a4 f → co24 σ m a1 a2 a3 a4 (to24 σ e a1) (to24 σ f a2) ∧ (¬ σ.1 70 ≤ 0 → pq24 σ s a1 a2 a3 a4 (to24 σ e a1) (to24 σ f a2))
theorem li_e24 {σ τ : rS} {R : Nat → Int32} {a2 a3 a4 : Int32} {n m : Nat} (h75 : τ.2.2.1 75 = σ.2.2.1 75) (h120 : τ.2.2.1 120 = σ.2.2.1 120) (L : li24 τ R a2 a3 a4 n m) : li24 σ R a2 a3 a4 n m := by
  unfold li24 sel24 to24 at *
  rw [h75, h120] at L
  exact L
theorem ws_x24 {σ τ : rS} (h : ∀ g, g = 75 ∨ (76 ≤ g ∧ g ≤ 83) ∨ g = 95 ∨ g = 102 → τ.2.2.1 g = σ.2.2.1 g) (a1 a2 a3 a4 a5 a6 : Int32) (K : Nat) : ws24 τ (sh24 τ a1 a2 a3 a4 a5 a6) K = ws24 σ (sh24 σ a1 a2 a3 a4 a5 a6) K := by
  have et : ∀ e i, to24 τ e i = to24 σ e i := fun e i => by
    unfold to24
    rw [h 75 (by decide)]
  have es : sh24 τ a1 a2 a3 a4 a5 a6 = sh24 σ a1 a2 a3 a4 a5 a6 := by
    funext x
    unfold sh24 cd24
    simp only [et, h 77 (by decide), h 78 (by decide)]
  have ev : ∀ k, vt16 τ k = vt16 σ k := fun k => by
    unfold vt16 vsV fV slV
    rw [h 95 (by decide), h 102 (by decide)]
  have ew : ∀ k x, twI τ k x = twI σ k x := fun k x => by
    unfold twI
    rw [h 81 (by decide), h 79 (by decide), h 76 (by decide), h 83 (by decide)]
  have eT : ∀ k, tTI τ k = tTI σ k := fun k => by
    unfold tTI
    rw [h 81 (by decide), h 80 (by decide)]
  have el : ∀ k, loN τ k = loN σ k := fun k => by
    unfold loN
    rw [h 76 (by decide)]
  have en : ∀ k, leN τ k = leN σ k := fun k => by
    unfold leN
    rw [el, h 76 (by decide)]
  rw [es]
  unfold ws24 wk24 wt24
  simp only [el, en, ev, ew, eT]
theorem pq_x24 {σ τ : rS} (h : ∀ g, g = 75 ∨ (76 ≤ g ∧ g ≤ 83) ∨ g = 95 ∨ g = 102 → τ.2.2.1 g = σ.2.2.1 g) {s : Nat} {a1 a2 a3 a4 x y : Int32} : pq24 τ s a1 a2 a3 a4 x y ↔ pq24 σ s a1 a2 a3 a4 x y := by
  unfold pq24
  rw [ws_x24 h, ws_x24 h, ws_x24 h, ws_x24 h]
theorem nr_24 : ∀ g, (g = 75 ∨ (76 ≤ g ∧ g ≤ 83) ∨ g = 95 ∨ g = 102) → g ∉ ifR := fun g q z => by
  have y : g = 120 ∨ g = 121 ∨ g = 122 ∨ g = 123 := by simpa using z
  omega
theorem tu_24 {F R l : List Nat} {σ τ : rS} (U : frU F R l σ τ) (h : 75 ∉ R) {e : Nat} {i : Int32} : to24 τ e i = to24 σ e i := by
  unfold to24
  rw [U.2.2.1 75 (by decide) (by decide) h]
section
variable {σ : rS} {s m n1 n2 : Nat} {LA LB : Nat → Int32} {a1 a2 a3 a4 : Int32}
theorem ff_a24 (A : li24 σ LA a1 a3 a4 n1 m) (B : li24 σ LB a2 a3 a4 n2 m) (C : ∀ x y, x < n1 → y < n2 → co24 σ m a1 a2 a3 a4 (LA x) (LB y)) (P : ¬ σ.1 70 ≤ 0 → ∀ x y, x < n1 → y < n2 → pq24 σ s a1 a2 a3 a4 (LA x) (LB y)) : fr24 σ s m a1 a2 a3 a4 := fun e f he hf se sf => by
  obtain ⟨x, x1, x2⟩ := A.2 e he se
  obtain ⟨y, y1, y2⟩ := B.2 f hf sf
  rw [← x2, ← y2]
  exact ⟨C x y x1 y1, fun z => P z x y x1 y1⟩
theorem ff_n24 (A : li24 σ LA a1 a3 a4 n1 m) (B : li24 σ LB a2 a3 a4 n2 m) {x y : Nat} (hx : x < n1) (hy : y < n2) (h : ¬ co24 σ m a1 a2 a3 a4 (LA x) (LB y) ∨ (¬ σ.1 70 ≤ 0 ∧ ¬ pq24 σ s a1 a2 a3 a4 (LA x) (LB y))) : ¬ fr24 σ s m a1 a2 a3 a4 := fun F => by
  obtain ⟨e, e1, e2, e3⟩ := A.1 x hx
  obtain ⟨f, f1, f2, f3⟩ := B.1 y hy
  have z := F e f e1 f1 e2 f2
  rw [← e3, ← f3] at z
  rcases h with h | ⟨h1, h2⟩
  · exact h z.1
  · exact h2 (z.2 h1)
end
theorem th_24 {P : Nat → Prop} {v : Int32} {n : Nat} (h : v ≠ 0 ↔ ∃ g, g < n ∧ P g) (v0 : v = 0) : (¬ P n → ((0 : Int32) ≠ 0 ↔ ∃ g, g < n + 1 ∧ P g)) ∧ (P n → ((1 : Int32) ≠ 0 ↔ ∃ g, g < n + 1 ∧ P g)) := by
  refine ⟨fun np => ⟨fun z => absurd rfl z, fun ⟨g, hg, pg⟩ => ?_⟩, fun p => ⟨fun _ => ⟨n, Nat.lt_succ_self n, p⟩, fun _ => by decide⟩⟩
  by_cases c : g = n
  · subst c
    exact absurd pg np
  · exact absurd v0 (h.mpr ⟨g, by omega, pg⟩)
theorem isFree_g5 {C : rCx} (hC : cOK C) (s : Nat) {σ : rS} {a1 : Int32} {a2 : Int32} {a3 : Int32} {a4 : Int32} {Q : Int32 → rS → Prop} (hp : pOK σ ∧ s = (σ.1 70).toNatClampNeg ∧ (∀ k, k < s → vOK σ k) ∧ 0 ≤ a1 ∧ a1 < 34 ∧ 0 ≤ a2 ∧ a2 < 34 ∧ (a3 = -1 ∨ (0 ≤ a3 ∧ a3 < 34))) (h : ∀ (v : Int32) (σ' : rS), ((frU ifF [121, 122] ifL σ σ' ∧ nb v) ∧ ((v ≠ 0 ↔ fr24 σ s (σ.1 71).toNatClampNeg a1 a2 a3 a4) ∧ σ'.1 0 = σ.1 0)) → Q v σ') : cI C 8 m_isFree [.ref (co C), .int a1, .int a2, .int a3, .int a4] σ Q := by
  refine m_isFree_run hC ?_
  unfold w_isFree_0
  obtain ⟨hO, hs, hv, p0, p1, p2, p3, p4⟩ := hp
  have n71 := hO.1.2.1.2
  refine list_g5 hC  ?_ (fun r1 σ_2 q3 => ?_)
  · clear h; exact ⟨Or.inl rfl, hO.1, p0, p1, p4⟩  -- p1
  obtain ⟨q3, z9⟩ := q3
  have w1 := z9
  intro σ_4 hσ_4
  have U4 : frU ifF [121, 122] ifL σ σ_4 := by rw [hσ_4]; exact frU_tr (frU_X q3.1 (sub_of rfl) (by decide) (by decide)) (frU_0 (by decide))
  have O4 := pOK_U hO (frU_w U4 (fun k hk => hk) (sub_of rfl) (fun k hk => hk))
  refine list_g5 hC  ?_ (fun r5 σ_6 q7 => ?_)
  · clear h; exact ⟨Or.inr (Or.inl rfl), O4.1, p2, p3, p4⟩  -- p2
  obtain ⟨q7, z9⟩ := q7
  have w2 := z9
  have A8 : li24 σ (σ_6.2.2.1 121) a1 a3 a4 r1.toNatClampNeg (σ.1 71).toNatClampNeg := by rw [q7.1.2.2.1 121 (by decide), hσ_4, si2]; exact w1
  have B8 : li24 σ (σ_6.2.2.1 122) a2 a3 a4 r5.toNatClampNeg (σ.1 71).toNatClampNeg := by
    have z := li_e24 (σ := σ) (by rw [hσ_4, si2]; exact q3.1.2.2.1 75 (by decide)) (by rw [hσ_4, si2]; exact q3.1.2.2.1 120 (by decide)) w2
    rw [U4.1 71 (by decide)] at z
    exact z
  have Z8 : ∀ x, (siU σ_6 125 x).1 0 = σ.1 0 := fun x => by rw [si1, if_neg (by decide), q7.1.1, hσ_4, si1, if_neg (by decide), q3.1.1]
  intro σ_8 hσ_8
  have U8 : frU ifF [121, 122] ifL σ σ_8 := by rw [hσ_8]; exact frU_tr U4 (frU_tr (frU_X q7.1 (sub_of rfl) (by decide) (by decide)) (frU_0 (by decide)))
  have W8 : frU ifF ifR ifL σ σ_8 := frU_w U8 (fun k hk => hk) (sub_of rfl) (fun k hk => hk)
  have e71 : σ_8.1 71 = σ.1 71 := U8.1 71 (by decide)
  have e125 : σ_8.1 125 = r5 := by rw [hσ_8]; rfl
  have e124 : σ_8.1 124 = r1 := by rw [hσ_8, show (siU σ_6 125 r5).1 124 = σ_6.1 124 from rfl, q7.1.1, hσ_4]; rfl
  have r1k : r1 ≤ 1000 := Int32.le_trans q3.2.2 n71
  have r5k : r5 ≤ 1000 := Int32.le_trans q7.2.2 (by rw [U4.1 71 (by decide)]; exact n71)
  unfold w_isFree_35
  refine ⟨fun n l1 l2 l3 l4 l5 τ => n = (r1 - l5).toNatClampNeg ∧ ((l1 = a1 ∧ l2 = a2 ∧ l3 = a3 ∧ l4 = a4 ∧ τ = σ_8 ∧ 0 ≤ l5 ∧ l5 ≤ r1) ∧ ∀ x y, x < l5.toNatClampNeg → y < r5.toNatClampNeg → co24 σ (σ.1 71).toNatClampNeg a1 a2 a3 a4 (σ_8.2.2.1 121 x) (σ_8.2.2.1 122 y)), ⟨_, rfl, ?_⟩, ?_⟩
  · refine and_5 ?_ (fun o9 => fun x y hx => absurd hx (Nat.not_lt_zero x))  -- j3
    clear h; exact ⟨rfl, rfl, rfl, rfl, rfl, by decide, q3.2.1⟩
  rintro n35 x35_1 x35_2 x35_3 x35_4 x35_5 σ35 ⟨hn35, i35, hE⟩
  obtain ⟨e1, e2, e3, e4, e5, a0, a1'⟩ := i35
  rw [e5, e124]
  refine ⟨fun c9 => ?_, fun c9 => ?_⟩
  · skip
    unfold w_isFree_172
    refine ⟨fun n l1 l2 l3 l4 l5 τ => n = (r1 - l5).toNatClampNeg ∧ ((l1 = a1 ∧ l2 = a2 ∧ l3 = a3 ∧ l4 = a4 ∧ frS ifL σ_8 τ ∧ 0 ≤ l5 ∧ l5 ≤ r1) ∧ (∀ x y, x < r1.toNatClampNeg → y < r5.toNatClampNeg → co24 σ (σ.1 71).toNatClampNeg a1 a2 a3 a4 (σ_8.2.2.1 121 x) (σ_8.2.2.1 122 y)) ∧ ∀ x y, x < l5.toNatClampNeg → y < r5.toNatClampNeg → pq24 σ s a1 a2 a3 a4 (σ_8.2.2.1 121 x) (σ_8.2.2.1 122 y)), ⟨_, rfl, ?_⟩, ?_⟩
    · refine and_5 ?_ (fun o9 => ?_)  -- j4
      · clear h; exact ⟨e1, e2, e3, e4, frS_rf, by decide, q3.2.1⟩
      · clear o9
        rw [Int32.le_antisymm a1' c9] at hE
        exact ⟨hE, fun x y hx => absurd hx (Nat.not_lt_zero x)⟩
    rintro n172 x172_1 x172_2 x172_3 x172_4 x172_5 σ172 ⟨hn172, i172, hE⟩
    obtain ⟨f1, f2, f3, f4, G, b0, b1⟩ := i172
    rw [G.1 124 (by decide), e124]
    refine ⟨fun c10 => ?_, fun c10 => ?_⟩
    · skip
      refine h _ _ ?_
      · refine and_5 ?_ (fun o9 => ?_)  -- q5
        · clear h; exact ⟨frU_tr U8 (frU_S G (by decide) (fun k hk => hk)), nb_1⟩
        · clear o9
          rw [Int32.le_antisymm b1 c10] at hE
          have e8 : σ_8.2.2.1 = σ_6.2.2.1 := by rw [hσ_8, si2]
          rw [e8] at hE
          exact ⟨⟨fun _ => ff_a24 A8 B8 hE.1 (fun _ => hE.2), fun _ => by decide⟩, by rw [G.1 0 (by decide), hσ_8]; exact Z8 _⟩
    · skip
      refine ⟨fun c11 => ?_, fun c11 => ?_⟩
      · skip
        refine h _ _ ?_
        · refine and_5 ?_ (fun o9 => ?_)  -- q6
          · clear h; exact ⟨frU_tr U8 (frU_S G (by decide) (fun k hk => hk)), nb_1⟩
          · clear o9
            have e8 : σ_8.2.2.1 = σ_6.2.2.1 := by rw [hσ_8, si2]
            rw [e8] at hE
            have z : σ.1 70 ≤ 0 := by rw [← U8.1 70 (by decide), ← G.1 70 (by decide)]; first | exact c11 | exact Int32.not_lt.mp c11
            exact ⟨⟨fun _ => ff_a24 A8 B8 hE.1 (fun n => absurd z n), fun _ => by decide⟩, by rw [G.1 0 (by decide), hσ_8]; exact Z8 _⟩
      · skip
        have u := uk b0 c10 r1k
        unfold w_isFree_191
        refine ⟨fun n l1 l2 l3 l4 l5 l6 τ => n = (r5 - l6).toNatClampNeg ∧ ((l1 = a1 ∧ l2 = a2 ∧ l3 = a3 ∧ l4 = a4 ∧ l5 = x172_5 ∧ frS ifL σ_8 τ ∧ 0 ≤ l6 ∧ l6 ≤ r5) ∧ (∀ x y, x < r1.toNatClampNeg → y < r5.toNatClampNeg → co24 σ (σ.1 71).toNatClampNeg a1 a2 a3 a4 (σ_8.2.2.1 121 x) (σ_8.2.2.1 122 y)) ∧ (∀ x y, x < x172_5.toNatClampNeg → y < r5.toNatClampNeg → pq24 σ s a1 a2 a3 a4 (σ_8.2.2.1 121 x) (σ_8.2.2.1 122 y)) ∧ ∀ y, y < l6.toNatClampNeg → pq24 σ s a1 a2 a3 a4 (σ_8.2.2.1 121 x172_5.toNatClampNeg) (σ_8.2.2.1 122 y)), ⟨_, rfl, ?_⟩, ?_⟩
        · refine and_5 ?_ (fun o9 => ⟨hE.1, hE.2, fun y hy => absurd hy (Nat.not_lt_zero y)⟩)  -- j7
          clear h; exact ⟨f1, f2, f3, f4, rfl, G, by decide, q7.2.1⟩
        rintro n191 x191_1 x191_2 x191_3 x191_4 x191_5 x191_6 σ191 ⟨hn191, i191, hE⟩
        obtain ⟨g1, g2, g3, g4, g5, H, d0, d1⟩ := i191
        rw [H.1 125 (by decide), e125, g5]
        refine ⟨fun c12 => ?_, fun c12 => ?_⟩
        · skip
          intro x13 hx13
          refine lp_b5 (cn_lt2 hn172 ?_ ?_) (fun d9 => ⟨rfl, ?_⟩)
          · clear h; rw [hx13]; exact u.1  -- d8
          · clear h; rw [hx13]; exact u.2.1  -- d9
          · refine and_5 ?_ (fun o9 => ?_)  -- i10
            · clear h; rw [hx13]; exact ⟨g1, g2, g3, g4, H, u.2.2.1, u.2.2.2.1⟩
            · clear o9
              have as := cn_succ b0 (Int32.lt_trans u.2.2.2.2.2 (by decide))
              rw [Int32.le_antisymm d1 c12] at hE
              rw [hx13, as]
              refine ⟨hE.1, fun x y hx hy => ?_⟩
              by_cases e : x = x172_5.toNatClampNeg
              · rw [e]; exact hE.2.2 y hy
              · exact hE.2.1 x y (by omega) hy
        · skip
          have w := uk d0 c12 r5k
          have U191 := frU_tr W8 (frU_S H (by decide) (fun k hk => hk))
          refine ⟨ib_1000.mpr ?_, ?_⟩
          · clear h; exact ⟨b0, u.2.2.2.2.2⟩  -- b11
          refine ⟨ib_1000.mpr ?_, ?_⟩
          · clear h; exact ⟨d0, w.2.2.2.2.2⟩  -- b12
          refine isPairFree_g5 hC s ?_ (fun r14 σ_15 q16 => ?_)
          · clear h; rw [g1, g2, g3]
            exact ⟨pOK_U hO U191, by rw [U191.1 70 (by decide)]; exact hs, fun k hk => vOK_U (hv k hk) U191, Or.inr ⟨p0, p1⟩, Or.inr ⟨p2, p3⟩, p4⟩
          obtain ⟨q16, z9⟩ := q16
          refine ⟨fun c17 => ?_, fun c17 => ?_⟩
          · skip
            intro x18 hx18
            refine lp_b5 (cn_lt2 hn191 ?_ ?_) (fun d9 => ⟨rfl, ?_⟩)
            · clear h; rw [hx18]; exact w.1  -- d14
            · clear h; rw [hx18]; exact w.2.1  -- d15
            · refine and_5 ?_ (fun o9 => ?_)  -- i16
              · clear h; rw [hx18]; exact ⟨g1, g2, g3, g4, rfl, frS_tr H q16.1, w.2.2.1, w.2.2.2.1⟩
              · clear o9
                have as := cn_succ d0 (Int32.lt_trans w.2.2.2.2.2 (by decide))
                have ep : pq24 σ s a1 a2 a3 a4 (σ_8.2.2.1 121 x172_5.toNatClampNeg) (σ_8.2.2.1 122 x191_6.toNatClampNeg) := by
                  have y := z9.mp c17
                  rw [g1, g2, g3, g4, H.2.2.1 121 (by decide) (by decide), H.2.2.1 122 (by decide) (by decide)] at y
                  exact (pq_x24 (fun g q => U191.2.2.1 g (by omega) (by omega) (nr_24 g q))).mp y
                rw [hx18, as]
                refine ⟨hE.1, hE.2.1, fun y hy => ?_⟩
                by_cases e : y = x191_6.toNatClampNeg
                · rw [e]; exact ep
                · exact hE.2.2 y (by omega)
          · skip
            refine h _ _ ?_
            · refine and_5 ?_ (fun o9 => ?_)  -- q17
              · clear h; exact ⟨frU_tr U8 (frU_S (frS_tr H q16.1) (by decide) (fun k hk => hk)), nb_0⟩
              · clear o9
                have e8 : σ_8.2.2.1 = σ_6.2.2.1 := by rw [hσ_8, si2]
                have v0 : r14 = 0 := by first | exact c17 | exact Decidable.byContradiction c17
                have ep : ¬ pq24 σ s a1 a2 a3 a4 (σ_8.2.2.1 121 x172_5.toNatClampNeg) (σ_8.2.2.1 122 x191_6.toNatClampNeg) := fun z => by
                  have y := (pq_x24 (τ := σ191) (fun g q => U191.2.2.1 g (by omega) (by omega) (nr_24 g q))).mpr z
                  rw [← H.2.2.1 121 (by decide) (by decide), ← H.2.2.1 122 (by decide) (by decide)] at y
                  refine absurd v0 (z9.mpr ?_)
                  rw [g1, g2, g3, g4]
                  exact y
                rw [e8] at ep
                have n70 : ¬ σ.1 70 ≤ 0 := by rw [← U8.1 70 (by decide), ← G.1 70 (by decide)]; first | exact c11 | exact fun z => c11 (Int32.not_lt.mpr z) | exact fun z => absurd (Decidable.byContradiction c11) (Int32.not_lt.mpr z)
                exact ⟨⟨fun z => absurd rfl z, fun F => absurd F (ff_n24 A8 B8 (cn_lt b0 (Int32.not_le.mp c10)) (cn_lt d0 (Int32.not_le.mp c12)) (Or.inr ⟨n70, ep⟩))⟩, by rw [q16.1.1 0 (by decide), H.1 0 (by decide), hσ_8]; exact Z8 _⟩
  · skip
    have u := uk a0 c9 r1k
    unfold w_isFree_47
    refine ⟨fun n l1 l2 l3 l4 l5 l6 τ => n = (r5 - l6).toNatClampNeg ∧ ((l1 = a1 ∧ l2 = a2 ∧ l3 = a3 ∧ l4 = a4 ∧ l5 = x35_5 ∧ τ = σ_8 ∧ 0 ≤ l6 ∧ l6 ≤ r5) ∧ (∀ x y, x < x35_5.toNatClampNeg → y < r5.toNatClampNeg → co24 σ (σ.1 71).toNatClampNeg a1 a2 a3 a4 (σ_8.2.2.1 121 x) (σ_8.2.2.1 122 y)) ∧ ∀ y, y < l6.toNatClampNeg → co24 σ (σ.1 71).toNatClampNeg a1 a2 a3 a4 (σ_8.2.2.1 121 x35_5.toNatClampNeg) (σ_8.2.2.1 122 y)), ⟨_, rfl, ?_⟩, ?_⟩
    · refine and_5 ?_ (fun o9 => ⟨hE, fun y hy => absurd hy (Nat.not_lt_zero y)⟩)  -- j18
      clear h; exact ⟨e1, e2, e3, e4, rfl, rfl, by decide, q7.2.1⟩
    rintro n47 x47_1 x47_2 x47_3 x47_4 x47_5 x47_6 σ47 ⟨hn47, i47, hE⟩
    have hj150 : ∀ (l1 : Int32) (l2 : Int32) (l3 : Int32) (l4 : Int32) (l5 : Int32) (l6 : Int32) (l7 : Int32) (τ : rS), ((l1 = a1 ∧ l2 = a2 ∧ l3 = a3 ∧ l4 = a4 ∧ l5 = x35_5 ∧ l6 = x47_6 ∧ τ = σ_8 ∧ ¬ r5 ≤ x47_6) ∧ (l7 ≠ 0 ↔ co24 σ (σ.1 71).toNatClampNeg a1 a2 a3 a4 (σ_8.2.2.1 121 x35_5.toNatClampNeg) (σ_8.2.2.1 122 x47_6.toNatClampNeg)) ∧ (∀ x y, x < x35_5.toNatClampNeg → y < r5.toNatClampNeg → co24 σ (σ.1 71).toNatClampNeg a1 a2 a3 a4 (σ_8.2.2.1 121 x) (σ_8.2.2.1 122 y)) ∧ ∀ y, y < x47_6.toNatClampNeg → co24 σ (σ.1 71).toNatClampNeg a1 a2 a3 a4 (σ_8.2.2.1 121 x35_5.toNatClampNeg) (σ_8.2.2.1 122 y)) → w_isFree_150 C Q (fun l1' l2' l3' l4' l5' τ => ∃ k < n35, (fun n l1 l2 l3 l4 l5 τ => n = (r1 - l5).toNatClampNeg ∧ ((l1 = a1 ∧ l2 = a2 ∧ l3 = a3 ∧ l4 = a4 ∧ τ = σ_8 ∧ 0 ≤ l5 ∧ l5 ≤ r1) ∧ ∀ x y, x < l5.toNatClampNeg → y < r5.toNatClampNeg → co24 σ (σ.1 71).toNatClampNeg a1 a2 a3 a4 (σ_8.2.2.1 121 x) (σ_8.2.2.1 122 y))) k l1' l2' l3' l4' l5' τ) (fun l1' l2' l3' l4' l5' l6' τ => ∃ k < n47, (fun n l1 l2 l3 l4 l5 l6 τ => n = (r5 - l6).toNatClampNeg ∧ ((l1 = a1 ∧ l2 = a2 ∧ l3 = a3 ∧ l4 = a4 ∧ l5 = x35_5 ∧ τ = σ_8 ∧ 0 ≤ l6 ∧ l6 ≤ r5) ∧ (∀ x y, x < x35_5.toNatClampNeg → y < r5.toNatClampNeg → co24 σ (σ.1 71).toNatClampNeg a1 a2 a3 a4 (σ_8.2.2.1 121 x) (σ_8.2.2.1 122 y)) ∧ ∀ y, y < l6.toNatClampNeg → co24 σ (σ.1 71).toNatClampNeg a1 a2 a3 a4 (σ_8.2.2.1 121 x35_5.toNatClampNeg) (σ_8.2.2.1 122 y))) k l1' l2' l3' l4' l5' l6' τ) l1 l2 l3 l4 l5 l6 l7 τ := by
      rintro y150_1 y150_2 y150_3 y150_4 y150_5 y150_6 y150_7 τ150 ⟨j150, hE⟩
      unfold w_isFree_150
      obtain ⟨g1, g2, g3, g4, g5, g6, d0, d1⟩ := i47
      obtain ⟨y1, y2, y3, y4, y5, y6, y7, y8⟩ := j150
      have w := uk d0 y8 r5k
      rw [y7]
      refine ⟨fun c19 => ?_, fun c19 => ?_⟩
      · skip
        intro x20 hx20
        refine lp_b5 (cn_lt2 hn47 ?_ ?_) (fun d9 => ⟨rfl, ?_⟩)
        · clear h; rw [hx20, y6]; exact w.1  -- d19
        · clear h; rw [hx20, y6]; exact w.2.1  -- d20
        · refine and_5 ?_ (fun o9 => ?_)  -- i21
          · clear h; rw [hx20, y6]; exact ⟨y1, y2, y3, y4, y5, rfl, w.2.2.1, w.2.2.2.1⟩
          · clear o9
            have as := cn_succ d0 (Int32.lt_trans w.2.2.2.2.2 (by decide))
            rw [hx20, y6, as]
            refine ⟨hE.2.1, fun y hy => ?_⟩
            by_cases e : y = x47_6.toNatClampNeg
            · rw [e]; exact hE.1.mp c19
            · exact hE.2.2 y (by omega)
      · skip
        refine h _ _ ?_
        · refine and_5 ?_ (fun o9 => ?_)  -- q22
          · clear h; exact ⟨U8, nb_0⟩
          · clear o9
            have e8 : σ_8.2.2.1 = σ_6.2.2.1 := by rw [hσ_8, si2]
            have v0 : y150_7 = 0 := by first | exact c19 | exact Decidable.byContradiction c19
            have ep : ¬ co24 σ (σ.1 71).toNatClampNeg a1 a2 a3 a4 (σ_8.2.2.1 121 x35_5.toNatClampNeg) (σ_8.2.2.1 122 x47_6.toNatClampNeg) := fun z => hE.1.mpr z v0
            rw [e8] at ep
            exact ⟨⟨fun z => absurd rfl z, fun F => absurd F (ff_n24 A8 B8 (cn_lt a0 (Int32.not_le.mp c9)) (cn_lt d0 (Int32.not_le.mp y8)) (Or.inl ep))⟩, by rw [hσ_8]; exact Z8 _⟩
    obtain ⟨g1, g2, g3, g4, g5, g6, d0, d1⟩ := i47
    rw [g6, e125, g5]
    refine ⟨fun c21 => ?_, fun c21 => ?_⟩
    · skip
      intro x22 hx22
      refine lp_b5 (cn_lt2 hn35 ?_ ?_) (fun d9 => ⟨rfl, ?_⟩)
      · clear h; rw [hx22]; exact u.1  -- d23
      · clear h; rw [hx22]; exact u.2.1  -- d24
      · refine and_5 ?_ (fun o9 => ?_)  -- i25
        · clear h; rw [hx22]; exact ⟨g1, g2, g3, g4, rfl, u.2.2.1, u.2.2.2.1⟩
        · clear o9
          have as := cn_succ a0 (Int32.lt_trans u.2.2.2.2.2 (by decide))
          rw [Int32.le_antisymm d1 c21] at hE
          rw [hx22, as]
          intro x y hx hy
          by_cases e : x = x35_5.toNatClampNeg
          · rw [e]; exact hE.2 y hy
          · exact hE.1 x y (by omega) hy
    · skip
      have w := uk d0 c21 r5k
      unfold w_isFree_62
      refine ⟨fun n l1 l2 l3 l4 l5 l6 l7 l8 τ => n = (σ.1 71 - l8).toNatClampNeg ∧ ((l1 = a1 ∧ l2 = a2 ∧ l3 = a3 ∧ l4 = a4 ∧ l5 = x35_5 ∧ l6 = x47_6 ∧ τ = σ_8 ∧ 0 ≤ l8 ∧ l8 ≤ σ.1 71) ∧ (l7 ≠ 0 ↔ ∃ g, g < l8.toNatClampNeg ∧ (fun g => sel24 σ a3 a4 g ∧ to24 σ g a1 = σ_8.2.2.1 121 x35_5.toNatClampNeg ∧ to24 σ g a2 = σ_8.2.2.1 122 x47_6.toNatClampNeg) g) ∧ (∀ x y, x < x35_5.toNatClampNeg → y < r5.toNatClampNeg → co24 σ (σ.1 71).toNatClampNeg a1 a2 a3 a4 (σ_8.2.2.1 121 x) (σ_8.2.2.1 122 y)) ∧ ∀ y, y < x47_6.toNatClampNeg → co24 σ (σ.1 71).toNatClampNeg a1 a2 a3 a4 (σ_8.2.2.1 121 x35_5.toNatClampNeg) (σ_8.2.2.1 122 y)), ⟨_, rfl, ?_⟩, ?_⟩
      · refine and_5 ?_ (fun o9 => ⟨⟨fun z => absurd rfl z, fun ⟨g, hg, _⟩ => absurd hg (Nat.not_lt_zero g)⟩, hE⟩)  -- j26
        clear h; exact ⟨g1, g2, g3, g4, rfl, rfl, rfl, by decide, hO.1.2.1.1⟩
      rintro n62 x62_1 x62_2 x62_3 x62_4 x62_5 x62_6 x62_7 x62_8 σ62 ⟨hn62, i62, hE⟩
      have hj142 : ∀ (l1 : Int32) (l2 : Int32) (l3 : Int32) (l4 : Int32) (l5 : Int32) (l6 : Int32) (l8 : Int32) (s0 : Int32) (τ : rS), ((l1 = a1 ∧ l2 = a2 ∧ l3 = a3 ∧ l4 = a4 ∧ l5 = x35_5 ∧ l6 = x47_6 ∧ τ = σ_8 ∧ l8 = x62_8 ∧ ¬ σ.1 71 ≤ x62_8) ∧ (s0 ≠ 0 ↔ ∃ g, g < x62_8.toNatClampNeg + 1 ∧ (fun g => sel24 σ a3 a4 g ∧ to24 σ g a1 = σ_8.2.2.1 121 x35_5.toNatClampNeg ∧ to24 σ g a2 = σ_8.2.2.1 122 x47_6.toNatClampNeg) g) ∧ (∀ x y, x < x35_5.toNatClampNeg → y < r5.toNatClampNeg → co24 σ (σ.1 71).toNatClampNeg a1 a2 a3 a4 (σ_8.2.2.1 121 x) (σ_8.2.2.1 122 y)) ∧ ∀ y, y < x47_6.toNatClampNeg → co24 σ (σ.1 71).toNatClampNeg a1 a2 a3 a4 (σ_8.2.2.1 121 x35_5.toNatClampNeg) (σ_8.2.2.1 122 y)) → w_isFree_142 C Q (fun l1' l2' l3' l4' l5' τ => ∃ k < n35, (fun n l1 l2 l3 l4 l5 τ => n = (r1 - l5).toNatClampNeg ∧ ((l1 = a1 ∧ l2 = a2 ∧ l3 = a3 ∧ l4 = a4 ∧ τ = σ_8 ∧ 0 ≤ l5 ∧ l5 ≤ r1) ∧ ∀ x y, x < l5.toNatClampNeg → y < r5.toNatClampNeg → co24 σ (σ.1 71).toNatClampNeg a1 a2 a3 a4 (σ_8.2.2.1 121 x) (σ_8.2.2.1 122 y))) k l1' l2' l3' l4' l5' τ) (fun l1' l2' l3' l4' l5' l6' τ => ∃ k < n47, (fun n l1 l2 l3 l4 l5 l6 τ => n = (r5 - l6).toNatClampNeg ∧ ((l1 = a1 ∧ l2 = a2 ∧ l3 = a3 ∧ l4 = a4 ∧ l5 = x35_5 ∧ τ = σ_8 ∧ 0 ≤ l6 ∧ l6 ≤ r5) ∧ (∀ x y, x < x35_5.toNatClampNeg → y < r5.toNatClampNeg → co24 σ (σ.1 71).toNatClampNeg a1 a2 a3 a4 (σ_8.2.2.1 121 x) (σ_8.2.2.1 122 y)) ∧ ∀ y, y < l6.toNatClampNeg → co24 σ (σ.1 71).toNatClampNeg a1 a2 a3 a4 (σ_8.2.2.1 121 x35_5.toNatClampNeg) (σ_8.2.2.1 122 y))) k l1' l2' l3' l4' l5' l6' τ) (fun l1' l2' l3' l4' l5' l6' l7' l8' τ => ∃ k < n62, (fun n l1 l2 l3 l4 l5 l6 l7 l8 τ => n = (σ.1 71 - l8).toNatClampNeg ∧ ((l1 = a1 ∧ l2 = a2 ∧ l3 = a3 ∧ l4 = a4 ∧ l5 = x35_5 ∧ l6 = x47_6 ∧ τ = σ_8 ∧ 0 ≤ l8 ∧ l8 ≤ σ.1 71) ∧ (l7 ≠ 0 ↔ ∃ g, g < l8.toNatClampNeg ∧ (fun g => sel24 σ a3 a4 g ∧ to24 σ g a1 = σ_8.2.2.1 121 x35_5.toNatClampNeg ∧ to24 σ g a2 = σ_8.2.2.1 122 x47_6.toNatClampNeg) g) ∧ (∀ x y, x < x35_5.toNatClampNeg → y < r5.toNatClampNeg → co24 σ (σ.1 71).toNatClampNeg a1 a2 a3 a4 (σ_8.2.2.1 121 x) (σ_8.2.2.1 122 y)) ∧ ∀ y, y < x47_6.toNatClampNeg → co24 σ (σ.1 71).toNatClampNeg a1 a2 a3 a4 (σ_8.2.2.1 121 x35_5.toNatClampNeg) (σ_8.2.2.1 122 y))) k l1' l2' l3' l4' l5' l6' l7' l8' τ) l1 l2 l3 l4 l5 l6 l8 s0 τ := by
        rintro y142_1 y142_2 y142_3 y142_4 y142_5 y142_6 y142_8 y142_s0 τ142 ⟨j142, hE⟩
        unfold w_isFree_142
        intro x23 hx23
        obtain ⟨t1, t2, t3, t4, t5, t6, t7, t8, t9⟩ := i62
        obtain ⟨y1, y2, y3, y4, y5, y6, y7, y8, y9⟩ := j142
        have z := uk t8 y9 n71
        refine lp_b5 (cn_lt2 hn62 ?_ ?_) (fun d9 => ⟨rfl, ?_⟩)
        · clear h; rw [hx23, y8]; exact z.1  -- d27
        · clear h; rw [hx23, y8]; exact z.2.1  -- d28
        · refine and_5 ?_ (fun o9 => ?_)  -- i29
          · clear h; rw [hx23, y8]; exact ⟨y1, y2, y3, y4, y5, y6, y7, z.2.2.1, z.2.2.2.1⟩
          · clear o9
            have as := cn_succ t8 (Int32.lt_trans z.2.2.2.2.2 (by decide))
            rw [hx23, y8, as]
            exact hE
      obtain ⟨t1, t2, t3, t4, t5, t6, t7, t8, t9⟩ := i62
      rw [t7, e71, t5, t6]
      refine ⟨fun c24 => ?_, fun c24 => ?_⟩
      · skip
        refine hj150 _ _ _ _ _ _ _ _ ?_
        · refine and_5 ?_ (fun o9 => ?_)  -- k30
          · clear h; exact ⟨t1, t2, t3, t4, rfl, rfl, rfl, c21⟩
          · clear o9
            rw [Int32.le_antisymm t9 c24] at hE
            exact hE
      · skip
        refine ⟨fun c25 => ?_, fun c25 => ?_⟩
        · skip
          refine hj150 _ _ _ _ _ _ _ _ ?_
          · refine and_5 ?_ (fun o9 => ⟨⟨fun _ => (hE.1.mp c25).imp (fun g y => ⟨Nat.lt_of_lt_of_le y.1 (cn_l t9 t8), y.2⟩), fun _ => c25⟩, hE.2⟩)  -- k31
            clear h; exact ⟨t1, t2, t3, t4, rfl, rfl, rfl, c21⟩
        · skip
          have z := uk t8 c24 n71
          refine ⟨ib_1000.mpr ?_, ?_⟩
          · clear h; exact ⟨t8, z.2.2.2.2.2⟩  -- b32
          refine ⟨fun c26 => ?_, fun c26 => ?_⟩
          · skip
            refine hj142 _ _ _ _ _ _ _ _ _ ?_
            · refine and_5 ?_ (fun o9 => ⟨(th_24 hE.1 c25).1 (fun y => y.1.1 (by rw [← U8.2.2.1 120 (by decide) (by decide) (by decide)]; exact c26)), hE.2⟩)  -- k33
              clear h; exact ⟨t1, t2, t3, t4, rfl, rfl, rfl, rfl, c24⟩
          · skip
            refine told_g5 hC  ?_ (fun r27 q29 => ?_)
            · clear h; rw [t1]; exact ⟨t8, z.2.2.2.2.2, p0, p1⟩  -- p34
            obtain ⟨q29, z9⟩ := q29
            have v1 := z9
            refine ⟨ib_1000.mpr ?_, ?_⟩
            · clear h; exact ⟨a0, u.2.2.2.2.2⟩  -- b35
            refine ⟨fun c30 => ?_, fun c30 => ?_⟩
            · skip
              refine hj142 _ _ _ _ _ _ _ _ _ ?_
              · refine and_5 ?_ (fun o9 => ⟨(th_24 hE.1 c25).1 (fun y => c30 (by rw [v1, t1, tu_24 U8 (by decide)]; exact y.2.1)), hE.2⟩)  -- k36
                clear h; exact ⟨t1, t2, t3, t4, rfl, rfl, rfl, rfl, c24⟩
            · skip
              refine told_g5 hC  ?_ (fun r31 q33 => ?_)
              · clear h; rw [t2]; exact ⟨t8, z.2.2.2.2.2, p2, p3⟩  -- p37
              obtain ⟨q33, z9⟩ := q33
              have v2 := z9
              refine ⟨ib_1000.mpr ?_, ?_⟩
              · clear h; exact ⟨d0, w.2.2.2.2.2⟩  -- b38
              refine ⟨fun c34 => ?_, fun c34 => ?_⟩
              · skip
                refine hj142 _ _ _ _ _ _ _ _ _ ?_
                · refine and_5 ?_ (fun o9 => ⟨(th_24 hE.1 c25).1 (fun y => c34 (by rw [v2, t2, tu_24 U8 (by decide)]; exact y.2.2)), hE.2⟩)  -- k39
                  clear h; exact ⟨t1, t2, t3, t4, rfl, rfl, rfl, rfl, c24⟩
              · skip
                refine ⟨fun c35 => ?_, fun c35 => ?_⟩
                · skip
                  refine hj142 _ _ _ _ _ _ _ _ _ ?_
                  · refine and_5 ?_ (fun o9 => ⟨(th_24 hE.1 c25).2 ⟨⟨by rw [← U8.2.2.1 120 (by decide) (by decide) (by decide)]; exact c26, Or.inl (t3.symm.trans c35)⟩, by rw [← tu_24 U8 (by decide), ← t1, ← v1]; first | exact c30 | exact Decidable.byContradiction c30, by rw [← tu_24 U8 (by decide), ← t2, ← v2]; first | exact c34 | exact Decidable.byContradiction c34⟩, hE.2⟩)  -- k40
                    clear h; exact ⟨t1, t2, t3, t4, rfl, rfl, rfl, rfl, c24⟩
                · skip
                  refine told_g5 hC  ?_ (fun r36 q38 => ?_)
                  · clear h; rw [t3] at c35 ⊢
                    have q := p4.resolve_left c35
                    exact ⟨t8, z.2.2.2.2.2, q.1, q.2⟩
                  obtain ⟨q38, z9⟩ := q38
                  have v3 := z9
                  refine ⟨fun c39 => ?_, fun c39 => ?_⟩
                  · skip
                    refine hj142 _ _ _ _ _ _ _ _ _ ?_
                    · refine and_5 ?_ (fun o9 => ⟨(th_24 hE.1 c25).1 (fun y => by
rcases y.1.2 with w | w
· exact c35 (t3.trans w)
· exact c39 (by rw [v3, t3, t4, tu_24 U8 (by decide)]; exact w)), hE.2⟩)  -- k42
                      clear h; exact ⟨t1, t2, t3, t4, rfl, rfl, rfl, rfl, c24⟩
                  · skip
                    refine hj142 _ _ _ _ _ _ _ _ _ ?_
                    · refine and_5 ?_ (fun o9 => ⟨(th_24 hE.1 c25).2 ⟨⟨by rw [← U8.2.2.1 120 (by decide) (by decide) (by decide)]; exact c26, Or.inr (by rw [← tu_24 U8 (by decide), ← t3, ← t4, ← v3]; first | exact c39 | exact Decidable.byContradiction c39)⟩, by rw [← tu_24 U8 (by decide), ← t1, ← v1]; first | exact c30 | exact Decidable.byContradiction c30, by rw [← tu_24 U8 (by decide), ← t2, ← v2]; first | exact c34 | exact Decidable.byContradiction c34⟩, hE.2⟩)  -- k43
                      clear h; exact ⟨t1, t2, t3, t4, rfl, rfl, rfl, rfl, c24⟩

end
section
set_option maxHeartbeats 1600000
/-! the reference: independent, given -/
def gl24 (σ : rS) (a : Int32) : Prop := 0 ≤ a ∧ a < σ.1 15 + σ.1 17
noncomputable def ic24 (σ : rS) (a1 a2 : Int32) : Int32 := if σ.1 94 = 0 then 1 else @ite Int32 (gl24 σ a1 ∧ gl24 σ a2) (Classical.propDecidable _) 0 2
noncomputable def gc24 (σ : rS) (a1 a2 a3 : Int32) : Int32 := if σ.1 94 = 0 then 1 else @ite Int32 (gl24 σ a1 ∧ gl24 σ a2 ∧ gl24 σ a3) (Classical.propDecidable _) 0 2
/-- endings that count -/
def seh24 (σ : rS) (a3 a4 : Int32) (e : Nat) : Prop := hv24 σ e ∧ (a3 = -1 ∨ to24 σ e a3 = a4)
/-- the first is free of the second, among endings that count whose third is alike -/
def fq24 (σ : rS) (s m : Nat) (a1 a2 a3 a4 : Int32) : Prop := ∀ e f, e < m → f < m → seh24 σ a3 a4 e → seh24 σ a3 a4 f → (∃ g, g < m ∧ seh24 σ a3 a4 g ∧ to24 σ g a1 = to24 σ e a1 ∧ to24 σ g a2 = to24 σ f a2) ∧ (¬ σ.1 70 ≤ 0 → pq24 σ s a1 a2 a3 a4 (to24 σ e a1) (to24 σ f a2))
def rw24 (σ τ : rS) : Prop := ∀ g, g = 75 ∨ (76 ≤ g ∧ g ≤ 83) ∨ g = 95 ∨ g = 102 → τ.2.2.1 g = σ.2.2.1 g
theorem hv_e24 {σ τ : rS} (h70 : τ.1 70 = σ.1 70) (h : rw24 σ τ) (e : Nat) : hv24 τ e ↔ hv24 σ e := by
  have ev : ∀ k, vsV τ k = vsV σ k := fun k => by
    unfold vsV
    rw [h 95 (by decide), h 102 (by decide)]
  have el : ∀ k, loN τ k = loN σ k := fun k => by
    unfold loN
    rw [h 76 (by decide)]
  unfold hv24 hvk24 nk24
  rw [h70, h 76 (by decide), h 77 (by decide), h 78 (by decide), h 81 (by decide), h 83 (by decide)]
  simp only [ev, el]
theorem fr_q24 {σ τ : rS} {s m : Nat} {a1 a2 a3 a4 : Int32} (h : rw24 σ τ) (h70 : τ.1 70 = σ.1 70) (h120 : ∀ e, e < m → (τ.2.2.1 120 e ≠ 0 ↔ hv24 σ e)) : fr24 τ s m a1 a2 a3 a4 ↔ fq24 σ s m a1 a2 a3 a4 := by
  have et : ∀ e i, to24 τ e i = to24 σ e i := fun e i => by
    unfold to24
    rw [h 75 (by decide)]
  have es : ∀ e, e < m → (sel24 τ a3 a4 e ↔ seh24 σ a3 a4 e) := fun e he => by
    unfold sel24 seh24
    rw [h120 e he, et]
  have ec : ∀ x y, co24 τ m a1 a2 a3 a4 x y ↔ ∃ g, g < m ∧ seh24 σ a3 a4 g ∧ to24 σ g a1 = x ∧ to24 σ g a2 = y := fun x y => by
    unfold co24
    constructor
    · rintro ⟨g, g1, g2, g3, g4⟩
      exact ⟨g, g1, (es g g1).mp g2, by rw [← et]; exact g3, by rw [← et]; exact g4⟩
    · rintro ⟨g, g1, g2, g3, g4⟩
      exact ⟨g, g1, (es g g1).mpr g2, by rw [et]; exact g3, by rw [et]; exact g4⟩
  constructor
  · intro F e f he hf se sf
    have z := F e f he hf ((es e he).mpr se) ((es f hf).mpr sf)
    rw [ec, et, et, h70, pq_x24 h] at z
    exact z
  · intro F e f he hf se sf
    have z := F e f he hf ((es e he).mp se) ((es f hf).mp sf)
    rw [ec, et, et, h70, pq_x24 h]
    exact z
theorem ic_024 {σ : rS} {a1 a2 : Int32} (h : σ.1 94 ≠ 0 ∧ gl24 σ a1 ∧ gl24 σ a2) : ic24 σ a1 a2 = 0 := by
  unfold ic24
  rw [if_neg h.1, if_pos h.2]
theorem ic_124 {σ : rS} {a1 a2 : Int32} (h : σ.1 94 = 0) : ic24 σ a1 a2 = 1 := if_pos h
theorem ic_224 {σ : rS} {a1 a2 : Int32} (h : σ.1 94 ≠ 0) (n : ¬ (gl24 σ a1 ∧ gl24 σ a2)) : ic24 σ a1 a2 = 2 := by
  unfold ic24
  rw [if_neg h, if_neg n]
theorem gc_024 {σ : rS} {a1 a2 a3 : Int32} (h : σ.1 94 ≠ 0 ∧ gl24 σ a1 ∧ gl24 σ a2 ∧ gl24 σ a3) : gc24 σ a1 a2 a3 = 0 := by
  unfold gc24
  rw [if_neg h.1, if_pos h.2]
theorem gc_124 {σ : rS} {a1 a2 a3 : Int32} (h : σ.1 94 = 0) : gc24 σ a1 a2 a3 = 1 := if_pos h
theorem gc_224 {σ : rS} {a1 a2 a3 : Int32} (h : σ.1 94 ≠ 0) (n : ¬ (gl24 σ a1 ∧ gl24 σ a2 ∧ gl24 σ a3)) : gc24 σ a1 a2 a3 = 2 := by
  unfold gc24
  rw [if_neg h, if_neg n]
/-- both, by what they answer -/
def XI24 (s : Nat) (a1 a2 : Int32) (σ σ' : rS) (v : Int32) : Prop := σ'.1 0 = ic24 σ a1 a2 ∧ (ic24 σ a1 a2 = 0 → nb v ∧ (v ≠ 0 ↔ fq24 σ s (σ.1 71).toNatClampNeg a1 a2 (-1) 0))
def XG24 (s : Nat) (a1 a2 a3 : Int32) (σ σ' : rS) (v : Int32) : Prop := σ'.1 0 = gc24 σ a1 a2 a3 ∧ (gc24 σ a1 a2 a3 = 0 → nb v ∧ (v ≠ 0 ↔ ∀ e, e < (σ.1 71).toNatClampNeg → hv24 σ e → fq24 σ s (σ.1 71).toNatClampNeg a1 a2 a3 (to24 σ e a3)))
theorem independent_g5 {C : rCx} (hC : cOK C) (s : Nat) {σ : rS} {a1 : Int32} {a2 : Int32} {Q : Int32 → rS → Prop} (hp : pOK σ ∧ s = (σ.1 70).toNatClampNeg ∧ (σ.1 94 ≠ 0 → ∀ k, k < s → vOK σ k) ∧ σ.1 15 + σ.1 17 ≤ 34) (h : ∀ (v : Int32) (σ' : rS), ((frU ifF ifR ifL σ σ') ∧ (XI24 s a1 a2 σ σ' v)) → Q v σ') : cI C 9 m_independent [.ref (co C), .int a1, .int a2] σ Q := by
  refine m_independent_run hC ?_
  unfold w_independent_0
  obtain ⟨hO, hs, hv, h34⟩ := hp
  have hj33 : ∀ (l1 : Int32) (l2 : Int32) (s1 : Int32) (τ : rS), ((l1 = a1 ∧ l2 = a2 ∧ τ = σ ∧ (s1 ≤ 0 → σ.1 94 ≠ 0 ∧ (0 ≤ a1 ∧ a1 < σ.1 15 + σ.1 17) ∧ (0 ≤ a2 ∧ a2 < σ.1 15 + σ.1 17))) ∧ s1 = ic24 σ a1 a2) → w_independent_33 C Q  l1 l2 s1 τ := by
    rintro y33_1 y33_2 y33_s1 τ33 ⟨j33, hE⟩
    unfold w_independent_33
    intro σ_1 hσ_1
    obtain ⟨y1, y2, y3, y4⟩ := j33
    have U1 : frU ifF ifR ifL σ σ_1 := by rw [hσ_1, y3]; exact frU_0 (by decide)
    have e0 : σ_1.1 0 = y33_s1 := by rw [hσ_1]; rfl
    rw [y1, y2]
    refine ⟨fun c2 => ?_, fun c2 => ?_⟩
    · skip
      refine findHeavy_g5 hC  ?_ (fun σ_3 q4 => ?_)
      · clear h; exact pOK_U hO U1  -- p1
      obtain ⟨q4, z9⟩ := q4
      have w1 := z9
      refine isFree_g5 hC s ?_ (fun r5 σ_6 q7 => ?_)
      · clear h; have c := y4 (by rw [← e0]; exact c2)
        have U3 := frU_tr U1 (frU_X q4 (sub_of rfl) (by decide) (by decide))
        exact ⟨pOK_U hO U3, by rw [U3.1 70 (by decide)]; exact hs, fun k hk => vOK_U (hv c.1 k hk) U3, c.2.1.1, Int32.lt_of_lt_of_le c.2.1.2 h34, c.2.2.1, Int32.lt_of_lt_of_le c.2.2.2 h34, Or.inl rfl⟩
      obtain ⟨q7, z9⟩ := q7
      have w2 := z9
      refine ⟨?_, h _ _ ?_⟩
      · clear h; exact q7.2  -- b3
      · refine and_5 ?_ (fun o9 => ?_)  -- q4
        · clear h; exact frU_tr (frU_tr U1 (frU_X q4 (sub_of rfl) (by decide) (by decide))) (frU_w q7.1 (fun k hk => hk) (sub_of rfl) (fun k hk => hk))
        · clear o9
          have e1 : σ_1.1 0 = ic24 σ a1 a2 := e0.trans hE
          have i0 : ic24 σ a1 a2 = 0 := by
            rcases Classical.em (σ.1 94 = 0) with z | z
            · rw [e1, ic_124 z] at c2; exact absurd c2 (by decide)
            · rcases Classical.em (gl24 σ a1 ∧ gl24 σ a2) with y | y
              · exact ic_024 ⟨z, y⟩
              · rw [e1, ic_224 z y] at c2; exact absurd c2 (by decide)
          have U3 := frU_tr U1 (frU_X q4 (sub_of rfl) (by decide) (by decide))
          have rw3 : rw24 σ σ_3 := fun g q => U3.2.2.1 g (by omega) (by omega) (nr_24 g q)
          have rw1 : rw24 σ σ_1 := fun g q => U1.2.2.1 g (by omega) (by omega) (nr_24 g q)
          have h71 : σ_3.1 71 = σ.1 71 := U3.1 71 (by decide)
          refine ⟨by rw [w2.2, q4.1]; exact e1, fun _ => ⟨q7.2, ?_⟩⟩
          rw [w2.1, h71]
          refine fr_q24 rw3 (U3.1 70 (by decide)) (fun e he => ?_)
          rw [w1 e (by rw [U1.1 71 (by decide)]; exact he), hv_e24 (U1.1 70 (by decide)) rw1]
    · skip
      refine h _ _ ?_
      · refine and_5 ?_ (fun o9 => ?_)  -- q5
        · clear h; exact U1
        · clear o9
          have e1 : σ_1.1 0 = ic24 σ a1 a2 := e0.trans hE
          exact ⟨e1, fun z => absurd (by rw [e1, z]; decide) c2⟩
  refine ⟨fun c8 => ?_, fun c8 => ?_⟩
  · skip
    refine isGlobal_c hC  (fun r9 q11 => ?_)
    refine ⟨fun c12 => ?_, fun c12 => ?_⟩
    · skip
      refine hj33 _ _ _ _ ?_
      · refine and_5 ?_ (fun o9 => (ic_224 c8 (fun z => absurd c12 (q11.2.mpr z.1))).symm)  -- k6
        clear h; exact ⟨rfl, rfl, rfl, fun z => absurd z (by decide)⟩
    · skip
      refine isGlobal_c hC  (fun r13 q15 => ?_)
      refine ⟨fun c16 => ?_, fun c16 => ?_⟩
      · skip
        refine hj33 _ _ _ _ ?_
        · refine and_5 ?_ (fun o9 => (ic_024 ⟨c8, q11.2.mp c12, q15.2.mp c16⟩).symm)  -- k7
          clear h; exact ⟨rfl, rfl, rfl, fun _ => ⟨c8, q11.2.mp c12, q15.2.mp c16⟩⟩
      · skip
        refine hj33 _ _ _ _ ?_
        · refine and_5 ?_ (fun o9 => (ic_224 c8 (fun z => absurd c16 (q15.2.mpr z.2))).symm)  -- k8
          clear h; exact ⟨rfl, rfl, rfl, fun z => absurd z (by decide)⟩
  · skip
    refine hj33 _ _ _ _ ?_
    · refine and_5 ?_ (fun o9 => (ic_124 (by first | exact c8 | exact Decidable.byContradiction c8)).symm)  -- k9
      clear h; exact ⟨rfl, rfl, rfl, fun z => absurd z (by decide)⟩

theorem given_g5 {C : rCx} (hC : cOK C) (s : Nat) {σ : rS} {a1 : Int32} {a2 : Int32} {a3 : Int32} {Q : Int32 → rS → Prop} (hp : pOK σ ∧ s = (σ.1 70).toNatClampNeg ∧ (σ.1 94 ≠ 0 → ∀ k, k < s → vOK σ k) ∧ σ.1 15 + σ.1 17 ≤ 34) (h : ∀ (v : Int32) (σ' : rS), ((frU ifF ifR ifL σ σ') ∧ (XG24 s a1 a2 a3 σ σ' v)) → Q v σ') : cI C 9 m_given [.ref (co C), .int a1, .int a2, .int a3] σ Q := by
  refine m_given_run hC ?_
  unfold w_given_0
  obtain ⟨hO, hs, hv, h34⟩ := hp
  have n71 := hO.1.2.1.2
  have hj41 : ∀ (l1 : Int32) (l2 : Int32) (l3 : Int32) (s1 : Int32) (τ : rS), ((l1 = a1 ∧ l2 = a2 ∧ l3 = a3 ∧ τ = σ ∧ (s1 ≤ 0 → σ.1 94 ≠ 0 ∧ (0 ≤ a1 ∧ a1 < σ.1 15 + σ.1 17) ∧ (0 ≤ a2 ∧ a2 < σ.1 15 + σ.1 17) ∧ (0 ≤ a3 ∧ a3 < σ.1 15 + σ.1 17))) ∧ s1 = gc24 σ a1 a2 a3) → w_given_41 C Q  l1 l2 l3 s1 τ := by
    rintro y41_1 y41_2 y41_3 y41_s1 τ41 ⟨j41, hE⟩
    unfold w_given_41
    intro σ_1 hσ_1
    obtain ⟨y1, y2, y3, y4, y5⟩ := j41
    have U1 : frU ifF ifR ifL σ σ_1 := by rw [hσ_1, y4]; exact frU_0 (by decide)
    have e0 : σ_1.1 0 = y41_s1 := by rw [hσ_1]; rfl
    rw [y1, y2, y3]
    refine ⟨fun c2 => ?_, fun c2 => ?_⟩
    · skip
      refine findHeavy_g5 hC  ?_ (fun σ_3 q4 => ?_)
      · clear h; exact pOK_U hO U1  -- p1
      obtain ⟨q4, z9⟩ := q4
      have w1 := z9
      have c := y5 (by rw [← e0]; exact c2)
      have U3 := frU_tr U1 (frU_X q4 (sub_of rfl) (by decide) (by decide))
      refine list_g5 hC  ?_ (fun r5 σ_6 q7 => ?_)
      · clear h; exact ⟨Or.inr (Or.inr rfl), (pOK_U hO U3).1, c.2.2.2.1, Int32.lt_of_lt_of_le c.2.2.2.2 h34, Or.inl rfl⟩  -- p2
      obtain ⟨q7, z9⟩ := q7
      have w2 := z9
      have rw3 : rw24 σ σ_3 := fun g q => U3.2.2.1 g (by omega) (by omega) (nr_24 g q)
      have rw1 : rw24 σ σ_1 := fun g q => U1.2.2.1 g (by omega) (by omega) (nr_24 g q)
      have h3 : ∀ e, e < (σ.1 71).toNatClampNeg → (σ_3.2.2.1 120 e ≠ 0 ↔ hv24 σ e) := fun e he => by
        rw [w1 e (by rw [U1.1 71 (by decide)]; exact he), hv_e24 (U1.1 70 (by decide)) rw1]
      have e1 : σ_1.1 0 = gc24 σ a1 a2 a3 := e0.trans hE
      have L6 : ∀ x, x < r5.toNatClampNeg → ∃ e, e < (σ.1 71).toNatClampNeg ∧ hv24 σ e ∧ σ_6.2.2.1 123 x = to24 σ e a3 := fun x hx => by
        obtain ⟨e, y1, y2, y3⟩ := w2.1 x hx
        rw [U3.1 71 (by decide)] at y1
        exact ⟨e, y1, (h3 e y1).mp y2.1, by rw [y3]; unfold to24; rw [rw3 75 (by decide)]⟩
      have M6 : ∀ e, e < (σ.1 71).toNatClampNeg → hv24 σ e → ∃ x, x < r5.toNatClampNeg ∧ σ_6.2.2.1 123 x = to24 σ e a3 := fun e he y => by
        obtain ⟨x, x1, x2⟩ := w2.2 e (by rw [U3.1 71 (by decide)]; exact he) ⟨(h3 e he).mpr y, Or.inl rfl⟩
        exact ⟨x, x1, by rw [x2]; unfold to24; rw [rw3 75 (by decide)]⟩
      have U6 := frU_tr U3 (frU_X q7.1 (sub_of rfl) (by decide) (by decide))
      have r5k : r5 ≤ 1000 := Int32.le_trans q7.2.2 (by rw [U3.1 71 (by decide)]; exact n71)
      unfold w_given_76
      refine ⟨fun n l1 l2 l3 l4 l5 l6 τ => n = (r5 - l6).toNatClampNeg ∧ ((l1 = a1 ∧ l2 = a2 ∧ l3 = a3 ∧ frU ifF ifR ifL σ τ ∧ l4 = r5 ∧ nb l5 ∧ 0 ≤ l6 ∧ l6 ≤ r5) ∧ (l5 ≠ 0 ↔ ∀ x, x < l6.toNatClampNeg → fq24 σ s (σ.1 71).toNatClampNeg a1 a2 a3 (σ_6.2.2.1 123 x)) ∧ τ.2.2.1 123 = σ_6.2.2.1 123 ∧ (∀ e, e < (σ.1 71).toNatClampNeg → (τ.2.2.1 120 e ≠ 0 ↔ hv24 σ e)) ∧ τ.1 0 = gc24 σ a1 a2 a3), ⟨_, rfl, ?_⟩, ?_⟩
      · refine and_5 ?_ (fun o9 => ?_)  -- j3
        · clear h; exact ⟨rfl, rfl, rfl, U6, rfl, nb_1, by decide, q7.2.1⟩
        · clear o9
          refine ⟨⟨fun _ x hx => absurd hx (Nat.not_lt_zero x), fun _ => by decide⟩, rfl, fun e he => ?_, ?_⟩
          · rw [q7.1.2.2.1 120 (by decide)]
            exact h3 e he
          · rw [q7.1.1, q4.1]
            exact e1
      rintro n76 x76_1 x76_2 x76_3 x76_4 x76_5 x76_6 σ76 ⟨hn76, i76, hE⟩
      obtain ⟨g1, g2, g3, H, g4, g5, d0, d1⟩ := i76
      rw [g4]
      refine ⟨fun c8 => ?_, fun c8 => ?_⟩
      · skip
        refine ⟨?_, h _ _ ?_⟩
        · clear h; exact g5  -- b4
        · refine and_5 ?_ (fun o9 => ?_)  -- q5
          · clear h; exact H
          · clear o9
            rw [Int32.le_antisymm d1 c8] at hE
            refine ⟨hE.2.2.2, fun _ => ⟨g5, hE.1.trans ⟨fun F e he y => ?_, fun F x hx => ?_⟩⟩⟩
            · obtain ⟨x, x1, x2⟩ := M6 e he y
              rw [← x2]
              exact F x x1
            · obtain ⟨e, y1, y2, y3⟩ := L6 x hx
              rw [y3]
              exact F e y1 y2
      · skip
        refine ⟨fun c9 => ?_, fun c9 => ?_⟩
        · skip
          refine ⟨?_, h _ _ ?_⟩
          · clear h; exact g5  -- b6
          · refine and_5 ?_ (fun o9 => ?_)  -- q7
            · clear h; exact H
            · clear o9
              refine ⟨hE.2.2.2, fun _ => ⟨g5, ⟨fun z => absurd c9 z, fun F => hE.1.mpr (fun x hx => ?_)⟩⟩⟩
              obtain ⟨e, y1, y2, y3⟩ := L6 x (Nat.lt_of_lt_of_le hx (cn_l d1 d0))
              rw [y3]
              exact F e y1 y2
        · skip
          have w := uk d0 c8 r5k
          refine ⟨ib_1000.mpr ?_, ?_⟩
          · clear h; exact ⟨d0, w.2.2.2.2.2⟩  -- b8
          refine isFree_g5 hC s ?_ (fun r10 σ_11 q12 => ?_)
          · clear h; rw [g1, g2, g3]
            exact ⟨pOK_U hO H, by rw [H.1 70 (by decide)]; exact hs, fun k hk => vOK_U (hv c.1 k hk) H, c.2.1.1, Int32.lt_of_lt_of_le c.2.1.2 h34, c.2.2.1.1, Int32.lt_of_lt_of_le c.2.2.1.2 h34, Or.inr ⟨c.2.2.2.1, Int32.lt_of_lt_of_le c.2.2.2.2 h34⟩⟩
          obtain ⟨q12, z9⟩ := q12
          intro x13 hx13
          refine lp_b5 (cn_lt2 hn76 ?_ ?_) (fun d9 => ⟨rfl, ?_⟩)
          · clear h; rw [hx13]; exact w.1  -- d10
          · clear h; rw [hx13]; exact w.2.1  -- d11
          · refine and_5 ?_ (fun o9 => ?_)  -- i12
            · clear h; rw [hx13]; exact ⟨g1, g2, g3, frU_tr H (frU_w q12.1 (fun k hk => hk) (sub_of rfl) (fun k hk => hk)), rfl, q12.2, w.2.2.1, w.2.2.2.1⟩
            · clear o9
              have as := cn_succ d0 (Int32.lt_trans w.2.2.2.2.2 (by decide))
              have rwH : rw24 σ σ76 := fun g q => H.2.2.1 g (by omega) (by omega) (nr_24 g q)
              have ef := fr_q24 (s := s) (a1 := a1) (a2 := a2) (a3 := a3) (a4 := σ_6.2.2.1 123 x76_6.toNatClampNeg) rwH (H.1 70 (by decide)) hE.2.2.1
              have y := z9.1
              rw [g1, g2, g3, hE.2.1, H.1 71 (by decide), ef] at y
              rw [hx13, as]
              refine ⟨y.trans ⟨fun Z x hx => ?_, fun Z => Z _ (Nat.lt_succ_self _)⟩, ?_, fun e he => ?_, ?_⟩
              · by_cases c : x = x76_6.toNatClampNeg
                · rw [c]; exact Z
                · exact hE.1.mp c9 x (by omega)
              · rw [q12.1.2.2.1 123 (by decide) (by decide) (by decide)]
                exact hE.2.1
              · rw [q12.1.2.2.1 120 (by decide) (by decide) (by decide)]
                exact hE.2.2.1 e he
              · rw [z9.2]
                exact hE.2.2.2
    · skip
      refine h _ _ ?_
      · refine and_5 ?_ (fun o9 => ?_)  -- q13
        · clear h; exact U1
        · clear o9
          have e1 : σ_1.1 0 = gc24 σ a1 a2 a3 := e0.trans hE
          exact ⟨e1, fun z => absurd (by rw [e1, z]; decide) c2⟩
  refine ⟨fun c14 => ?_, fun c14 => ?_⟩
  · skip
    refine isGlobal_c hC  (fun r15 q17 => ?_)
    refine ⟨fun c18 => ?_, fun c18 => ?_⟩
    · skip
      refine hj41 _ _ _ _ _ ?_
      · refine and_5 ?_ (fun o9 => (gc_224 c14 (fun z => absurd c18 (q17.2.mpr z.1))).symm)  -- k14
        clear h; exact ⟨rfl, rfl, rfl, rfl, fun z => absurd z (by decide)⟩
    · skip
      refine isGlobal_c hC  (fun r19 q21 => ?_)
      refine ⟨fun c22 => ?_, fun c22 => ?_⟩
      · skip
        refine hj41 _ _ _ _ _ ?_
        · refine and_5 ?_ (fun o9 => (gc_224 c14 (fun z => absurd c22 (q21.2.mpr z.2.1))).symm)  -- k15
          clear h; exact ⟨rfl, rfl, rfl, rfl, fun z => absurd z (by decide)⟩
      · skip
        refine isGlobal_c hC  (fun r23 q25 => ?_)
        refine ⟨fun c26 => ?_, fun c26 => ?_⟩
        · skip
          refine hj41 _ _ _ _ _ ?_
          · refine and_5 ?_ (fun o9 => (gc_024 ⟨c14, q17.2.mp c18, q21.2.mp c22, q25.2.mp c26⟩).symm)  -- k16
            clear h; exact ⟨rfl, rfl, rfl, rfl, fun _ => ⟨c14, q17.2.mp c18, q21.2.mp c22, q25.2.mp c26⟩⟩
        · skip
          refine hj41 _ _ _ _ _ ?_
          · refine and_5 ?_ (fun o9 => (gc_224 c14 (fun z => absurd c26 (q25.2.mpr z.2.2))).symm)  -- k17
            clear h; exact ⟨rfl, rfl, rfl, rfl, fun z => absurd z (by decide)⟩
  · skip
    refine hj41 _ _ _ _ _ ?_
    · refine and_5 ?_ (fun o9 => (gc_124 (by first | exact c14 | exact Decidable.byContradiction c14)).symm)  -- k18
      clear h; exact ⟨rfl, rfl, rfl, rfl, fun z => absurd z (by decide)⟩

end
section
/-! independent, given: the answers, by value -/
noncomputable def iw24 (σ : rS) (a1 a2 : Int32) : Int32 := @ite Int32 (fq24 σ (σ.1 70).toNatClampNeg (σ.1 71).toNatClampNeg a1 a2 (-1) 0) (Classical.propDecidable _) 1 0
noncomputable def gw24 (σ : rS) (a1 a2 a3 : Int32) : Int32 := @ite Int32 (∀ e, e < (σ.1 71).toNatClampNeg → hv24 σ e → fq24 σ (σ.1 70).toNatClampNeg (σ.1 71).toNatClampNeg a1 a2 a3 (to24 σ e a3)) (Classical.propDecidable _) 1 0
theorem nb_e24 {v : Int32} {p : Prop} (h : nb v) (e : v ≠ 0 ↔ p) : v = @ite Int32 p (Classical.propDecidable _) 1 0 := by
  by_cases c : p
  · rw [if_pos c]
    exact h.resolve_left (e.mpr c)
  · rw [if_neg c]
    exact Classical.not_not.mp (fun z => c (e.mp z))
theorem nb_i24 {p : Prop} : nb (@ite Int32 p (Classical.propDecidable _) 1 0) := by
  by_cases c : p
  · rw [if_pos c]
    exact Or.inr rfl
  · rw [if_neg c]
    exact Or.inl rfl
def hi24 (σ : rS) (a1 a2 : Int32) : Prop := ic24 σ a1 a2 = 0
def hg24 (σ : rS) (a1 a2 a3 : Int32) : Prop := gc24 σ a1 a2 a3 = 0
def XIA24 (a1 a2 : Int32) (σ σ' : rS) (v : Int32) : Prop := (hi24 σ a1 a2 ∧ σ'.1 0 = 0 ∧ v = iw24 σ a1 a2) ∨ (¬ hi24 σ a1 a2 ∧ σ'.1 0 = ic24 σ a1 a2)
def XGA24 (a1 a2 a3 : Int32) (σ σ' : rS) (v : Int32) : Prop := (hg24 σ a1 a2 a3 ∧ σ'.1 0 = 0 ∧ v = gw24 σ a1 a2 a3) ∨ (¬ hg24 σ a1 a2 a3 ∧ σ'.1 0 = gc24 σ a1 a2 a3)
theorem xi_24 {σ σ' : rS} {a1 a2 v : Int32} (h : XI24 (σ.1 70).toNatClampNeg a1 a2 σ σ' v) : XIA24 a1 a2 σ σ' v := by
  obtain ⟨x0, x1⟩ := h
  by_cases z : ic24 σ a1 a2 = 0
  · exact Or.inl ⟨z, x0.trans z, nb_e24 (x1 z).1 (x1 z).2⟩
  · exact Or.inr ⟨z, x0⟩
theorem xg_24 {σ σ' : rS} {a1 a2 a3 v : Int32} (h : XG24 (σ.1 70).toNatClampNeg a1 a2 a3 σ σ' v) : XGA24 a1 a2 a3 σ σ' v := by
  obtain ⟨x0, x1⟩ := h
  by_cases z : gc24 σ a1 a2 a3 = 0
  · exact Or.inl ⟨z, x0.trans z, nb_e24 (x1 z).1 (x1 z).2⟩
  · exact Or.inr ⟨z, x0⟩

end
section
set_option maxHeartbeats 1600000
/-! tables of weights: free of each other, and rows that are multiples of the first one -/
theorem smQ_w24 {f : Nat → Nat → Rat} {n m : Nat} : smQ (fun i => smQ (fun j => f i j) m) n = smQ (fun j => smQ (fun i => f i j) n) m := by
  induction n with
  | zero => exact (smQ_0 (fun _ _ => rfl)).symm
  | succ n ih =>
    rw [smQ_s, ih, ← smQ_add]
    rfl
noncomputable def pw24 (P : Nat → Prop) (w : Nat → Rat) (e : Nat) : Rat := @ite Rat (P e) (Classical.propDecidable _) (w e) 0
noncomputable def sw24 (P : Nat → Prop) (w : Nat → Rat) (m : Nat) : Rat := smQ (pw24 P w) m
theorem pw_124 {P : Nat → Prop} {w : Nat → Rat} {e : Nat} (h : P e) : pw24 P w e = w e := if_pos h
theorem pw_024 {P : Nat → Prop} {w : Nat → Rat} {e : Nat} (h : ¬ P e) : pw24 P w e = 0 := if_neg h
theorem sw_c24 {P P' : Nat → Prop} {w : Nat → Rat} {m : Nat} (h : ∀ e, e < m → (P e ↔ P' e)) : sw24 P w m = sw24 P' w m := smQ_c (fun e he => by
  by_cases c : P e
  · rw [pw_124 c, pw_124 ((h e he).mp c)]
  · rw [pw_024 c, pw_024 (fun z => c ((h e he).mpr z))])
theorem sw_p24 {P : Nat → Prop} {w : Nat → Rat} {m e : Nat} (hw : ∀ e, e < m → P e → 0 < w e) (he : e < m) (hp : P e) : 0 < sw24 P w m := by
  have nn : ∀ i, i < m → 0 ≤ pw24 P w i := fun i hi => by
    by_cases c : P i
    · rw [pw_124 c]; exact Rat.le_of_lt (hw i hi c)
    · rw [pw_024 c]; exact Rat.le_refl
  have g := smQ_ge (j := e) nn he
  rw [pw_124 hp] at g
  have p := hw e he hp
  exact Rat.not_le.mp (fun z => absurd (Rat.le_trans g z) (Rat.not_le.mpr p))
theorem sw_r24 {P : Nat → Prop} {w : Nat → Rat} {ρ : Nat → Nat} {m n : Nat} (h : ∀ e, e < m → P e → ρ e < n) : sw24 P w m = smQ (fun r => sw24 (fun e => P e ∧ ρ e = r) w m) n := by
  have s := smQ_w24 (f := fun r e => pw24 (fun e => P e ∧ ρ e = r) w e) (n := n) (m := m)
  refine Eq.trans ?_ s.symm
  refine smQ_c (fun e he => ?_)
  by_cases c : P e
  · have e1 : ∀ r, pw24 (fun e => P e ∧ ρ e = r) w e = if ρ e = r then w e else 0 := fun r => by
      by_cases d : ρ e = r
      · rw [pw_124 ⟨c, d⟩, if_pos d]
      · rw [pw_024 (fun z => d z.2), if_neg d]
    have e2 : smQ (fun r => pw24 (fun e => P e ∧ ρ e = r) w e) n = smQ (fun r => if ρ e = r then (fun _ => w e) r else 0) n := smQ_c (fun r _ => e1 r)
    rw [e2, smQ_115, if_pos (h e he c), pw_124 c]
  · rw [pw_024 c]
    exact (smQ_0 (fun r _ => pw_024 (fun z => c z.1))).symm
theorem ca_24 {x y s : Rat} (s0 : s ≠ 0) (h : x * s = y * s) : x = y := by
  have k := Rat.mul_inv_cancel s s0
  have a : x * (s * s⁻¹) = y * (s * s⁻¹) := by rw [← Rat.mul_assoc, ← Rat.mul_assoc, h]
  rw [k, Rat.mul_one, Rat.mul_one] at a
  exact a
section
variable {E : Nat → Prop} {w : Nat → Rat} {ra rb : Nat → Nat} {m nr nc : Nat}
/-- a cell's weight -/
noncomputable def wc24 (E : Nat → Prop) (w : Nat → Rat) (ra rb : Nat → Nat) (m r c : Nat) : Rat := sw24 (fun e => (E e ∧ ra e = r) ∧ rb e = c) w m
theorem wc_r24 (hc : ∀ e, e < m → E e → rb e < nc) (r : Nat) : sw24 (fun e => E e ∧ ra e = r) w m = smQ (fun c => wc24 E w ra rb m r c) nc := sw_r24 (fun e he h => hc e he h.1)
theorem wc_c24 (hr : ∀ e, e < m → E e → ra e < nr) (c : Nat) : sw24 (fun e => E e ∧ rb e = c) w m = smQ (fun r => wc24 E w ra rb m r c) nr := by
  rw [sw_r24 (ρ := ra) (n := nr) (fun e he h => hr e he h.1)]
  exact smQ_c (fun r _ => sw_c24 (fun e _ => ⟨fun z => ⟨⟨z.1.1, z.2⟩, z.1.2⟩, fun z => ⟨⟨z.1.1, z.2⟩, z.1.2⟩⟩))
theorem ind_24 (hw : ∀ e, e < m → E e → 0 < w e) (hr : ∀ e, e < m → E e → ra e < nr) (hc : ∀ e, e < m → E e → rb e < nc) (full : ∀ r c, r < nr → c < nc → ∃ e, e < m ∧ (E e ∧ ra e = r) ∧ rb e = c) : (∀ r c, r < nr → c < nc → wc24 E w ra rb m r c * sw24 E w m = sw24 (fun e => E e ∧ ra e = r) w m * sw24 (fun e => E e ∧ rb e = c) w m) ↔ (∀ r c, r < nr → c < nc → wc24 E w ra rb m r c * wc24 E w ra rb m 0 0 = wc24 E w ra rb m r 0 * wc24 E w ra rb m 0 c) := by
  constructor
  · intro H r c h1 h2
    obtain ⟨e, e1, e2, _⟩ := full r c h1 h2
    have S0 : sw24 E w m ≠ 0 := fun z => by
      have y := sw_p24 hw e1 e2.1
      rw [z] at y
      exact absurd y (by decide)
    have A := H r c h1 h2
    have B := H 0 0 (by omega) (by omega)
    have D := H r 0 h1 (by omega)
    have F := H 0 c (by omega) h2
    refine ca_24 S0 (ca_24 S0 ?_)
    generalize wc24 E w ra rb m r c = x at *
    generalize wc24 E w ra rb m 0 0 = y at *
    generalize wc24 E w ra rb m r 0 = p at *
    generalize wc24 E w ra rb m 0 c = q at *
    generalize sw24 E w m = s at *
    have l : x * y * s * s = (x * s) * (y * s) := by grind
    have l2 : p * q * s * s = (p * s) * (q * s) := by grind
    rw [l, l2, A, B, D, F]
    grind
  · intro H r c h1 h2
    obtain ⟨e, e1, e2, e3⟩ := full 0 0 (by omega) (by omega)
    have W0 : wc24 E w ra rb m 0 0 ≠ 0 := fun z => by
      have y := sw_p24 (P := fun e => (E e ∧ ra e = 0) ∧ rb e = 0) (w := w) (m := m) (fun e he h => hw e he h.1.1) e1 ⟨e2, e3⟩
      have z' : sw24 (fun e => (E e ∧ ra e = 0) ∧ rb e = 0) w m = 0 := z
      rw [z'] at y
      exact absurd y (by decide)
    have R : ∀ r, r < nr → sw24 (fun e => E e ∧ ra e = r) w m * wc24 E w ra rb m 0 0 = wc24 E w ra rb m r 0 * sw24 (fun e => E e ∧ ra e = 0) w m := fun r hr' => by
      rw [wc_r24 hc, wc_r24 hc, ← smQ_mul, Rat.mul_comm (wc24 E w ra rb m r 0), ← smQ_mul]
      exact smQ_c (fun c hc' => by rw [H r c hr' hc', Rat.mul_comm])
    have C : ∀ c, c < nc → sw24 (fun e => E e ∧ rb e = c) w m * wc24 E w ra rb m 0 0 = wc24 E w ra rb m 0 c * sw24 (fun e => E e ∧ rb e = 0) w m := fun c hc' => by
      rw [wc_c24 hr, wc_c24 hr, ← smQ_mul, Rat.mul_comm (wc24 E w ra rb m 0 c), ← smQ_mul]
      exact smQ_c (fun r hr' => by rw [H r c hr' hc'])
    have S : sw24 E w m * wc24 E w ra rb m 0 0 = sw24 (fun e => E e ∧ rb e = 0) w m * sw24 (fun e => E e ∧ ra e = 0) w m := by
      rw [sw_r24 (ρ := ra) (n := nr) hr, ← smQ_mul, wc_c24 hr 0, ← smQ_mul]
      exact smQ_c (fun r hr' => R r hr')
    have A := H r c h1 h2
    have R1 := R r h1
    have C1 := C c h2
    refine ca_24 W0 (ca_24 W0 ?_)
    generalize wc24 E w ra rb m r c = x at *
    generalize wc24 E w ra rb m 0 0 = y at *
    generalize wc24 E w ra rb m r 0 = p at *
    generalize wc24 E w ra rb m 0 c = q at *
    generalize sw24 E w m = s at *
    generalize sw24 (fun e => E e ∧ ra e = r) w m = u at *
    generalize sw24 (fun e => E e ∧ rb e = c) w m = v at *
    generalize sw24 (fun e => E e ∧ rb e = 0) w m = a at *
    generalize sw24 (fun e => E e ∧ ra e = 0) w m = b at *
    have l : x * s * y * y = (x * y) * (s * y) := by grind
    have l2 : u * v * y * y = (u * y) * (v * y) := by grind
    rw [l, l2, A, S, R1, C1]
    grind
end
/-- by labels: what is free is a full table whose rows are multiples of the first -/
theorem lab_24 {E : Nat → Prop} {w : Nat → Rat} {ra rb : Nat → Nat} {m nr nc : Nat} {a b : Nat → Int32} (hw : ∀ e, e < m → E e → 0 < w e) (hr : ∀ e, e < m → E e → ra e < nr) (hc : ∀ e, e < m → E e → rb e < nc) (qa : ∀ e f, e < m → f < m → E e → E f → (a e = a f ↔ ra e = ra f)) (qb : ∀ e f, e < m → f < m → E e → E f → (b e = b f ↔ rb e = rb f)) (sr : ∀ r, r < nr → ∃ e, e < m ∧ E e ∧ ra e = r) (sc : ∀ c, c < nc → ∃ e, e < m ∧ E e ∧ rb e = c) : (∀ e f, e < m → f < m → E e → E f → (∃ g, g < m ∧ E g ∧ a g = a e ∧ b g = b f) ∧ sw24 (fun g => E g ∧ a g = a e ∧ b g = b f) w m * sw24 E w m = sw24 (fun g => E g ∧ a g = a e) w m * sw24 (fun g => E g ∧ b g = b f) w m) ↔ ((∀ r c, r < nr → c < nc → ∃ e, e < m ∧ (E e ∧ ra e = r) ∧ rb e = c) ∧ ∀ r c, r < nr → c < nc → wc24 E w ra rb m r c * wc24 E w ra rb m 0 0 = wc24 E w ra rb m r 0 * wc24 E w ra rb m 0 c) := by
  have k1 : ∀ e f, e < m → f < m → E e → E f → sw24 (fun g => E g ∧ a g = a e ∧ b g = b f) w m = wc24 E w ra rb m (ra e) (rb f) := fun e f he hf Ee Ef => sw_c24 (fun g hg => ⟨fun z => ⟨⟨z.1, (qa g e hg he z.1 Ee).mp z.2.1⟩, (qb g f hg hf z.1 Ef).mp z.2.2⟩, fun z => ⟨z.1.1, (qa g e hg he z.1.1 Ee).mpr z.1.2, (qb g f hg hf z.1.1 Ef).mpr z.2⟩⟩)
  have k2 : ∀ e, e < m → E e → sw24 (fun g => E g ∧ a g = a e) w m = sw24 (fun g => E g ∧ ra g = ra e) w m := fun e he Ee => sw_c24 (fun g hg => ⟨fun z => ⟨z.1, (qa g e hg he z.1 Ee).mp z.2⟩, fun z => ⟨z.1, (qa g e hg he z.1 Ee).mpr z.2⟩⟩)
  have k3 : ∀ f, f < m → E f → sw24 (fun g => E g ∧ b g = b f) w m = sw24 (fun g => E g ∧ rb g = rb f) w m := fun e he Ee => sw_c24 (fun g hg => ⟨fun z => ⟨z.1, (qb g e hg he z.1 Ee).mp z.2⟩, fun z => ⟨z.1, (qb g e hg he z.1 Ee).mpr z.2⟩⟩)
  constructor
  · intro H
    have full : ∀ r c, r < nr → c < nc → ∃ e, e < m ∧ (E e ∧ ra e = r) ∧ rb e = c := fun r c h1 h2 => by
      obtain ⟨e, e1, e2, e3⟩ := sr r h1
      obtain ⟨f, f1, f2, f3⟩ := sc c h2
      obtain ⟨g, g1, g2, g3, g4⟩ := (H e f e1 f1 e2 f2).1
      exact ⟨g, g1, ⟨g2, ((qa g e g1 e1 g2 e2).mp g3).trans e3⟩, ((qb g f g1 f1 g2 f2).mp g4).trans f3⟩
    refine ⟨full, (ind_24 hw hr hc full).mp (fun r c h1 h2 => ?_)⟩
    obtain ⟨e, e1, e2, e3⟩ := sr r h1
    obtain ⟨f, f1, f2, f3⟩ := sc c h2
    have y := (H e f e1 f1 e2 f2).2
    rw [k1 e f e1 f1 e2 f2, k2 e e1 e2, k3 f f1 f2, e3, f3] at y
    exact y
  · rintro ⟨full, G⟩ e f e1 f1 e2 f2
    have I := (ind_24 hw hr hc full).mpr G
    refine ⟨?_, ?_⟩
    · obtain ⟨g, g1, g2, g3⟩ := full _ _ (hr e e1 e2) (hc f f1 f2)
      exact ⟨g, g1, g2.1, (qa g e g1 e1 g2.1 e2).mpr g2.2, (qb g f g1 f1 g2.1 f2).mpr g3⟩
    · rw [k1 e f e1 f1 e2 f2, k2 e e1 e2, k3 f f1 f2]
      exact I _ _ (hr e e1 e2) (hc f f1 f2)

end
section
set_option maxHeartbeats 1600000
/-! the reference: weights of endings -/
def she24 (σ : rS) (P : Nat → Prop) (x : Nat) : Prop := σ.2.2.1 77 x = 1 ∧ P (σ.2.2.1 78 x).toNatClampNeg
noncomputable def shp24 (σ : rS) (P : Nat → Prop) (x : Nat) : Int := iv24 (she24 σ P x)
noncomputable def we24 (σ : rS) (s e : Nat) : Rat := ws24 σ (shp24 σ (fun n => n = e)) s
theorem pw_s24 {P : Nat → Prop} {f : Nat → Nat → Rat} {n e : Nat} : pw24 P (fun e => smQ (fun k => f e k) n) e = smQ (fun k => pw24 P (fun e => f e k) e) n := by
  by_cases c : P e
  · rw [pw_124 c]
    exact smQ_c (fun k _ => (pw_124 (w := fun e => f e k) c).symm)
  · rw [pw_024 c]
    exact (smQ_0 (fun k _ => pw_024 (w := fun e => f e k) c)).symm
theorem wt_p24 {σ : rS} {P : Nat → Prop} {k x m : Nat} (h : σ.2.2.1 77 x = 1 → (σ.2.2.1 78 x).toNatClampNeg < m) : wt24 σ (shp24 σ P) k x = smQ (pw24 P (fun e => wt24 σ (shp24 σ (fun n => n = e)) k x)) m := by
  by_cases c : σ.2.2.1 77 x = 1
  · have l := h c
    have t : ∀ e, pw24 P (fun e => wt24 σ (shp24 σ (fun n => n = e)) k x) e = if (σ.2.2.1 78 x).toNatClampNeg = e then (fun e => pw24 P (fun _ => wt24 σ (fun _ => 1) k x) e) e else 0 := fun e => by
      by_cases d : (σ.2.2.1 78 x).toNatClampNeg = e
      · rw [if_pos d]
        by_cases p : P e
        · rw [pw_124 p]
          show _ = pw24 P _ e
          rw [pw_124 p]
          unfold wt24 shp24
          rw [iv_124 (show she24 σ (fun n => n = e) x from ⟨c, d⟩)]
        · rw [pw_024 p]
          show _ = pw24 P _ e
          rw [pw_024 p]
      · rw [if_neg d]
        by_cases p : P e
        · rw [pw_124 p]
          exact wt_h24 (iv_024 (fun z => d z.2))
        · exact pw_024 p
    have u := smQ_c (n := m) (fun e _ => t e)
    refine Eq.trans ?_ u.symm
    rw [smQ_115, if_pos l]
    by_cases p : P (σ.2.2.1 78 x).toNatClampNeg
    · show _ = pw24 P _ _
      rw [pw_124 p]
      unfold wt24 shp24
      rw [iv_124 (show she24 σ P x from ⟨c, p⟩)]
    · show _ = pw24 P _ _
      rw [pw_024 p]
      exact wt_h24 (iv_024 (fun z => p z.2))
  · rw [wt_h24 (iv_024 (fun z => c z.1) : shp24 σ P x = 0)]
    refine (smQ_0 (fun e _ => ?_)).symm
    by_cases p : P e
    · rw [pw_124 p]
      exact wt_h24 (iv_024 (fun z => c z.1))
    · exact pw_024 p
theorem nx_24 {σ : rS} {k d : Nat} (hO : exO σ) (hk : k < (σ.1 70).toNatClampNeg) (hd : d < leN σ k) : nxE σ (loN σ k + d) := by
  have k1 : (σ.1 70).toNatClampNeg ≤ 1000 := cn_le (y := 1000) rfl hO.1.2
  have ek : (Int32.ofNat k).toNatClampNeg = k := cl_5 (by omega)
  have ei : (Int32.ofNat k).toInt = (k : Int) := ofn_i (by omega)
  have z0 := hO.1.1
  rw [lei, t0i] at z0
  have c70 := cnk z0
  have st := ex_st (j := Int32.ofNat k) hO (by rw [lei, t0i, ei]; omega) (by rw [lti, ei]; omega)
  rw [ek] at st
  refine hO.2.2.2.2 _ ?_
  have l := cn_l st.2.2.1 (Int32.le_trans st.1.1 st.2.1)
  unfold leN at hd
  omega
theorem ws_p24 {σ : rS} {s m : Nat} (hO : exO σ) (hs : s = (σ.1 70).toNatClampNeg) (hm : m = (σ.1 71).toNatClampNeg) (P : Nat → Prop) : ws24 σ (shp24 σ P) s = sw24 P (we24 σ s) m := by
  have e : ∀ e, pw24 P (we24 σ s) e = smQ (fun k => smQ (fun d => pw24 P (fun e => wt24 σ (shp24 σ (fun n => n = e)) k (loN σ k + d)) e) (leN σ k)) s := fun e => by
    show pw24 P (fun e => smQ (fun k => smQ (fun d => wt24 σ (shp24 σ (fun n => n = e)) k (loN σ k + d)) (leN σ k)) s) e = _
    rw [pw_s24 (f := fun e k => smQ (fun d => wt24 σ (shp24 σ (fun n => n = e)) k (loN σ k + d)) (leN σ k))]
    exact smQ_c (fun k _ => pw_s24 (f := fun e d => wt24 σ (shp24 σ (fun n => n = e)) k (loN σ k + d)))
  have u := smQ_c (n := m) (fun i _ => e i)
  refine Eq.trans ?_ u.symm
  rw [smQ_w24 (f := fun e k => smQ (fun d => pw24 P (fun e => wt24 σ (shp24 σ (fun n => n = e)) k (loN σ k + d)) e) (leN σ k))]
  refine smQ_c (fun k hk => ?_)
  rw [smQ_w24 (f := fun e d => pw24 P (fun e => wt24 σ (shp24 σ (fun n => n = e)) k (loN σ k + d)) e)]
  refine smQ_c (fun d hd => ?_)
  refine wt_p24 (fun c => ?_)
  have y := (nx_24 hO (by rw [← hs]; exact hk) hd).2.2 c
  rw [hm]
  exact cn_lt y.1 y.2
theorem sw_h24 {P H : Nat → Prop} {w : Nat → Rat} {m : Nat} (h : ∀ e, e < m → P e → ¬ H e → w e = 0) : sw24 P w m = sw24 (fun e => H e ∧ P e) w m := smQ_c (fun e he => by
  by_cases p : P e
  · by_cases q : H e
    · rw [pw_124 p, pw_124 ⟨q, p⟩]
    · rw [pw_124 p, pw_024 (fun z => q z.1), h e he p q]
  · rw [pw_024 p, pw_024 (fun z => p z.2)])
theorem wt_n24 {σ : rS} {P : Nat → Prop} {k d : Nat} (h : exO σ) (hk : k < (σ.1 70).toNatClampNeg) (hd : d < leN σ k) : 0 ≤ wt24 σ (shp24 σ P) k (loN σ k + d) := by
  unfold wt24 vt16
  refine Rat.mul_nonneg ?_ (mk_n16 (Int.mul_nonneg ?_ ?_))
  · split
    · exact Rat.le_refl
    · unfold fV
      exact mk_n16 (Int.natCast_nonneg _)
  · have w := (st_z8 h (x := k) hk).1 (loN σ k + d) (Nat.le_add_right _ _) (by unfold leN at hd; unfold loN at hd ⊢; omega)
    rw [lei, t1i] at w
    unfold twI
    split
    · omega
    · split <;> decide
  · unfold shp24 iv24
    split <;> decide
/-- an ending that counts weighs; another one doesn't -/
theorem we_h24 {σ : rS} {s e : Nat} (hP : pOK σ) (hs : s = (σ.1 70).toNatClampNeg) (n70 : ¬ σ.1 70 = 0) (HV : ∀ k, k < s → vsV σ k ≠ 0 → 0 < vt16 σ k) : (hv24 σ e → 0 < we24 σ s e) ∧ (¬ hv24 σ e → we24 σ s e = 0) := by
  have k1 : (σ.1 70).toNatClampNeg ≤ 1000 := cn_le (y := 1000) rfl hP.1.1.2
  have z0 := hP.1.1.1
  rw [lei, t0i] at z0
  have c70 := cnk z0
  have jk : ∀ k, k < s → (0 : Int32) ≤ Int32.ofNat k ∧ Int32.ofNat k < σ.1 70 ∧ (Int32.ofNat k).toNatClampNeg = k := fun k hk => by
    have ei : (Int32.ofNat k).toInt = (k : Int) := ofn_i (by omega)
    exact ⟨by rw [lei, t0i, ei]; omega, by rw [lti, ei]; omega, cl_5 (by omega)⟩
  constructor
  · rintro (z | ⟨k, i, hk, vv, ⟨l1, l2⟩, ⟨n1, n2⟩, ne⟩)
    · exact absurd z n70
    · rw [← hs] at hk
      have hd : i - loN σ k < leN σ k := by unfold leN; omega
      have ei : loN σ k + (i - loN σ k) = i := by omega
      have g1 := smQ_ge (f := fun k => wk24 σ (shp24 σ (fun n => n = e)) k (leN σ k)) (j := k) (n := s) (fun k hk => smQ_nn (fun d hd => wt_n24 hP.1 (by rw [← hs]; exact hk) hd)) hk
      have g2 := smQ_ge (f := fun d => wt24 σ (shp24 σ (fun n => n = e)) k (loN σ k + d)) (j := i - loN σ k) (n := leN σ k) (fun d hd => wt_n24 hP.1 (by rw [← hs]; exact hk) hd) hd
      have pos : 0 < wt24 σ (shp24 σ (fun n => n = e)) k (loN σ k + (i - loN σ k)) := by
        rw [ei]
        unfold wt24 shp24
        rw [iv_124 (show she24 σ (fun n => n = e) i from ⟨n1, ne⟩), Int.mul_one]
        have tp : 0 < twI σ k i := by
          have w := (st_z8 hP.1 (x := k) (by rw [← hs]; exact hk)).1 i l1 l2
          rw [lei, t1i] at w
          unfold twI
          rcases n2 with z | z
          · rw [if_pos z]; omega
          · split
            · omega
            · rw [if_pos (by rw [nc_5]; omega)]
              decide
        have tT := (tT_b hP (jk k hk).1 (jk k hk).2.1).1
        rw [(jk k hk).2.2] at tT
        have m := mk_p8 (c := (twI σ k i).toNat) (d := (tTI σ k).toNat) (by omega) (by omega)
        rw [Int.toNat_of_nonneg (by omega)] at m
        exact Rat.mul_pos (HV k hk vv) m
      have gg := Rat.le_trans g2 g1
      exact Rat.not_le.mp (fun z => absurd (Rat.le_trans gg z) (Rat.not_le.mpr pos))
  · intro nh
    refine smQ_0 (fun k hk => smQ_0 (fun d hd => ?_))
    by_cases v0 : vsV σ k = 0
    · exact wt_v24 v0
    · by_cases se : she24 σ (fun n => n = e) (loN σ k + d)
      · by_cases c81 : σ.2.2.1 81 k = 0
        · exact absurd (Or.inr ⟨k, _, by rw [← hs]; exact hk, v0, ⟨Nat.le_add_right _ _, by unfold leN at hd; omega⟩, ⟨se.1, Or.inl c81⟩, se.2⟩) nh
        · by_cases ci : loN σ k + d = (σ.2.2.1 76 k + σ.2.2.1 83 k).toNatClampNeg
          · refine absurd (Or.inr ⟨k, _, by rw [← hs]; exact hk, v0, ⟨Nat.le_add_right _ _, by unfold leN at hd; omega⟩, ⟨se.1, Or.inr ?_⟩, se.2⟩) nh
            obtain ⟨j0, j1, j2⟩ := jk k hk
            have p := hP.2 _ j0 j1 (by rw [rd, j2]; exact c81)
            obtain ⟨⟨s1, s2⟩, s3, s4, s5, _⟩ := ex_st hP.1 j0 j1
            have s6 := hP.1.2.2.1.2
            rw [rd, rd, rd, s5, j2] at p
            rw [j2] at s1 s2 s3 s4
            obtain ⟨p1, p2⟩ := p
            have l20 : (20000 : Int32).toInt = 20000 := rfl
            rw [lei, t0i] at s1 p1
            rw [lei, l20] at s2 s6
            rw [lei] at s3 s4
            rw [lti, sub_i (by omega) (by omega)] at p2
            have ea : (σ.2.2.1 76 k + σ.2.2.1 83 k).toInt = (σ.2.2.1 76 k).toInt + (σ.2.2.1 83 k).toInt := add_i (by omega) (by omega)
            have kk := cnk (x := σ.2.2.1 76 k + σ.2.2.1 83 k) (by omega)
            omega
          · exact wt_t24 c81 ci
      · exact wt_h24 (iv_024 se)
/-- what is free of what, by weights of endings -/
theorem fq_l24 {σ : rS} {s m : Nat} {a1 a2 a3 a4 : Int32} (hP : pOK σ) (hs : s = (σ.1 70).toNatClampNeg) (hm : m = (σ.1 71).toNatClampNeg) (n70 : ¬ σ.1 70 ≤ 0) (HV : ∀ k, k < s → vsV σ k ≠ 0 → 0 < vt16 σ k) (h1 : ¬ a1 = -1) (h2 : ¬ a2 = -1) : fq24 σ s m a1 a2 a3 a4 ↔ (∀ e f, e < m → f < m → seh24 σ a3 a4 e → seh24 σ a3 a4 f → (∃ g, g < m ∧ seh24 σ a3 a4 g ∧ to24 σ g a1 = to24 σ e a1 ∧ to24 σ g a2 = to24 σ f a2) ∧ sw24 (fun g => seh24 σ a3 a4 g ∧ to24 σ g a1 = to24 σ e a1 ∧ to24 σ g a2 = to24 σ f a2) (we24 σ s) m * sw24 (seh24 σ a3 a4) (we24 σ s) m = sw24 (fun g => seh24 σ a3 a4 g ∧ to24 σ g a1 = to24 σ e a1) (we24 σ s) m * sw24 (fun g => seh24 σ a3 a4 g ∧ to24 σ g a2 = to24 σ f a2) (we24 σ s) m) := by
  have n0 : ¬ σ.1 70 = 0 := fun z => n70 (by rw [z]; decide)
  have W := fun (i x j y : Int32) => ws_p24 hP.1 hs hm (fun e => cd24 σ e i x ∧ cd24 σ e j y ∧ cd24 σ e a3 a4)
  have key : ∀ (i x j y : Int32) (P : Nat → Prop), (∀ e, (hv24 σ e ∧ cd24 σ e i x ∧ cd24 σ e j y ∧ cd24 σ e a3 a4) ↔ P e) → ws24 σ (sh24 σ i x j y a3 a4) s = sw24 P (we24 σ s) m := fun i x j y P hp => by
    have e := W i x j y
    have e' : ws24 σ (sh24 σ i x j y a3 a4) s = sw24 (fun e => cd24 σ e i x ∧ cd24 σ e j y ∧ cd24 σ e a3 a4) (we24 σ s) m := e
    rw [e', sw_h24 (H := hv24 σ) (fun e _ _ nh => (we_h24 hP hs n0 HV).2 nh)]
    exact sw_c24 (fun e _ => hp e)
  have c1 : ∀ e x, cd24 σ e (-1) x ↔ True := fun e x => ⟨fun _ => trivial, fun _ => Or.inl rfl⟩
  have c2 : ∀ e x, cd24 σ e a1 x ↔ to24 σ e a1 = x := fun e x => ⟨fun z => z.resolve_left h1, Or.inr⟩
  have c3 : ∀ e x, cd24 σ e a2 x ↔ to24 σ e a2 = x := fun e x => ⟨fun z => z.resolve_left h2, Or.inr⟩
  have pq : ∀ x y, pq24 σ s a1 a2 a3 a4 x y ↔ sw24 (fun g => seh24 σ a3 a4 g ∧ to24 σ g a1 = x ∧ to24 σ g a2 = y) (we24 σ s) m * sw24 (seh24 σ a3 a4) (we24 σ s) m = sw24 (fun g => seh24 σ a3 a4 g ∧ to24 σ g a1 = x) (we24 σ s) m * sw24 (fun g => seh24 σ a3 a4 g ∧ to24 σ g a2 = y) (we24 σ s) m := fun x y => by
    unfold pq24
    rw [key a1 x a2 y (fun g => seh24 σ a3 a4 g ∧ to24 σ g a1 = x ∧ to24 σ g a2 = y) (fun e => by rw [c2, c3]; exact ⟨fun z => ⟨⟨z.1, z.2.2.2⟩, z.2.1, z.2.2.1⟩, fun z => ⟨z.1.1, z.2.1, z.2.2, z.1.2⟩⟩), key (-1) 0 (-1) 0 (seh24 σ a3 a4) (fun e => by rw [c1]; exact ⟨fun z => ⟨z.1, z.2.2.2⟩, fun z => ⟨z.1, trivial, trivial, z.2⟩⟩), key a1 x (-1) 0 (fun g => seh24 σ a3 a4 g ∧ to24 σ g a1 = x) (fun e => by rw [c2, c1]; exact ⟨fun z => ⟨⟨z.1, z.2.2.2⟩, z.2.1⟩, fun z => ⟨z.1.1, z.2, trivial, z.1.2⟩⟩), key (-1) 0 a2 y (fun g => seh24 σ a3 a4 g ∧ to24 σ g a2 = y) (fun e => by rw [c3, c1]; exact ⟨fun z => ⟨⟨z.1, z.2.2.2⟩, z.2.2.1⟩, fun z => ⟨z.1.1, trivial, z.2, z.1.2⟩⟩)]
  constructor
  · intro F e f he hf se sf
    have z := F e f he hf se sf
    exact ⟨z.1, (pq _ _).mp (z.2 n70)⟩
  · intro F e f he hf se sf
    have z := F e f he hf se sf
    exact ⟨z.1, fun _ => (pq _ _).mpr z.2⟩

end
section
set_option maxHeartbeats 1600000
/-! what is seen of the tape and of the last fault, on both sides: bytes below the length, the length, the fault -/
abbrev Ob9 : Type := (Nat → Int32) × Int32 × Int32
def mkO9 (f : Nat → Int32) (n x : Int32) : Ob9 := (fun j => if j < n.toInt.toNat then f j else 0, n, x)
def oR9 (σ : rS) : Ob9 := mkO9 (σ.2.2.1 1) (σ.1 2) (σ.1 53)
theorem oR_k9 {σ τ : rS} (h2 : τ.1 2 = σ.1 2) (h53 : τ.1 53 = σ.1 53) (h1 : τ.2.2.1 1 = σ.2.2.1 1) : oR9 τ = oR9 σ := by
  unfold oR9
  rw [h2, h53, h1]
/-- end -/
def trO9 (w : Ob9) (m : Int32) : Ob9 := if 0 ≤ m ∧ m ≤ w.2.1 then mkO9 w.1 m w.2.2 else w
theorem tr_m9 {f : Nat → Int32} {n x m : Int32} (h : 0 ≤ m ∧ m ≤ n) : trO9 (mkO9 f n x) m = mkO9 f m x := by
  unfold trO9
  rw [if_pos (show 0 ≤ m ∧ m ≤ (mkO9 f n x).2.1 from h)]
  refine Prod.ext (funext fun j => ?_) rfl
  show (if j < m.toInt.toNat then (if j < n.toInt.toNat then f j else 0) else 0) = if j < m.toInt.toNat then f j else 0
  by_cases c : j < m.toInt.toNat
  · have z := h.2
    rw [lei] at z
    rw [if_pos c, if_pos c, if_pos (by omega)]
  · rw [if_neg c, if_neg c]
theorem tr_n9 {f : Nat → Int32} {n x m : Int32} (h : ¬ (0 ≤ m ∧ m ≤ n)) : trO9 (mkO9 f n x) m = mkO9 f n x := if_neg h
/-- a byte of a word -/
def bw9 (w : Int32) (i : Nat) : Int32 := vp_nar .byte (Int8.toInt32 (Int32.toInt8 (w >>> (((24 : Int32) - 8 * Int32.ofNat i) &&& 31))))
def vs9 (a b c d e : Int32) (i : Nat) : Int32 := if i < 4 then a else if i < 8 then b else if i < 12 then c else if i < 16 then d else e
def by9 (a b c d e : Int32) (i : Nat) : Int32 := bw9 (vs9 a b c d e i) (i % 4)
/-- feed -/
def fdO9 (w : Ob9) (G : Nat → Int32) : Ob9 := (fun j => if j < w.2.1.toInt.toNat then w.1 j else if j < w.2.1.toInt.toNat + 20 then G (j - w.2.1.toInt.toNat) else 0, w.2.1 + 20, w.2.2)
theorem fd_m9 {f f' G : Nat → Int32} {n n' x : Int32} (h0 : 0 ≤ n.toInt) (h60 : n.toInt ≤ 60000) (hn : n' = n + 20) (h1 : ∀ j, j < n.toInt.toNat → f' j = f j) (h2 : ∀ i, i < 20 → f' (n.toInt.toNat + i) = G i) : mkO9 f' n' x = fdO9 (mkO9 f n x) G := by
  subst hn
  have t20 : (20 : Int32).toInt = 20 := rfl
  have e : (n + 20).toInt = n.toInt + 20 := by rw [add_i (by rw [t20]; omega) (by rw [t20]; omega), t20]
  refine Prod.ext (funext fun j => ?_) rfl
  show (if j < (n + 20).toInt.toNat then f' j else 0) = if j < n.toInt.toNat then (if j < n.toInt.toNat then f j else 0) else if j < n.toInt.toNat + 20 then G (j - n.toInt.toNat) else 0
  by_cases c : j < n.toInt.toNat
  · rw [if_pos (by omega), if_pos c, if_pos c, h1 j c]
  · rw [if_neg c]
    by_cases c2 : j < n.toInt.toNat + 20
    · rw [if_pos (by omega), if_pos c2]
      have z := h2 (j - n.toInt.toNat) (by omega)
      rw [show n.toInt.toNat + (j - n.toInt.toNat) = j by omega] at z
      exact z
    · rw [if_neg (by omega), if_neg c2]
theorem mk_e9 {f f' : Nat → Int32} {n n' x x' : Int32} (h : mkO9 f n x = mkO9 f' n' x') : n = n' ∧ x = x' ∧ ∀ j, j < n.toInt.toNat → f j = f' j := by
  have e1 : n = n' := congrArg (fun w : Ob9 => w.2.1) h
  have e2 : x = x' := congrArg (fun w : Ob9 => w.2.2) h
  refine ⟨e1, e2, fun j hj => ?_⟩
  have z : (if j < n.toInt.toNat then f j else 0) = if j < n'.toInt.toNat then f' j else 0 := congrFun (congrArg (fun w : Ob9 => w.1) h) j
  rw [← e1, if_pos hj, if_pos hj] at z
  exact z
theorem mk_09 {f : Nat → Int32} {x : Int32} : mkO9 f 0 x = ((fun _ => 0, 0, x) : Ob9) := by
  refine Prod.ext (funext fun j => ?_) rfl
  show (if j < (0 : Int32).toInt.toNat then f j else 0) = 0
  exact if_neg (by show ¬ j < 0; omega)
theorem sh_49 : ∀ k, k < 20 → (((24 : Int32) - ((8 : Int32) * (Int32.ofNat k &&& (3 : Int32)))) &&& 31) = (((24 : Int32) - 8 * Int32.ofNat (k % 4)) &&& 31) := by decide
/-- the reference: fault, by what it answers -/
theorem fault_c9 {C : rCx} (hC : cOK C) {σ : rS} {Q : Int32 → rS → Prop} (h : ∀ (σ' : rS), ((∀ k, k ≠ 0 → σ'.1 k = σ.1 k) ∧ σ'.2 = σ.2) → Q (σ.1 53) σ') : cI C 0 m_fault [.ref (co C)] σ Q := by
  refine m_fault_run hC ?_
  unfold w_fault_0
  intro σ1 h1
  have e : σ1.1 53 = σ.1 53 := by rw [h1, si1, if_neg (by decide)]
  rw [e]
  exact h σ1 ⟨fun k hk => by rw [h1, si1, if_neg hk], by rw [h1, si2]⟩
/-- what a call keeps: tape, fault and code -/
def pR7 (σ τ : rS) : Prop := oR9 τ = oR9 σ ∧ kR7 σ τ
/-- what a call keeps: what was explored as well -/
def pR8 (σ τ : rS) : Prop := pR7 σ τ ∧ kS8 σ τ
/-- what decide, best keep of it -/
def kB16 (σ τ : rS) : Prop := τ.1 103 = σ.1 103 ∧ (∀ g, g = 95 ∨ g = 102 → τ.2.2.1 g = σ.2.2.1 g) ∧ nM16 σ τ
/-- what a play keeps of it -/
def nN15 (σ τ : rS) : Prop := ∀ k, 15 ≤ k → k ≤ 16 → τ.2.2.1 91 k = σ.2.2.1 91 k ∧ ∀ i, i < 40000 → τ.2.2.1 90 (40000 * k + i) = σ.2.2.1 90 (40000 * k + i)
def kY16 (σ τ : rS) : Prop := (∀ g, g ∈ kf16 → τ.1 g = σ.1 g) ∧ (∀ g, g ∈ kh16 → τ.2.2.1 g = σ.2.2.1 g) ∧ nN15 σ τ ∧ (τ.1 106 ≠ -1 → numO τ 17 ∧ numO τ 18)
def kE16 (σ τ : rS) : Prop := τ.1 103 = σ.1 103 ∧ nM16 σ τ
def pT8 (σ τ : rS) : Prop := pR7 σ τ ∧ kT8 σ τ ∧ kB16 σ τ
def pD8 (k c : Int32) (σ σ' : rS) : Prop := pT8 σ σ' ∧ XU8 k c σ σ' ∧ XF16 k c σ σ' ∧ σ'.1 114 = σ.1 114 ∧ ∀ g, g = 115 ∨ g = 116 → σ'.2.2.1 g = σ.2.2.1 g
theorem kS_f8 {σ τ : rS} (hf : ∀ k, k ∈ ke8 → τ.1 k = σ.1 k) (hr : ∀ k, k ∈ kx8 → τ.2.2.1 k = σ.2.2.1 k) (hl : τ.2.1 110 = σ.2.1 110) (hn : kN16 σ τ) : kS8 σ τ := ⟨hf, hr, hl, hn⟩
def pL21 (p : Int32) (σ σ' : rS) : Prop := (oR9 σ' = oR9 σ ∧ kR7 σ σ') ∧ kX7 σ σ' ∧ (σ.1 104 = 200 → σ'.1 104 = 200 ∧ σ'.2.2.1 105 = σ.2.2.1 105) ∧ (σ.1 104 ≠ 200 → σ'.1 104 = σ.1 104 + 1 ∧ σ'.2.2.1 105 = upd (σ.2.2.1 105) (σ.1 104).toNatClampNeg p)
def pO21 (σ σ' : rS) : Prop := (oR9 σ' = oR9 σ ∧ kR7 σ σ') ∧ kX7 σ σ' ∧ σ'.1 104 = 0
def kD20 (σ σ' : rS) : Prop := σ'.1 104 = σ.1 104 ∧ σ'.2.2.1 105 = σ.2.2.1 105
def kS9 (σ τ : rS) : Prop := (∀ g, g ∈ ke8 → τ.1 g = σ.1 g) ∧ (∀ g, g ∈ kx8 → τ.2.2.1 g = σ.2.2.1 g) ∧ (∀ g, g ∈ kf16 → τ.1 g = σ.1 g) ∧ (∀ g, g ∈ kh16 → τ.2.2.1 g = σ.2.2.1 g)
def kQ23 (σ σ' : rS) : Prop := (∀ g, g = 106 ∨ g = 107 ∨ g = 108 ∨ g = 109 → σ'.1 g = σ.1 g) ∧ σ'.2.1 110 = σ.2.1 110 ∧ σ'.2.2.1 111 = σ.2.2.1 111
def XS22 (a1 : Int32) (σ σ' : rS) (v : Int32) : Prop := XS16 a1 σ σ' v ∧ kD20 σ σ' ∧ kQ23 σ σ' ∧ kE16 σ σ'
theorem tell_g21 {C : rCx} (hC : cOK C) {σ : rS} {a1 : Int32} {Q : Int32 → rS → Prop} (hp : 0 ≤ σ.1 104 ∧ σ.1 104 ≤ 200) (h : ∀ (v : Int32) (σ' : rS), ((∀ k, k ≠ 0 → k ≠ 104 → σ'.1 k = σ.1 k) ∧ (∀ k, k ≠ 105 → σ'.2.2.1 k = σ.2.2.1 k) ∧ (∀ j, σ'.2.2.2 8 j = σ.2.2.2 8 j) ∧ σ'.2.1 110 = σ.2.1 110) ∧ (0 ≤ σ'.1 104 ∧ σ'.1 104 ≤ 200) ∧ (σ.1 104 = 200 → σ'.1 104 = 200 ∧ σ'.2.2.1 105 = σ.2.2.1 105) ∧ (σ.1 104 ≠ 200 → σ'.1 104 = σ.1 104 + 1 ∧ σ'.2.2.1 105 = upd (σ.2.2.1 105) (σ.1 104).toNatClampNeg a1) → Q v σ') : cI C 0 m_tell [.ref (co C), .int a1] σ Q := by
  have l200 : (200 : Int32).toInt = 200 := rfl
  obtain ⟨p0, p1⟩ := hp
  rw [lei, t0i] at p0
  rw [lei, l200] at p1
  refine m_tell_run hC ?_
  unfold w_tell_0
  refine ⟨fun c1 => ?_, fun c1 => ?_⟩
  · unfold w_tell_16
    intro σ_2 hσ_2
    have e2 : σ_2.1 104 = σ.1 104 := by rw [hσ_2, si1, if_neg (by decide)]
    have lt : (σ.1 104).toInt < 200 := by
      refine Decidable.byContradiction (fun z => c1 (Int32.toInt_inj.mp ?_))
      rw [l200]; omega
    refine ⟨fun c3 => ⟨ib_200.mpr ?_, ?_⟩, fun c3 => absurd (show σ_2.1 0 ≤ 0 by rw [hσ_2, si1, if_pos rfl]; decide) c3⟩
    · rw [e2]
      exact ⟨by rw [lei, t0i]; exact p0, by rw [lti, l200]; exact lt⟩
    intro σ_4 hσ_4
    intro σ_5 hσ_5
    have e1 : (1 : Int32).toInt = 1 := rfl
    have ad : (σ.1 104 + 1).toInt = (σ.1 104).toInt + 1 := by rw [add_i (by rw [e1]; omega) (by rw [e1]; omega), e1]
    have e5 : σ_5.1 104 = σ.1 104 + 1 := by rw [hσ_5, si1, if_pos rfl, hσ_4, ri1, e2]
    refine h _ _ ⟨⟨fun k k0 k1 => ?_, fun k k5 => ?_, fun j => ?_, ?_⟩, ⟨?_, ?_⟩, fun z => absurd z c1, fun _ => ⟨e5, ?_⟩⟩
    · rw [hσ_5, si1, if_neg k1, hσ_4, ri1, hσ_2, si1, if_neg k0]
    · rw [hσ_5, si2, hσ_4, ri3 k5, hσ_2, si2]
    · rw [hσ_5, si2, hσ_4, ri5, hσ_2, si2]
    · rw [hσ_5, si2, hσ_4, ri2, hσ_2, si2]
    · rw [e5, lei, t0i, ad]; omega
    · rw [e5, lei, l200, ad]; omega
    · rw [hσ_5, si2, hσ_4, ri_row, e2, hσ_2, si2]
  · unfold w_tell_16
    intro σ_2 hσ_2
    refine ⟨fun c3 => absurd (show σ_2.1 0 ≤ 0 from c3) (by rw [hσ_2, si1, if_pos rfl]; decide), fun c3 => ?_⟩
    have e2 : σ_2.1 104 = σ.1 104 := by rw [hσ_2, si1, if_neg (by decide)]
    refine h _ _ ⟨⟨fun k k0 k1 => ?_, fun k k5 => ?_, fun j => ?_, ?_⟩, ⟨?_, ?_⟩, fun _ => ⟨by rw [e2]; exact c1, by rw [hσ_2, si2]⟩, fun z => absurd c1 z⟩
    · rw [hσ_2, si1, if_neg k0]
    · rw [hσ_2, si2]
    · rw [hσ_2, si2]
    · rw [hσ_2, si2]
    · rw [e2, lei, t0i]; exact p0
    · rw [e2, lei, l200]; exact p1
abbrev kp23 : List Nat := [106, 107, 108, 109]
def kP23 (σ σ' : rS) : Prop := (∀ g, g ∈ kp23 → σ'.1 g = σ.1 g) ∧ σ'.2.1 110 = σ.2.1 110 ∧ σ'.2.2.1 111 = σ.2.2.1 111
theorem kP_t23 {σ σ' : rS} (k : kT8 σ σ') : kP23 σ σ' := ⟨fun g q => k.1 g ((by decide : ∀ g, g ∈ kp23 → g ∈ ke8) g q), k.2.2, k.2.1 111 (by decide)⟩
theorem kP_q23 {σ σ' : rS} (k : kQ23 σ σ') : kP23 σ σ' := ⟨fun g q => k.1 g ((by decide : ∀ g, g ∈ kp23 → g = 106 ∨ g = 107 ∨ g = 108 ∨ g = 109) g q), k.2⟩

end
section
set_option maxHeartbeats 1600000
/-! the reference: what holds between calls -/
theorem nu_k {σ τ : rS} {k : Nat} (g : τ.2.2.1 91 k = σ.2.2.1 91 k ∧ ∀ i, i < 40000 → τ.2.2.1 90 (40000 * k + i) = σ.2.2.1 90 (40000 * k + i)) (h : numO σ k) : numO τ k ∧ nV τ k = nV σ k ∧ nL τ k = nL σ k := by
  have el : nL τ k = nL σ k := by show (τ.2.2.1 91 k).toNatClampNeg = _; rw [g.1]
  have le := nL_le h
  refine ⟨⟨by rw [g.1]; exact h.1, by rw [g.1]; exact h.2.1, fun i hi => ?_, ?_⟩, ?_, el⟩
  · rw [el] at hi
    rw [g.2 i (by omega)]; exact h.2.2.1 i hi
  · rw [el]
    rcases h.2.2.2 with z | ⟨m, z1, z2⟩
    · exact Or.inl z
    · exact Or.inr ⟨m, z1, by rw [g.2 m (by omega)]; exact z2⟩
  · unfold nV
    rw [el]
    exact dv_congr (fun i hi => g.2 i (by omega))
abbrev rjP : List Nat := [15, 16, 17, 18, 19, 40, 41, 42]
abbrev rjQ : List Nat := [5, 7, 20, 22, 23, 24, 25, 26, 27, 28, 29, 30, 31, 32, 33, 34, 35, 36, 37, 38, 39, 43, 44]
/-- the book and the tape -/
def jBk (σ : rS) : Prop := (σ.1 3 = 0 ∨ σ.1 3 = 65537) ∧ tyAll σ ∧ (σ.1 14 ≠ 0 → ∃ T, progOK σ (σ.1 3) T)
def jVs (σ : rS) : Prop := σ.1 94 ≠ 0 → ∀ k, k < (σ.1 70).toNatClampNeg → vOK σ k
def jWo (σ : rS) : Prop := σ.1 114 ≠ 0 → ∀ k, k < (σ.1 70).toNatClampNeg → wkO σ 115 116 k
/-- what holds between calls -/
def rJ (σ : rS) : Prop := (0 ≤ σ.1 2 ∧ σ.1 2 ≤ 65536) ∧ jBk σ ∧ exP σ ∧ jVs σ ∧ jWo σ ∧ plN σ ∧ shO σ ∧ 0 ≤ σ.1 104 ∧ σ.1 104 ≤ 200
theorem ty_g9 {σ τ : rS} (h : tyAll σ) (ff : ∀ k, k ∈ rjP → τ.1 k = σ.1 k) (rr : ∀ k, k ∈ rjQ → τ.2.2.1 k = σ.2.2.1 k) : tyAll τ := by
  obtain ⟨g1, g3, g4, g5, g6⟩ := h
  refine ⟨?_, ?_, ?_, ?_, by rw [rr 37 (by decide)]; exact g6⟩
  · show tyF _ _ _ _ _ _ _ _
    rw [ff 15 (by decide), ff 16 (by decide), ff 17 (by decide), ff 18 (by decide), ff 19 (by decide), ff 40 (by decide), ff 41 (by decide), ff 42 (by decide)]
    exact g1
  · show tyN _ _ _ _ _ _
    rw [rr 20 (by decide), rr 22 (by decide), rr 25 (by decide), rr 28 (by decide), rr 26 (by decide), rr 27 (by decide)]
    exact g3
  · show tyA _ _
    rw [rr 23 (by decide), rr 24 (by decide)]
    exact g4
  · show tyS _ _ _ _ _ _ _ _
    rw [rr 29 (by decide), rr 33 (by decide), rr 34 (by decide), rr 35 (by decide), rr 36 (by decide), rr 38 (by decide), rr 43 (by decide), rr 44 (by decide)]
    exact g5
theorem jBk_o {σ τ : rS} (h : jBk σ) (h3 : τ.1 3 = σ.1 3) (h14 : τ.1 14 = σ.1 14) (ff : ∀ k, k ∈ rjP → τ.1 k = σ.1 k) (rr : ∀ k, k ∈ rjQ → τ.2.2.1 k = σ.2.2.1 k) : jBk τ := by
  refine ⟨by rw [h3]; exact h.1, ty_g9 h.2.1 ff rr, fun z => ?_⟩
  rw [h14] at z
  obtain ⟨T, g⟩ := h.2.2 z
  exact ⟨T, by rw [h3]; exact (rI_gen ⟨h.2.1, g⟩ ff rr).2⟩
theorem jVs_o {σ τ : rS} (h : jVs σ) (h94 : τ.1 94 ≠ 0 → σ.1 94 ≠ 0) (h70 : τ.1 70 = σ.1 70) (r : τ.2.2.1 102 = σ.2.2.1 102) : jVs τ := fun z k hk => vOK_f r (h (h94 z) k (by rw [← h70]; exact hk))
theorem jWo_o {σ τ : rS} (h : jWo σ) (h114 : τ.1 114 ≠ 0 → σ.1 114 ≠ 0) (h70 : τ.1 70 = σ.1 70) (r : τ.2.2.1 115 = σ.2.2.1 115) (r2 : τ.2.2.1 116 = σ.2.2.1 116) : jWo τ := fun z k hk => wkO_f r r2 (h (h114 z) k (by rw [← h70]; exact hk))
theorem plN_o {σ τ : rS} (h : plN σ) (h106 : τ.1 106 ≠ -1 → σ.1 106 ≠ -1) (hn : ∀ k, k = 17 ∨ k = 18 → τ.2.2.1 91 k = σ.2.2.1 91 k ∧ ∀ i, i < 40000 → τ.2.2.1 90 (40000 * k + i) = σ.2.2.1 90 (40000 * k + i)) : plN τ := by
  intro z
  have q := h (h106 z)
  have a := nu_k (hn 17 (Or.inl rfl)) q.1
  have b := nu_k (hn 18 (Or.inr rfl)) q.2.1
  rw [a.2.2, b.2.2, b.2.1]
  exact ⟨a.1, b.1, q.2.2⟩
theorem shO_o {σ τ : rS} (h : shO σ) (h103 : τ.1 103 = σ.1 103) (hn : ∀ k, k = 15 ∨ k = 16 → τ.2.2.1 91 k = σ.2.2.1 91 k ∧ ∀ i, i < 40000 → τ.2.2.1 90 (40000 * k + i) = σ.2.2.1 90 (40000 * k + i)) : shO τ := by
  intro z
  rw [h103] at z
  have q := h z
  exact ⟨(nu_k (hn 15 (Or.inl rfl)) q.1).1, (nu_k (hn 16 (Or.inr rfl)) q.2).1⟩
theorem rj34 {σ : rS} (h : tyAll σ) : 0 ≤ σ.1 15 + σ.1 17 ∧ σ.1 15 + σ.1 17 ≤ 34 := by
  have g : tyF _ _ _ _ _ _ _ _ := h.1
  obtain ⟨a0, a1, b0, b1, c0, c1, -⟩ := g
  generalize σ.1 15 = v at *
  generalize σ.1 16 = r at *
  generalize σ.1 17 = c at *
  have c24 : c ≤ 24 := by
    have e : r = 0 ∨ r = 1 ∨ r = 2 ∨ r = 3 := by grind
    rcases e with e | e | e | e <;> rw [e] at c1 <;> exact Int32.le_trans c1 (by decide)
  grind
abbrev rjF : List Nat := [3, 14, 15, 16, 17, 18, 19, 40, 41, 42, 70, 71, 72, 88, 94, 103, 106, 114]
abbrev rjR : List Nat := [5, 7, 20, 22, 23, 24, 25, 26, 27, 28, 29, 30, 31, 32, 33, 34, 35, 36, 37, 38, 39, 43, 44, 73, 76, 77, 78, 79, 80, 81, 83, 102, 115, 116]
def rjN (σ τ : rS) : Prop := ∀ k, 14 < k → k < 19 → τ.2.2.1 91 k = σ.2.2.1 91 k ∧ ∀ i, i < 40000 → τ.2.2.1 90 (40000 * k + i) = σ.2.2.1 90 (40000 * k + i)
theorem rjN_r {σ τ : rS} (h0 : τ.2.2.1 90 = σ.2.2.1 90) (h1 : τ.2.2.1 91 = σ.2.2.1 91) : rjN σ τ := fun k _ _ => ⟨by rw [h1], fun i _ => by rw [h0]⟩
theorem rjN_l {l : List Nat} {σ τ : rS} (h : ∀ k, k ∉ l → τ.2.2.1 91 k = σ.2.2.1 91 k ∧ ∀ i, i < 40000 → τ.2.2.1 90 (40000 * k + i) = σ.2.2.1 90 (40000 * k + i)) (hl : 15 ∉ l ∧ 16 ∉ l ∧ 17 ∉ l ∧ 18 ∉ l) : rjN σ τ := fun k z1 z2 => h k (by
  have e : k = 15 ∨ k = 16 ∨ k = 17 ∨ k = 18 := by omega
  rcases e with e | e | e | e <;> rw [e]
  · exact hl.1
  · exact hl.2.1
  · exact hl.2.2.1
  · exact hl.2.2.2)
/-- a call that changes nothing of it but the tape's size and the draws told -/
theorem rJ_c {σ τ : rS} (h : rJ σ) (h2 : 0 ≤ τ.1 2 ∧ τ.1 2 ≤ 65536) (h104 : 0 ≤ τ.1 104 ∧ τ.1 104 ≤ 200) (hf : ∀ k, k ∈ rjF → τ.1 k = σ.1 k) (hr : ∀ k, k ∈ rjR → τ.2.2.1 k = σ.2.2.1 k) (hn : rjN σ τ) : rJ τ := by
  obtain ⟨g1, g2, g3, g4, g5, g6, g7, g8⟩ := h
  refine ⟨h2, jBk_o g2 (hf 3 (by decide)) (hf 14 (by decide)) (fun k hk => hf k ((by decide : ∀ k, k ∈ rjP → k ∈ rjF) k hk)) (fun k hk => hr k ((by decide : ∀ k, k ∈ rjQ → k ∈ rjR) k hk)), exP_o g3 (fun k hk => hf k (by rcases hk with z | z | z | z <;> rw [z] <;> decide)) (fun k hk => hr k (by rcases hk with z | z | z | z | z | z | z | z <;> rw [z] <;> decide)), jVs_o g4 (by rw [hf 94 (by decide)]; exact fun z => z) (hf 70 (by decide)) (hr 102 (by decide)), jWo_o g5 (by rw [hf 114 (by decide)]; exact fun z => z) (hf 70 (by decide)) (hr 115 (by decide)) (hr 116 (by decide)), plN_o g6 (by rw [hf 106 (by decide)]; exact fun z => z) (fun k hk => hn k (by omega) (by omega)), shO_o g7 (hf 103 (by decide)) (fun k hk => hn k (by omega) (by omega)), h104⟩
theorem rJ_G {σ τ : rS} (h : rJ σ) (f : frG [0] [] σ τ) : rJ τ ∧ pR8 σ τ := ⟨rJ_c h (by rw [f.1 2 (by decide)]; exact h.1) (by rw [f.1 104 (by decide)]; exact h.2.2.2.2.2.2.2) (fun k hk => f.1 k ((by decide : ∀ k, k ∈ rjF → k ∉ [0]) k hk)) (fun k _ => f.2.2.1 k List.not_mem_nil) (rjN_r (f.2.2.1 90 List.not_mem_nil) (f.2.2.1 91 List.not_mem_nil)), ⟨⟨oR_k9 (f.1 2 (by decide)) (f.1 53 (by decide)) (f.2.2.1 1 List.not_mem_nil), kR_f7 (fun k hk => f.1 k ((by decide : ∀ k, k ∈ kf7 → k ∉ [0]) k hk)) (fun k _ => f.2.2.1 k List.not_mem_nil) (fun j => f.2.2.2 8 j)⟩, kS_f8 (fun k hk => f.1 k ((by decide : ∀ k, k ∈ ke8 → k ∉ [0]) k hk)) (fun k _ => f.2.2.1 k List.not_mem_nil) (f.2.1 110) (kN_f16 (fun k hk => f.1 k ((by decide : ∀ k, k ∈ kf16 → k ∉ [0]) k hk)) (fun k _ => f.2.2.1 k List.not_mem_nil) (nM_r16 (f.2.2.1 90 List.not_mem_nil) (f.2.2.1 91 List.not_mem_nil)))⟩⟩
theorem rJ_T {σ τ : rS} (h : rJ σ) (f : frT [0] [] σ τ) : rJ τ ∧ pR8 σ τ := ⟨rJ_c h (by rw [f.1 2 (by decide)]; exact h.1) (by rw [f.1 104 (by decide)]; exact h.2.2.2.2.2.2.2) (fun k hk => f.1 k ((by decide : ∀ k, k ∈ rjF → k ∉ [0]) k hk)) (fun k hk => f.2.2.1 k ((by decide : ∀ k, k ∈ rjR → k ≠ 90) k hk) ((by decide : ∀ k, k ∈ rjR → k ≠ 91) k hk)) (rjN_l f.2.2.2.2 (by decide)), ⟨⟨oR_k9 (f.1 2 (by decide)) (f.1 53 (by decide)) (f.2.2.1 1 (by decide) (by decide)), kR_f7 (fun k hk => f.1 k ((by decide : ∀ k, k ∈ kf7 → k ∉ [0]) k hk)) (fun k hk => f.2.2.1 k ((by decide : ∀ k, k ∈ kz7 → k ≠ 90) k hk) ((by decide : ∀ k, k ∈ kz7 → k ≠ 91) k hk)) (fun j => by rw [f.2.2.2.1])⟩, kS_f8 (fun k hk => f.1 k ((by decide : ∀ k, k ∈ ke8 → k ∉ [0]) k hk)) (fun k hk => f.2.2.1 k ((by decide : ∀ k, k ∈ kx8 → k ≠ 90) k hk) ((by decide : ∀ k, k ∈ kx8 → k ≠ 91) k hk)) (by rw [f.2.1]) (kN_f16 (fun k hk => f.1 k ((by decide : ∀ k, k ∈ kf16 → k ∉ [0]) k hk)) (fun k hk => f.2.2.1 k ((by decide : ∀ k, k ∈ kh16 → k ≠ 90) k hk) ((by decide : ∀ k, k ∈ kh16 → k ≠ 91) k hk)) (fun k h1 h2 => rjN_l f.2.2.2.2 (by decide) k (by omega) (by omega)))⟩⟩
theorem rJ_U {σ τ : rS} (h : rJ σ) (f : frU ifF ifR ifL σ τ) : rJ τ ∧ pR8 σ τ := ⟨rJ_c h (by rw [f.1 2 (by decide)]; exact h.1) (by rw [f.1 104 (by decide)]; exact h.2.2.2.2.2.2.2) (fun k hk => f.1 k ((by decide : ∀ k, k ∈ rjF → k ∉ ifF) k hk)) (fun k hk => f.2.2.1 k ((by decide : ∀ k, k ∈ rjR → k ≠ 90) k hk) ((by decide : ∀ k, k ∈ rjR → k ≠ 91) k hk) ((by decide : ∀ k, k ∈ rjR → k ∉ ifR) k hk)) (rjN_l f.2.2.2.2 (by decide)), ⟨⟨oR_k9 (f.1 2 (by decide)) (f.1 53 (by decide)) (f.2.2.1 1 (by decide) (by decide) (by decide)), kR_f7 (fun k hk => f.1 k ((by decide : ∀ k, k ∈ kf7 → k ∉ ifF) k hk)) (fun k hk => f.2.2.1 k ((by decide : ∀ k, k ∈ kz7 → k ≠ 90) k hk) ((by decide : ∀ k, k ∈ kz7 → k ≠ 91) k hk) ((by decide : ∀ k, k ∈ kz7 → k ∉ ifR) k hk)) (fun j => by rw [f.2.2.2.1])⟩, kS_f8 (fun k hk => f.1 k ((by decide : ∀ k, k ∈ ke8 → k ∉ ifF) k hk)) (fun k hk => f.2.2.1 k ((by decide : ∀ k, k ∈ kx8 → k ≠ 90) k hk) ((by decide : ∀ k, k ∈ kx8 → k ≠ 91) k hk) ((by decide : ∀ k, k ∈ kx8 → k ∉ ifR) k hk)) (by rw [f.2.1]) (kN_f16 (fun k hk => f.1 k ((by decide : ∀ k, k ∈ kf16 → k ∉ ifF) k hk)) (fun k hk => f.2.2.1 k ((by decide : ∀ k, k ∈ kh16 → k ≠ 90) k hk) ((by decide : ∀ k, k ∈ kh16 → k ≠ 91) k hk) ((by decide : ∀ k, k ∈ kh16 → k ∉ ifR) k hk)) (fun k h1 h2 => rjN_l f.2.2.2.2 (by decide) k (by omega) (by omega)))⟩⟩
section calls
variable {C : rCx} {σ : rS} {a1 a2 a3 a4 a5 : Int32}
theorem count_j (hC : cOK C) (J : rJ σ) {Q : Int32 → rS → Prop} (h : ∀ v σ', rJ σ' → pR8 σ σ' → Q v σ') : cI C 1 m_count [.ref (co C), .int a1] σ Q := count_c hC ⟨J.2.2.1.1.1.1, J.2.2.1.1.1.2⟩ (fun v σ' q => h v σ' (rJ_G J q).1 (rJ_G J q).2)
theorem state_j (hC : cOK C) (J : rJ σ) {Q : Int32 → rS → Prop} (h : ∀ v σ', rJ σ' → pR8 σ σ' → Q v σ') : cI C 1 m_state [.ref (co C), .int a1, .int a2] σ Q := state_c hC J.2.2.1 (fun v σ' q => h v σ' (rJ_G J q).1 (rJ_G J q).2)
theorem value_j (hC : cOK C) (J : rJ σ) {Q : Int32 → rS → Prop} (h : ∀ v σ', rJ σ' → pR8 σ σ' → Q v σ') : cI C 1 m_value [.ref (co C), .int a1, .int a2, .int a3] σ Q := value_c hC ⟨J.2.2.1, J.2.1.2.1⟩ (fun v σ' q => h v σ' (rJ_G J q).1 (rJ_G J q).2)
theorem next_j (hC : cOK C) (J : rJ σ) {Q : Int32 → rS → Prop} (h : ∀ v σ', rJ σ' → pR8 σ σ' → Q v σ') : cI C 1 m_next [.ref (co C), .int a1, .int a2, .int a3] σ Q := next_c hC J.2.2.1 (fun v σ' q => h v σ' (rJ_G J q).1 (rJ_G J q).2)
theorem ending_j (hC : cOK C) (J : rJ σ) {Q : Int32 → rS → Prop} (h : ∀ v σ', rJ σ' → pR8 σ σ' → Q v σ') : cI C 0 m_ending [.ref (co C), .int a1, .int a2] σ Q := ending_c hC ⟨J.2.2.1, J.2.1.2.1⟩ (fun v σ' q => h v σ' (rJ_G J q).1 (rJ_G J q).2)
theorem decided_j (hC : cOK C) (J : rJ σ) {Q : Int32 → rS → Prop} (h : ∀ v σ', rJ σ' → pR8 σ σ' → Q v σ') : cI C 1 m_decided [.ref (co C), .int a1] σ Q := decided_c hC J.2.2.1 (fun v σ' q => h v σ' (rJ_G J q).1 (rJ_G J q).2)
theorem size_j (hC : cOK C) (J : rJ σ) {Q : Int32 → rS → Prop} (h : ∀ v σ', rJ σ' → pR8 σ σ' → Q v σ') : cI C 1 m_size [.ref (co C), .int a1] σ Q := size_c hC J.2.2.2.2.2.2.1 (fun v σ' q => h v σ' (rJ_T J q).1 (rJ_T J q).2)
theorem limb_j (hC : cOK C) (J : rJ σ) {Q : Int32 → rS → Prop} (h : ∀ v σ', rJ σ' → pR8 σ σ' → Q v σ') : cI C 1 m_limb [.ref (co C), .int a1, .int a2] σ Q := limb_c hC J.2.2.2.2.2.2.1 (fun v σ' q => h v σ' (rJ_T J q).1 (rJ_T J q).2)
theorem played_j (hC : cOK C) (J : rJ σ) {Q : Int64 → rS → Prop} (h : ∀ v σ', rJ σ' → pR8 σ σ' → Q v σ') : cJ C 0 m_played [.ref (co C), .int a1] σ Q := played_c hC (rj34 J.2.1.2.1) (fun v σ' q => h v σ' (rJ_T J q).1 (rJ_T J q).2)
theorem independent_j (hC : cOK C) (J : rJ σ) {Q : Int32 → rS → Prop} (h : ∀ v σ', rJ σ' → pR8 σ σ' → Q v σ') : cI C 9 m_independent [.ref (co C), .int a1, .int a2] σ Q := independent_c hC _ ⟨pOK_of J.2.2.1, rfl, J.2.2.2.1, (rj34 J.2.1.2.1).2⟩ (fun v σ' q => h v σ' (rJ_U J q).1 (rJ_U J q).2)
theorem given_j (hC : cOK C) (J : rJ σ) {Q : Int32 → rS → Prop} (h : ∀ v σ', rJ σ' → pR8 σ σ' → Q v σ') : cI C 9 m_given [.ref (co C), .int a1, .int a2, .int a3] σ Q := given_c hC _ ⟨pOK_of J.2.2.1, rfl, J.2.2.2.1, (rj34 J.2.1.2.1).2⟩ (fun v σ' q => h v σ' (rJ_U J q).1 (rJ_U J q).2)
end calls

end
section
set_option maxHeartbeats 1600000
/-! the reference: feed by its bytes; feed, end, fault, tell, forget -/
/-- on feed's way: the bytes written so far -/
def fbI9 (a b c d e : Int32) (σ : rS) (l : Int32) (τ : rS) : Prop := (∀ j, j < (σ.1 2).toInt.toNat → τ.2.2.1 1 j = σ.2.2.1 1 j) ∧ (∀ i : Nat, (i : Int) < l.toInt → τ.2.2.1 1 ((σ.1 2).toInt.toNat + i) = by9 a b c d e i)
theorem fb_09 {a b c d e x : Int32} {σ : rS} : fbI9 a b c d e σ 0 (siU σ 0 x) := ⟨fun _ _ => rfl, fun i hi => absurd hi (by rw [t0i]; omega)⟩
theorem fb_s9 {a b c d e l s0 : Int32} {σ τ : rS} (h0 : 0 ≤ σ.1 2) (h60 : σ.1 2 ≤ 60000) (h2 : τ.1 2 = σ.1 2 + l) (l0 : 0 ≤ l) (l20 : l < 20) (hs : s0 = vs9 a b c d e l.toInt.toNat) (h : fbI9 a b c d e σ l τ) : fbI9 a b c d e σ (l + 1) (siU (riU τ 1 (τ.1 2).toNatClampNeg (vp_nar .byte ((s0 >>> (((24 : Int32) - ((8 : Int32) * (l &&& (3 : Int32)))) &&& 31))).toInt8.toInt32)) 2 ((riU τ 1 (τ.1 2).toNatClampNeg (vp_nar .byte ((s0 >>> (((24 : Int32) - ((8 : Int32) * (l &&& (3 : Int32)))) &&& 31))).toInt8.toInt32)).1 2 + 1)) := by
  have t60 : (60000 : Int32).toInt = 60000 := rfl
  have t20 : (20 : Int32).toInt = 20 := rfl
  rw [lei, t0i] at h0 l0
  rw [lei, t60] at h60
  rw [lti, t20] at l20
  have e2 : (τ.1 2).toInt = (σ.1 2).toInt + l.toInt := by rw [h2, add_i (by omega) (by omega)]
  have el : (l + 1).toInt = l.toInt + 1 := by rw [add_i (by rw [t1i]; omega) (by rw [t1i]; omega), t1i]
  have ci : (τ.1 2).toNatClampNeg = (σ.1 2).toInt.toNat + l.toInt.toNat := by
    have z := cnk (x := τ.1 2) (by omega)
    omega
  have lo : l = Int32.ofNat l.toInt.toNat := Int32.toInt_inj.mp (by rw [ofn_i (by omega)]; omega)
  have sh : (((24 : Int32) - ((8 : Int32) * (l &&& (3 : Int32)))) &&& 31) = (((24 : Int32) - 8 * Int32.ofNat (l.toInt.toNat % 4)) &&& 31) := by
    have z := sh_49 l.toInt.toNat (by omega)
    rw [← lo] at z
    exact z
  have rw1 : ∀ j, (siU (riU τ 1 (τ.1 2).toNatClampNeg (vp_nar .byte ((s0 >>> (((24 : Int32) - ((8 : Int32) * (l &&& (3 : Int32)))) &&& 31))).toInt8.toInt32)) 2 ((riU τ 1 (τ.1 2).toNatClampNeg (vp_nar .byte ((s0 >>> (((24 : Int32) - ((8 : Int32) * (l &&& (3 : Int32)))) &&& 31))).toInt8.toInt32)).1 2 + 1)).2.2.1 1 j = if j = (σ.1 2).toInt.toNat + l.toInt.toNat then by9 a b c d e l.toInt.toNat else τ.2.2.1 1 j := fun j => by
    show (riU τ 1 (τ.1 2).toNatClampNeg _).2.2.1 1 j = _
    rw [ri4, ci]
    unfold by9 bw9
    rw [← hs, sh]
  refine ⟨fun j hj => ?_, fun i hi => ?_⟩
  · rw [rw1, if_neg (by omega)]
    exact h.1 j hj
  · rw [rw1]
    rw [el] at hi
    by_cases q : i = l.toInt.toNat
    · rw [if_pos (by omega), q]
    · rw [if_neg (by omega)]
      exact h.2 i (by omega)
theorem feed_c9 {C : rCx} (hC : cOK C)  {σ : rS} {a1 : Int32} {a2 : Int32} {a3 : Int32} {a4 : Int32} {a5 : Int32} {Q : Int32 → rS → Prop} (hp : 0 ≤ σ.1 2 ∧ σ.1 2 ≤ 60000) (h : ∀ (v : Int32) (σ' : rS), (((∀ k, k ≠ 0 → k ≠ 2 → σ'.1 k = σ.1 k) ∧ (∀ k,  σ'.2.1 k = σ.2.1 k) ∧ (∀ k, k ≠ 1 → σ'.2.2.1 k = σ.2.2.1 k) ∧ (∀ k j, k ≠ 1 → σ'.2.2.1 k j = σ.2.2.1 k j) ∧ (∀ k j,  σ'.2.2.2 k j = σ.2.2.2 k j)) ∧ 0 ≤ σ'.1 2 ∧ σ'.1 2 ≤ 65536 ∧ v = σ.1 2 + 20 ∧ σ'.1 2 = σ.1 2 + 20 ∧ σ'.1 0 = 0 ∧ (∀ j, j < (σ.1 2).toInt.toNat → σ'.2.2.1 1 j = σ.2.2.1 1 j) ∧ (∀ i, i < 20 → σ'.2.2.1 1 ((σ.1 2).toInt.toNat + i) = by9 a1 a2 a3 a4 a5 i)) → Q v σ') : cI C 0 m_feed [.ref (co C), .int a1, .int a2, .int a3, .int a4, .int a5] σ Q := by
  refine m_feed_run hC ?_
  unfold w_feed_0
  have hj18 : ∀ (l1 : Int32) (l2 : Int32) (l3 : Int32) (l4 : Int32) (l5 : Int32) (s1 : Int32) (τ : rS), (l1 = a1 ∧ l2 = a2 ∧ l3 = a3 ∧ l4 = a4 ∧ l5 = a5 ∧ τ = σ ∧ s1 = 0) → w_feed_18 C Q  l1 l2 l3 l4 l5 s1 τ := by
    rintro y18_1 y18_2 y18_3 y18_4 y18_5 y18_s1 τ18 j18
    unfold w_feed_18
    intro σ_1 hσ_1
    refine ⟨fun c2 => ?_, fun c2 => ?_⟩
    · skip
      unfold w_feed_33
      refine ⟨fun n l1 l2 l3 l4 l5 l6 τ => n = (20 - l6).toNatClampNeg ∧ (l1 = a1 ∧ l2 = a2 ∧ l3 = a3 ∧ l4 = a4 ∧ l5 = a5 ∧ ((∀ k, k ≠ 0 → k ≠ 2 → τ.1 k = σ.1 k) ∧ (∀ k,  τ.2.1 k = σ.2.1 k) ∧ (∀ k, k ≠ 1 → τ.2.2.1 k = σ.2.2.1 k) ∧ (∀ k j, k ≠ 1 → τ.2.2.1 k j = σ.2.2.1 k j) ∧ (∀ k j,  τ.2.2.2 k j = σ.2.2.2 k j)) ∧ τ.1 0 = 0 ∧ τ.1 2 = σ.1 2 + l6 ∧ 0 ≤ l6 ∧ l6 ≤ 20 ∧ σ.1 2 + 20 ≤ 65536 ∧ fbI9 a1 a2 a3 a4 a5 σ l6 τ), ⟨_, rfl, ?_⟩, ?_⟩
      · clear h
        obtain ⟨j1, j2, j3, j4, j5, j6, j7⟩ := j18
        have fb : fbI9 a1 a2 a3 a4 a5 σ 0 σ_1 := by
          rw [hσ_1, j6]
          exact fb_09
        refine ⟨j1, j2, j3, j4, j5, ?_, ?_, ?_, by decide, by decide, ?_, fb⟩
        · grind (splits := 24) [si1, si2, ri1, ri2, ri3, ri34, ri5, ob_ri, ob_si2, ob_only, ob_refl, vb5]
        · grind (splits := 24) [si1, si2, ri1, ri2, ri3, ri34, ri5, ob_ri, ob_si2, ob_only, ob_refl, vb5]
        · grind (splits := 24) [si1, si2, ri1, ri2, ri3, ri34, ri5, ob_ri, ob_si2, ob_only, ob_refl, vb5]
        · clear fb; grind (splits := 24) [si1, si2, ri1, ri2, ri3, ri34, ri5, ob_ri, ob_si2, ob_only, ob_refl, vb5]
      rintro n33 x33_1 x33_2 x33_3 x33_4 x33_5 x33_6 σ33 ⟨hn33, i33⟩
      have hj86 : ∀ (l1 : Int32) (l2 : Int32) (l3 : Int32) (l4 : Int32) (l5 : Int32) (l6 : Int32) (s0 : Int32) (τ : rS), (l1 = a1 ∧ l2 = a2 ∧ l3 = a3 ∧ l4 = a4 ∧ l5 = a5 ∧ τ = σ33 ∧ l6 = x33_6 ∧ l6 < 20 ∧ s0 = vs9 a1 a2 a3 a4 a5 l6.toInt.toNat) → w_feed_86 C Q (fun l1' l2' l3' l4' l5' l6' τ => ∃ k < n33, (fun n l1 l2 l3 l4 l5 l6 τ => n = (20 - l6).toNatClampNeg ∧ (l1 = a1 ∧ l2 = a2 ∧ l3 = a3 ∧ l4 = a4 ∧ l5 = a5 ∧ ((∀ k, k ≠ 0 → k ≠ 2 → τ.1 k = σ.1 k) ∧ (∀ k,  τ.2.1 k = σ.2.1 k) ∧ (∀ k, k ≠ 1 → τ.2.2.1 k = σ.2.2.1 k) ∧ (∀ k j, k ≠ 1 → τ.2.2.1 k j = σ.2.2.1 k j) ∧ (∀ k j,  τ.2.2.2 k j = σ.2.2.2 k j)) ∧ τ.1 0 = 0 ∧ τ.1 2 = σ.1 2 + l6 ∧ 0 ≤ l6 ∧ l6 ≤ 20 ∧ σ.1 2 + 20 ≤ 65536 ∧ fbI9 a1 a2 a3 a4 a5 σ l6 τ)) k l1' l2' l3' l4' l5' l6' τ) l1 l2 l3 l4 l5 l6 s0 τ := by
        rintro y86_1 y86_2 y86_3 y86_4 y86_5 y86_6 y86_s0 τ86 j86
        unfold w_feed_86
        refine ⟨ib_65536.mpr ?_, ?_⟩
        · clear h; grind (splits := 24) [si1, si2, ri1, ri2, ri3, ri34, ri5, ob_ri, ob_si2, ob_only, ob_refl, vb5]  -- b2
        intro σ_3 hσ_3
        intro σ_4 hσ_4
        intro x5 hx5
        refine ⟨_, cn_lt2 hn33 ?_ ?_, rfl, ?_⟩
        · clear h; grind (splits := 24) [si1, si2, ri1, ri2, ri3, ri34, ri5, ob_ri, ob_si2, ob_only, ob_refl, vb5]  -- d3
        · clear h; grind (splits := 24) [si1, si2, ri1, ri2, ri3, ri34, ri5, ob_ri, ob_si2, ob_only, ob_refl, vb5]  -- d4
        · clear h
          obtain ⟨j1, j2, j3, j4, j5, j6, j7, j8, j9⟩ := j86
          obtain ⟨i1, i2, i3, i4, i5, i6, i7, i8, i9, i10, i11, fb⟩ := i33
          have fb2 : fbI9 a1 a2 a3 a4 a5 σ x5 σ_4 := by
            rw [hσ_4, hσ_3, j6, hx5, j7]
            exact fb_s9 hp.1 hp.2 i8 i9 (by rw [← j7]; exact j8) (by rw [← j7]; exact j9) fb
          refine ⟨j1, j2, j3, j4, j5, ?_, ?_, ?_, ?_, ?_, i11, fb2⟩ <;> (clear fb fb2; grind (splits := 24) [si1, si2, ri1, ri2, ri3, ri34, ri5, ob_ri, ob_si2, ob_only, ob_refl, vb5])
      refine ⟨fun c6 => ?_, fun c6 => ?_⟩
      · skip
        refine h _ _ ?_
        · clear h
          obtain ⟨i1, i2, i3, i4, i5, i6, i7, i8, i9, i10, i11, fb⟩ := i33
          have e6 : x33_6 = 20 := Int32.le_antisymm i10 c6
          rw [e6] at i8 fb
          refine ⟨i6, ?_, ?_, i8, i8, i7, fb.1, fun i hi => fb.2 i (by show (i : Int) < 20; omega)⟩ <;> (clear fb; grind (splits := 24) [si1, si2, ri1, ri2, ri3, ri34, ri5, ob_ri, ob_si2, ob_only, ob_refl, vb5])
      · skip
        refine ⟨fun c7 => ?_, fun c7 => ?_⟩
        · skip
          refine ⟨fun c8 => ?_, fun c8 => ?_⟩
          · skip
            refine ⟨fun c9 => ?_, fun c9 => ?_⟩
            · skip
              refine ⟨fun c10 => ?_, fun c10 => ?_⟩
              · skip
                refine hj86 _ _ _ _ _ _ _ _ ?_
                · clear h
                  obtain ⟨i1, i2, i3, i4, i5, i6, i7, i8, i9, i10, i11, fb⟩ := i33
                  refine ⟨i1, i2, i3, i4, i5, rfl, rfl, n_lt c6, ?_⟩
                  have t4 : (4 : Int32).toInt = 4 := rfl
                  have t8 : (8 : Int32).toInt = 8 := rfl
                  have t12 : (12 : Int32).toInt = 12 := rfl
                  have t16 : (16 : Int32).toInt = 16 := rfl
                  have t20 : (20 : Int32).toInt = 20 := rfl
                  rw [lei] at c6 i9 c7 c8 c9 c10
                  rw [t0i] at i9
                  unfold vs9
                  rw [if_neg (by omega), if_neg (by omega), if_neg (by omega), if_neg (by omega)]
                  exact i5
              · skip
                refine hj86 _ _ _ _ _ _ _ _ ?_
                · clear h
                  obtain ⟨i1, i2, i3, i4, i5, i6, i7, i8, i9, i10, i11, fb⟩ := i33
                  refine ⟨i1, i2, i3, i4, i5, rfl, rfl, n_lt c6, ?_⟩
                  have t4 : (4 : Int32).toInt = 4 := rfl
                  have t8 : (8 : Int32).toInt = 8 := rfl
                  have t12 : (12 : Int32).toInt = 12 := rfl
                  have t16 : (16 : Int32).toInt = 16 := rfl
                  have t20 : (20 : Int32).toInt = 20 := rfl
                  rw [lei] at c6 i9 c7 c8 c9 c10
                  rw [t0i] at i9
                  unfold vs9
                  rw [if_neg (by omega), if_neg (by omega), if_neg (by omega), if_pos (by omega)]
                  exact i4
            · skip
              refine hj86 _ _ _ _ _ _ _ _ ?_
              · clear h
                obtain ⟨i1, i2, i3, i4, i5, i6, i7, i8, i9, i10, i11, fb⟩ := i33
                refine ⟨i1, i2, i3, i4, i5, rfl, rfl, n_lt c6, ?_⟩
                have t4 : (4 : Int32).toInt = 4 := rfl
                have t8 : (8 : Int32).toInt = 8 := rfl
                have t12 : (12 : Int32).toInt = 12 := rfl
                have t16 : (16 : Int32).toInt = 16 := rfl
                have t20 : (20 : Int32).toInt = 20 := rfl
                rw [lei] at c6 i9 c7 c8 c9
                rw [t0i] at i9
                unfold vs9
                rw [if_neg (by omega), if_neg (by omega), if_pos (by omega)]
                exact i3
          · skip
            refine hj86 _ _ _ _ _ _ _ _ ?_
            · clear h
              obtain ⟨i1, i2, i3, i4, i5, i6, i7, i8, i9, i10, i11, fb⟩ := i33
              refine ⟨i1, i2, i3, i4, i5, rfl, rfl, n_lt c6, ?_⟩
              have t4 : (4 : Int32).toInt = 4 := rfl
              have t8 : (8 : Int32).toInt = 8 := rfl
              have t12 : (12 : Int32).toInt = 12 := rfl
              have t16 : (16 : Int32).toInt = 16 := rfl
              have t20 : (20 : Int32).toInt = 20 := rfl
              rw [lei] at c6 i9 c7 c8
              rw [t0i] at i9
              unfold vs9
              rw [if_neg (by omega), if_pos (by omega)]
              exact i2
        · skip
          refine hj86 _ _ _ _ _ _ _ _ ?_
          · clear h
            obtain ⟨i1, i2, i3, i4, i5, i6, i7, i8, i9, i10, i11, fb⟩ := i33
            refine ⟨i1, i2, i3, i4, i5, rfl, rfl, n_lt c6, ?_⟩
            have t4 : (4 : Int32).toInt = 4 := rfl
            have t8 : (8 : Int32).toInt = 8 := rfl
            have t12 : (12 : Int32).toInt = 12 := rfl
            have t16 : (16 : Int32).toInt = 16 := rfl
            have t20 : (20 : Int32).toInt = 20 := rfl
            rw [lei] at c6 i9 c7
            rw [t0i] at i9
            unfold vs9
            rw [if_pos (by omega)]
            exact i1
    · skip
      refine h _ _ ?_
      · clear h; grind (splits := 24) [si1, si2, ri1, ri2, ri3, ri34, ri5, ob_ri, ob_si2, ob_only, ob_refl, vb5]  -- q12
  refine ⟨fun c11 => ?_, fun c11 => ?_⟩
  · skip
    refine hj18 _ _ _ _ _ _ _ ?_
    · clear h; grind (splits := 24) [si1, si2, ri1, ri2, ri3, ri34, ri5, ob_ri, ob_si2, ob_only, ob_refl, vb5]  -- k13
  · skip
    refine hj18 _ _ _ _ _ _ _ ?_
    · clear h; grind (splits := 24) [si1, si2, ri1, ri2, ri3, ri34, ri5, ob_ri, ob_si2, ob_only, ob_refl, vb5]  -- k14

theorem end_c2 {C : rCx} (hC : cOK C)  {σ : rS} {a1 : Int32} {Q : rS → Prop} (hp : 0 ≤ σ.1 2 ∧ σ.1 2 ≤ 65536) (h : ∀ (σ' : rS), (((∀ k, k ≠ 0 → k ≠ 2 → σ'.1 k = σ.1 k) ∧ σ'.2 = σ.2) ∧ 0 ≤ σ'.1 2 ∧ σ'.1 2 ≤ 65536 ∧ ((0 ≤ a1 ∧ a1 ≤ σ.1 2) → σ'.1 0 = 0 ∧ σ'.1 2 = a1) ∧ (¬ (0 ≤ a1 ∧ a1 ≤ σ.1 2) → σ'.1 0 = 1 ∧ σ'.1 2 = σ.1 2)) → Q σ') : cV C 0 m_end [.ref (co C), .int a1] σ Q := by
  refine m_end_run hC ?_
  unfold w_end_0
  refine ⟨fun c1 => ?_, fun c1 => ?_⟩
  · skip
    unfold w_end_18
    intro σ_2 hσ_2
    refine ⟨fun c3 => ?_, fun c3 => ?_⟩
    · skip
      intro σ_4 hσ_4
      refine h _ ?_
      · clear h; grind (splits := 24) [si1, si2, ri1, ri2, ri3, ri34, ri5, ob_ri, ob_si2, ob_only, ob_refl, vb5]  -- q1
    · skip
      intro σ_5 hσ_5
      refine h _ ?_
      · clear h; grind (splits := 24) [si1, si2, ri1, ri2, ri3, ri34, ri5, ob_ri, ob_si2, ob_only, ob_refl, vb5]  -- q2
  · skip
    refine ⟨fun c6 => ?_, fun c6 => ?_⟩
    · skip
      unfold w_end_18
      intro σ_7 hσ_7
      refine ⟨fun c8 => ?_, fun c8 => ?_⟩
      · skip
        intro σ_9 hσ_9
        refine h _ ?_
        · clear h; grind (splits := 24) [si1, si2, ri1, ri2, ri3, ri34, ri5, ob_ri, ob_si2, ob_only, ob_refl, vb5]  -- q3
      · skip
        intro σ_10 hσ_10
        refine h _ ?_
        · clear h; grind (splits := 24) [si1, si2, ri1, ri2, ri3, ri34, ri5, ob_ri, ob_si2, ob_only, ob_refl, vb5]  -- q4
    · skip
      unfold w_end_18
      intro σ_11 hσ_11
      refine ⟨fun c12 => ?_, fun c12 => ?_⟩
      · skip
        intro σ_13 hσ_13
        refine h _ ?_
        · clear h; grind (splits := 24) [si1, si2, ri1, ri2, ri3, ri34, ri5, ob_ri, ob_si2, ob_only, ob_refl, vb5]  -- q5
      · skip
        intro σ_14 hσ_14
        refine h _ ?_
        · clear h; grind (splits := 24) [si1, si2, ri1, ri2, ri3, ri34, ri5, ob_ri, ob_si2, ob_only, ob_refl, vb5]  -- q6

theorem feed_j {C : rCx} {σ : rS} {a1 a2 a3 a4 a5 : Int32} (hC : cOK C) (J : rJ σ) (h60 : σ.1 2 ≤ 60000) {Q : Int32 → rS → Prop} (h : ∀ v σ', rJ σ' → (oR9 σ' = fdO9 (oR9 σ) (by9 a1 a2 a3 a4 a5) ∧ kR7 σ σ') ∧ kS8 σ σ' → Q v σ') : cI C 0 m_feed [.ref (co C), .int a1, .int a2, .int a3, .int a4, .int a5] σ Q := feed_c9 hC ⟨J.1.1, h60⟩ (fun v σ' q => h v σ' (rJ_c J ⟨q.2.1, q.2.2.1⟩ (by rw [q.1.1 104 (by decide) (by decide)]; exact J.2.2.2.2.2.2.2) (fun k hk => q.1.1 k ((by decide : ∀ k, k ∈ rjF → k ≠ 0) k hk) ((by decide : ∀ k, k ∈ rjF → k ≠ 2) k hk)) (fun k hk => q.1.2.2.1 k ((by decide : ∀ k, k ∈ rjR → k ≠ 1) k hk)) (rjN_r (q.1.2.2.1 90 (by decide)) (q.1.2.2.1 91 (by decide)))) ⟨⟨(by
    have h0 := J.1.1
    have t60 : (60000 : Int32).toInt = 60000 := rfl
    have h61 := h60
    rw [lei, t0i] at h0
    rw [lei, t60] at h61
    have z := fd_m9 (f := σ.2.2.1 1) (f' := σ'.2.2.1 1) (G := by9 a1 a2 a3 a4 a5) (x := σ.1 53) h0 h61 q.2.2.2.2.1 q.2.2.2.2.2.2.1 q.2.2.2.2.2.2.2
    unfold oR9
    rw [q.1.1 53 (by decide) (by decide)]
    exact z), kR_f7 (fun k hk => q.1.1 k ((by decide : ∀ k, k ∈ kf7 → k ≠ 0) k hk) ((by decide : ∀ k, k ∈ kf7 → k ≠ 2) k hk)) (fun k hk => q.1.2.2.1 k ((by decide : ∀ k, k ∈ kz7 → k ≠ 1) k hk)) (fun j => q.1.2.2.2.2 8 j)⟩, kS_f8 (fun k hk => q.1.1 k ((by decide : ∀ k, k ∈ ke8 → k ≠ 0) k hk) ((by decide : ∀ k, k ∈ ke8 → k ≠ 2) k hk)) (fun k hk => q.1.2.2.1 k ((by decide : ∀ k, k ∈ kx8 → k ≠ 1) k hk)) (q.1.2.1 110) (kN_f16 (fun k hk => q.1.1 k ((by decide : ∀ k, k ∈ kf16 → k ≠ 0) k hk) ((by decide : ∀ k, k ∈ kf16 → k ≠ 2) k hk)) (fun k hk => q.1.2.2.1 k ((by decide : ∀ k, k ∈ kh16 → k ≠ 1) k hk)) (nM_r16 (q.1.2.2.1 90 (by decide)) (q.1.2.2.1 91 (by decide))))⟩)
theorem end_j {C : rCx} {σ : rS} {a1 : Int32} (hC : cOK C) (J : rJ σ) {Q : rS → Prop} (h : ∀ σ', rJ σ' → (oR9 σ' = trO9 (oR9 σ) a1 ∧ kR7 σ σ') ∧ kS8 σ σ' → Q σ') : cV C 0 m_end [.ref (co C), .int a1] σ Q := end_c2 hC J.1 (fun σ' q => h σ' (rJ_c J ⟨q.2.1, q.2.2.1⟩ (by rw [q.1.1 104 (by decide) (by decide)]; exact J.2.2.2.2.2.2.2) (fun k hk => q.1.1 k ((by decide : ∀ k, k ∈ rjF → k ≠ 0) k hk) ((by decide : ∀ k, k ∈ rjF → k ≠ 2) k hk)) (fun k _ => by rw [q.1.2]) (rjN_r (by rw [q.1.2]) (by rw [q.1.2]))) ⟨⟨(by
    unfold oR9
    rw [q.1.1 53 (by decide) (by decide), q.1.2]
    by_cases c : 0 ≤ a1 ∧ a1 ≤ σ.1 2
    · rw [tr_m9 c, (q.2.2.2.1 c).2]
    · rw [tr_n9 c, (q.2.2.2.2 c).2]), kR_f7 (fun k hk => q.1.1 k ((by decide : ∀ k, k ∈ kf7 → k ≠ 0) k hk) ((by decide : ∀ k, k ∈ kf7 → k ≠ 2) k hk)) (fun k _ => by rw [q.1.2]) (fun j => by rw [q.1.2])⟩, kS_f8 (fun k hk => q.1.1 k ((by decide : ∀ k, k ∈ ke8 → k ≠ 0) k hk) ((by decide : ∀ k, k ∈ ke8 → k ≠ 2) k hk)) (fun k _ => by rw [q.1.2]) (by rw [q.1.2]) (kN_f16 (fun k hk => q.1.1 k ((by decide : ∀ k, k ∈ kf16 → k ≠ 0) k hk) ((by decide : ∀ k, k ∈ kf16 → k ≠ 2) k hk)) (fun k _ => by rw [q.1.2]) (nM_r16 (by rw [q.1.2]) (by rw [q.1.2])))⟩)
theorem fault_j {C : rCx} {σ : rS} (hC : cOK C) (J : rJ σ) {Q : Int32 → rS → Prop} (h : ∀ v σ', rJ σ' → v = σ.1 53 → pR8 σ σ' → Q v σ') : cI C 0 m_fault [.ref (co C)] σ Q := fault_c9 hC (fun σ' q => h _ σ' (rJ_c J (by rw [q.1 2 (by decide)]; exact J.1) (by rw [q.1 104 (by decide)]; exact J.2.2.2.2.2.2.2) (fun k hk => q.1 k ((by decide : ∀ k, k ∈ rjF → k ≠ 0) k hk)) (fun k _ => by rw [q.2]) (rjN_r (by rw [q.2]) (by rw [q.2]))) rfl ⟨⟨oR_k9 (q.1 2 (by decide)) (q.1 53 (by decide)) (by rw [q.2]), kR_f7 (fun k hk => q.1 k ((by decide : ∀ k, k ∈ kf7 → k ≠ 0) k hk)) (fun k _ => by rw [q.2]) (fun j => by rw [q.2])⟩, kS_f8 (fun k hk => q.1 k ((by decide : ∀ k, k ∈ ke8 → k ≠ 0) k hk)) (fun k _ => by rw [q.2]) (by rw [q.2]) (kN_f16 (fun k hk => q.1 k ((by decide : ∀ k, k ∈ kf16 → k ≠ 0) k hk)) (fun k _ => by rw [q.2]) (nM_r16 (by rw [q.2]) (by rw [q.2])))⟩)
theorem forget_j {C : rCx} {σ : rS} (hC : cOK C) (J : rJ σ) {Q : Int32 → rS → Prop} (h : ∀ v σ', rJ σ' → (pO21 σ σ' ∧ kP23 σ σ' ∧ kN16 σ σ') → Q v σ') : cI C 0 m_forget [.ref (co C)] σ Q := forget_c hC (fun v σ' q => h v σ' (rJ_c J (by rw [q.1.1 2 (by decide) (by decide)]; exact J.1) (by rw [q.2.2]; decide) (fun k hk => q.1.1 k ((by decide : ∀ k, k ∈ rjF → k ≠ 0) k hk) ((by decide : ∀ k, k ∈ rjF → k ≠ 104) k hk)) (fun k _ => by rw [q.1.2]) (rjN_r (by rw [q.1.2]) (by rw [q.1.2]))) ⟨⟨⟨oR_k9 (q.1.1 2 (by decide) (by decide)) (q.1.1 53 (by decide) (by decide)) (by rw [q.1.2]), kR_f7 (fun k hk => q.1.1 k ((by decide : ∀ k, k ∈ kf7 → k ≠ 0) k hk) ((by decide : ∀ k, k ∈ kf7 → k ≠ 104) k hk)) (fun k _ => by rw [q.1.2]) (fun j => by rw [q.1.2])⟩, ⟨(fun k hk => q.1.1 k ((by decide : ∀ k, k ∈ kd7 → k ≠ 0) k hk) ((by decide : ∀ k, k ∈ kd7 → k ≠ 104) k hk)), (fun k _ => by rw [q.1.2])⟩, q.2.2⟩, ⟨fun k hk => q.1.1 k ((by decide : ∀ k, k ∈ kp23 → k ≠ 0) k hk) ((by decide : ∀ k, k ∈ kp23 → k ≠ 104) k hk), by rw [q.1.2], by rw [q.1.2]⟩, kN_f16 (fun k hk => q.1.1 k ((by decide : ∀ k, k ∈ kf16 → k ≠ 0) k hk) ((by decide : ∀ k, k ∈ kf16 → k ≠ 104) k hk)) (fun k _ => by rw [q.1.2]) (nM_r16 (by rw [q.1.2]) (by rw [q.1.2]))⟩)
theorem tell_j {C : rCx} {σ : rS} {a1 : Int32} (hC : cOK C) (J : rJ σ) {Q : Int32 → rS → Prop} (h : ∀ v σ', rJ σ' → (pL21 a1 σ σ' ∧ kP23 σ σ' ∧ kN16 σ σ') → Q v σ') : cI C 0 m_tell [.ref (co C), .int a1] σ Q := tell_g21 hC J.2.2.2.2.2.2.2 (fun v σ' q => h v σ' (rJ_c J (by rw [q.1.1 2 (by decide) (by decide)]; exact J.1) q.2.1 (fun k hk => q.1.1 k ((by decide : ∀ k, k ∈ rjF → k ≠ 0) k hk) ((by decide : ∀ k, k ∈ rjF → k ≠ 104) k hk)) (fun k hk => q.1.2.1 k ((by decide : ∀ k, k ∈ rjR → k ≠ 105) k hk)) (rjN_r (q.1.2.1 90 (by decide)) (q.1.2.1 91 (by decide)))) ⟨⟨⟨oR_k9 (q.1.1 2 (by decide) (by decide)) (q.1.1 53 (by decide) (by decide)) (q.1.2.1 1 (by decide)), kR_f7 (fun k hk => q.1.1 k ((by decide : ∀ k, k ∈ kf7 → k ≠ 0) k hk) ((by decide : ∀ k, k ∈ kf7 → k ≠ 104) k hk)) (fun k hk => q.1.2.1 k ((by decide : ∀ k, k ∈ kz7 → k ≠ 105) k hk)) (fun j => q.1.2.2.1 j)⟩, ⟨fun k hk => q.1.1 k ((by decide : ∀ k, k ∈ kd7 → k ≠ 0) k hk) ((by decide : ∀ k, k ∈ kd7 → k ≠ 104) k hk), fun k hk => q.1.2.1 k ((by decide : ∀ k, k ∈ kx7 → k ≠ 105) k hk)⟩, q.2.2.1, q.2.2.2⟩, ⟨fun k hk => q.1.1 k ((by decide : ∀ k, k ∈ kp23 → k ≠ 0) k hk) ((by decide : ∀ k, k ∈ kp23 → k ≠ 104) k hk), q.1.2.2.2, q.1.2.1 111 (by decide)⟩, kN_f16 (fun k hk => q.1.1 k ((by decide : ∀ k, k ∈ kf16 → k ≠ 0) k hk) ((by decide : ∀ k, k ∈ kf16 → k ≠ 104) k hk)) (fun k hk => q.1.2.1 k ((by decide : ∀ k, k ∈ kh16 → k ≠ 105) k hk)) (nM_r16 (q.1.2.1 90 (by decide)) (q.1.2.1 91 (by decide)))⟩)

end
