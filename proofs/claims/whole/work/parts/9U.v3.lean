section
set_option maxHeartbeats 1600000
/-! the reference: independent, given -/
theorem i23 {a : Int32} (h : a = 23 ∨ a = 25) : (0 ≤ a ∧ a < 30 ∧ 0 ≤ a + 1 ∧ a + 1 < 30 ∧ (19 : Int32) ≠ a ∧ (21 : Int32) ≠ a ∧ (20 : Int32) ≠ a + 1 ∧ (22 : Int32) ≠ a + 1 ∧ 4 ≤ a ∧ 4 ≤ a + 1 ∧ a ≠ a + 1) ∧ (a + 1).toNatClampNeg = a.toNatClampNeg + 1 ∧ (a.toNatClampNeg = 23 ∨ a.toNatClampNeg = 25) := by
  rcases h with e | e <;> rw [e] <;> decide
theorem nms {k x : Nat} (h : k ≠ x) : k ∉ [x] := fun z => h (List.mem_singleton.mp z)
theorem product_c {C : rCx} (hC : cOK C)  {σ : rS} {a1 : Int32} {a2 : Int32} {a3 : Int32} {Q : rS → Prop} (hp : a1 = 19 ∧ a2 = 21 ∧ (a3 = 23 ∨ a3 = 25) ∧ numO σ 19 ∧ numO σ 20 ∧ numO σ 21 ∧ numO σ 22 ∧ 0 < nV σ 20 ∧ 0 < nV σ 22 ∧ nL σ 19 + nL σ 21 + 1 < 40000 ∧ nL σ 20 + nL σ 22 + 1 < 40000) (h : ∀ (σ' : rS), (frN [0, 1, 2, 3, a3.toNatClampNeg, a3.toNatClampNeg + 1] σ σ' ∧ numO σ' a3.toNatClampNeg ∧ numO σ' (a3.toNatClampNeg + 1)) → Q σ') : cV C 4 m_product [.ref (co C), .int a1, .int a2, .int a3] σ Q := by
  refine m_product_run hC ?_
  unfold w_product_0
  obtain ⟨e1, e2, h3, o19, o20, o21, o22, p20', p22, l1, l2⟩ := hp
  have i := i23 h3
  rw [e1, e2, show (19 : Int32) + 1 = 20 from rfl, show (21 : Int32) + 1 = 22 from rfl]
  refine times_c hC  ?_ (fun σ_1 q2 => ?_)
  · clear h; simp only [kn2]
    exact ⟨i.1.1, i.1.2.1, by decide, by decide, by decide, by decide, i.1.2.2.2.2.1, i.1.2.2.2.2.2.1, o19, o21, by omega⟩
  simp only [kn2] at q2
  have g20 := nV_fr q2.1 (k := 20) (nms (by have := i.2.2; omega)) o20
  have g22 := nV_fr q2.1 (k := 22) (nms (by have := i.2.2; omega)) o22
  refine times_c hC  ?_ (fun σ_3 q4 => ?_)
  · clear h; simp only [kn2]
    exact ⟨i.1.2.2.1, i.1.2.2.2.1, by decide, by decide, by decide, by decide, i.1.2.2.2.2.2.2.1, i.1.2.2.2.2.2.2.2.1, g20.1, g22.1, by have := g20.2.2; have := g22.2.2; omega⟩
  simp only [kn2] at q4
  rw [i.2.1] at q4
  have h3' := nV_fr q4.1 (k := a3.toNatClampNeg) (nms (by omega)) q2.2.1
  refine reduce_c hC  ?_ (fun σ_5 q6 => ?_)
  · clear h; rw [i.2.1]
    exact ⟨i.1.2.2.2.2.2.2.2.2.1, i.1.2.1, i.1.2.2.2.2.2.2.2.2.2.1, i.1.2.2.2.1, i.1.2.2.2.2.2.2.2.2.2.2, h3'.1, q4.2.1, by rw [q4.2.2.1, g20.2.1, g22.2.1]; exact Nat.mul_pos p20' p22, by have := h3'.2.2; have := q2.2.2.2; omega, by have := q4.2.2.2; have := g20.2.2; have := g22.2.2; omega⟩
  refine h _ ?_
  · clear h; rw [i.2.1] at q6
    exact ⟨frN_tr (frN_mono q2.1 (fun k hk => List.mem_append_right [0, 1, 2, 3] (by rw [List.mem_singleton.mp hk]; exact List.mem_cons_self))) (frN_tr (frN_mono q4.1 (fun k hk => List.mem_append_right [0, 1, 2, 3] (by rw [List.mem_singleton.mp hk]; exact List.mem_cons_of_mem _ List.mem_cons_self))) q6.1), q6.2.1, q6.2.2.1⟩

theorem isPairFree_c {C : rCx} (hC : cOK C) (s : Nat) {σ : rS} {a1 : Int32} {a2 : Int32} {a3 : Int32} {a4 : Int32} {a5 : Int32} {a6 : Int32} {Q : Int32 → rS → Prop} (hp : pOK σ ∧ s = (σ.1 70).toNatClampNeg ∧ (∀ k, k < s → vOK σ k) ∧ (a1 = -1 ∨ (0 ≤ a1 ∧ a1 < 34)) ∧ (a3 = -1 ∨ (0 ≤ a3 ∧ a3 < 34)) ∧ (a5 = -1 ∨ (0 ≤ a5 ∧ a5 < 34))) (h : ∀ (v : Int32) (σ' : rS), (frS [0, 1, 2, 3, 4, 5, 6, 7, 8, 9, 10, 19, 20, 21, 22, 23, 24, 25, 26] σ σ' ∧ nb v) → Q v σ') : cI C 7 m_isPairFree [.ref (co C), .int a1, .int a2, .int a3, .int a4, .int a5, .int a6] σ Q := by
  refine m_isPairFree_run hC ?_
  unfold w_isPairFree_0
  obtain ⟨hO, hs, hv, h1, h3, h5⟩ := hp
  have s1000 : s ≤ 1000 := by rw [hs]; exact cn_le (y := 1000) rfl hO.1.1.2
  refine weigh_c hC s ?_ (fun σ_1 q2 => ?_)
  · clear h; exact ⟨hO, hs, hv, h1, h3, h5, Or.inl rfl⟩  -- p1
  simp only [kn2, Nat.reduceAdd] at q2
  have F1 : frS [0, 1, 2, 3, 4, 5, 6, 7, 8, 9, 10, 19, 20, 21, 22, 23, 24, 25, 26] σ σ_1 := frS_mono q2.1 (sub_of rfl)
  refine weigh_c hC s ?_ (fun σ_3 q4 => ?_)
  · clear h; exact ⟨pOK_S hO F1, by rw [F1.1 70 (by decide)]; exact hs, fun k hk => vOK_f (F1.2.2.1 102 (by decide) (by decide)) (hv k hk), Or.inl rfl, Or.inl rfl, h5, Or.inr rfl⟩  -- p2
  simp only [kn2, Nat.reduceAdd] at q4
  have F3 := frS_tr F1 (frS_mono q4.1 (sub_of rfl))
  have g19 := nV_frS q4.1 (k := 19) (by decide) q2.2.1
  have g20 := nV_frS q4.1 (k := 20) (by decide) q2.2.2.1
  refine product_c hC  ?_ (fun σ_5 q6 => ?_)
  · clear h; exact ⟨rfl, rfl, Or.inl rfl, g19.1, g20.1, q4.2.1, q4.2.2.1, by rw [g20.2.1]; exact q2.2.2.2.1, q4.2.2.2.1, by have := g19.2.2; have := q2.2.2.2.2.1; have := q4.2.2.2.2.1; omega, by have := g20.2.2; have := q2.2.2.2.2.2; have := q4.2.2.2.2.2; omega⟩  -- p3
  simp only [kn2, Nat.reduceAdd] at q6
  have F5 := frS_tr F3 (frS_mono (frS_of q6.1) (sub_of rfl))
  refine weigh_c hC s ?_ (fun σ_7 q8 => ?_)
  · clear h; exact ⟨pOK_S hO F5, by rw [F5.1 70 (by decide)]; exact hs, fun k hk => vOK_f (F5.2.2.1 102 (by decide) (by decide)) (hv k hk), h1, Or.inl rfl, h5, Or.inl rfl⟩  -- p4
  simp only [kn2, Nat.reduceAdd] at q8
  have F7 := frS_tr F5 (frS_mono q8.1 (sub_of rfl))
  refine weigh_c hC s ?_ (fun σ_9 q10 => ?_)
  · clear h; exact ⟨pOK_S hO F7, by rw [F7.1 70 (by decide)]; exact hs, fun k hk => vOK_f (F7.2.2.1 102 (by decide) (by decide)) (hv k hk), Or.inl rfl, h3, h5, Or.inr rfl⟩  -- p5
  simp only [kn2, Nat.reduceAdd] at q10
  have F9 := frS_tr F7 (frS_mono q10.1 (sub_of rfl))
  have k19 := nV_frS q10.1 (k := 19) (by decide) q8.2.1
  have k20 := nV_frS q10.1 (k := 20) (by decide) q8.2.2.1
  refine product_c hC  ?_ (fun σ_11 q12 => ?_)
  · clear h; exact ⟨rfl, rfl, Or.inr rfl, k19.1, k20.1, q10.2.1, q10.2.2.1, by rw [k20.2.1]; exact q8.2.2.2.1, q10.2.2.2.1, by have := k19.2.2; have := q8.2.2.2.2.1; have := q10.2.2.2.2.1; omega, by have := k20.2.2; have := q8.2.2.2.2.2; have := q10.2.2.2.2.2; omega⟩  -- p6
  simp only [kn2, Nat.reduceAdd] at q12
  have F11 := frS_tr F9 (frS_mono (frS_of q12.1) (sub_of rfl))
  have m23 := nV_fr q12.1 (k := 23) (by decide) (nV_frS q10.1 (k := 23) (by decide) (nV_frS q8.1 (k := 23) (by decide) q6.2.1).1).1
  have m24 := nV_fr q12.1 (k := 24) (by decide) (nV_frS q10.1 (k := 24) (by decide) (nV_frS q8.1 (k := 24) (by decide) q6.2.2).1).1
  refine compare_c hC  ?_ (fun r13 q15 => ?_)
  · clear h; simp only [kn2]; exact ⟨by decide, by decide, by decide, by decide, m23.1, q12.2.1⟩  -- p7
  refine ⟨fun c16 => ?_, fun c16 => ?_⟩
  · skip
    refine h _ _ ?_
    · clear h; exact ⟨F11, nb_0⟩  -- q8
  · skip
    refine compare_c hC  ?_ (fun r17 q19 => ?_)
    · clear h; simp only [kn2]; exact ⟨by decide, by decide, by decide, by decide, m24.1, q12.2.2⟩  -- p9
    refine ⟨fun c20 => ?_, fun c20 => ?_⟩
    · skip
      refine h _ _ ?_
      · clear h; exact ⟨F11, nb_0⟩  -- q10
    · skip
      refine h _ _ ?_
      · clear h; exact ⟨F11, nb_1⟩  -- q11

/-- only fields of F, rows of R and numbers of l differ -/
def frU (F R l : List Nat) (σ τ : rS) : Prop := (∀ k, k ∉ F → τ.1 k = σ.1 k) ∧ τ.2.1 = σ.2.1 ∧ (∀ k, k ≠ 90 → k ≠ 91 → k ∉ R → τ.2.2.1 k = σ.2.2.1 k) ∧ τ.2.2.2 = σ.2.2.2 ∧ ∀ k, k ∉ l → τ.2.2.1 91 k = σ.2.2.1 91 k ∧ ∀ i, i < 40000 → τ.2.2.1 90 (40000 * k + i) = σ.2.2.1 90 (40000 * k + i)
theorem frU_rf {F R l : List Nat} {σ : rS} : frU F R l σ σ := ⟨fun _ _ => rfl, rfl, fun _ _ _ _ => rfl, rfl, fun _ _ => ⟨rfl, fun _ _ => rfl⟩⟩
theorem frU_tr {F R l : List Nat} {σ τ υ : rS} (h : frU F R l σ τ) (g : frU F R l τ υ) : frU F R l σ υ := ⟨fun k z => (g.1 k z).trans (h.1 k z), g.2.1.trans h.2.1, fun k z1 z2 z3 => (g.2.2.1 k z1 z2 z3).trans (h.2.2.1 k z1 z2 z3), g.2.2.2.1.trans h.2.2.2.1, fun k z => ⟨(g.2.2.2.2 k z).1.trans (h.2.2.2.2 k z).1, fun i hi => ((g.2.2.2.2 k z).2 i hi).trans ((h.2.2.2.2 k z).2 i hi)⟩⟩
theorem frU_S {F R l m : List Nat} {σ τ : rS} (h : frS l σ τ) (hF : 92 ∈ F) (hl : ∀ k, k ∈ l → k ∈ m) : frU F R m σ τ := ⟨fun k z => h.1 k (fun e => z (by rw [e]; exact hF)), h.2.1, fun k z1 z2 _ => h.2.2.1 k z1 z2, h.2.2.2.1, fun k z => h.2.2.2.2 k (fun e => z (hl k e))⟩
theorem frU_0 {F R l : List Nat} {σ : rS} {k : Nat} {x : Int32} (hk : k ∈ F) : frU F R l σ (siU σ k x) := ⟨fun q z => if_neg (fun e => z (by rw [e]; exact hk)), rfl, fun _ _ _ _ => rfl, rfl, fun _ _ => ⟨rfl, fun _ _ => rfl⟩⟩
theorem frU_X {F R S l : List Nat} {σ τ : rS} (h : frX S σ τ) (hS : ∀ k, k ∈ S → k ∈ R) (h0 : 90 ∉ S) (h1 : 91 ∉ S) : frU F R l σ τ := ⟨fun k _ => by rw [h.1], h.2.1, fun k _ _ z => h.2.2.1 k (fun e => z (hS k e)), h.2.2.2, fun k _ => ⟨by rw [h.2.2.1 91 h1], fun i _ => by rw [h.2.2.1 90 h0]⟩⟩
theorem frU_w {F G R S l m : List Nat} {σ τ : rS} (h : frU F R l σ τ) (hF : ∀ k, k ∈ F → k ∈ G) (hR : ∀ k, k ∈ R → k ∈ S) (hl : ∀ k, k ∈ l → k ∈ m) : frU G S m σ τ := ⟨fun k z => h.1 k (fun e => z (hF k e)), h.2.1, fun k z1 z2 z3 => h.2.2.1 k z1 z2 (fun e => z3 (hR k e)), h.2.2.2.1, fun k z => h.2.2.2.2 k (fun e => z (hl k e))⟩
abbrev ifF : List Nat := [0, 92, 124, 125]
abbrev ifR : List Nat := [120, 121, 122, 123]
abbrev ifL : List Nat := [0, 1, 2, 3, 4, 5, 6, 7, 8, 9, 10, 19, 20, 21, 22, 23, 24, 25, 26]
theorem pOK_U {σ τ : rS} (h : pOK σ) (f : frU ifF ifR ifL σ τ) : pOK τ := pOK_o h (fun k hk => f.1 k (by rcases hk with z | z | z <;> rw [z] <;> decide)) (fun k hk => f.2.2.1 k (by omega) (by omega) (by rcases hk with z | z | z | z | z | z | z <;> rw [z] <;> decide))
theorem vOK_U {σ τ : rS} {k : Nat} (h : vOK σ k) (f : frU ifF ifR ifL σ τ) : vOK τ k := vOK_f (f.2.2.1 102 (by decide) (by decide) (by decide)) h
theorem isFree_c {C : rCx} (hC : cOK C) (s : Nat) {σ : rS} {a1 : Int32} {a2 : Int32} {a3 : Int32} {a4 : Int32} {Q : Int32 → rS → Prop} (hp : pOK σ ∧ s = (σ.1 70).toNatClampNeg ∧ (∀ k, k < s → vOK σ k) ∧ 0 ≤ a1 ∧ a1 < 34 ∧ 0 ≤ a2 ∧ a2 < 34 ∧ (a3 = -1 ∨ (0 ≤ a3 ∧ a3 < 34))) (h : ∀ (v : Int32) (σ' : rS), (frU ifF [121, 122] ifL σ σ' ∧ nb v) → Q v σ') : cI C 8 m_isFree [.ref (co C), .int a1, .int a2, .int a3, .int a4] σ Q := by
  refine m_isFree_run hC ?_
  unfold w_isFree_0
  obtain ⟨hO, hs, hv, p0, p1, p2, p3, p4⟩ := hp
  have n71 := hO.1.2.1.2
  refine list_c hC  ?_ (fun r1 σ_2 q3 => ?_)
  · clear h; exact ⟨Or.inl rfl, hO.1, p0, p1, p4⟩  -- p1
  intro σ_4 hσ_4
  have U4 : frU ifF [121, 122] ifL σ σ_4 := by rw [hσ_4]; exact frU_tr (frU_X q3.1 (sub_of rfl) (by decide) (by decide)) (frU_0 (by decide))
  have O4 := pOK_U hO (frU_w U4 (fun k hk => hk) (sub_of rfl) (fun k hk => hk))
  refine list_c hC  ?_ (fun r5 σ_6 q7 => ?_)
  · clear h; exact ⟨Or.inr (Or.inl rfl), O4.1, p2, p3, p4⟩  -- p2
  intro σ_8 hσ_8
  have U8 : frU ifF [121, 122] ifL σ σ_8 := by rw [hσ_8]; exact frU_tr U4 (frU_tr (frU_X q7.1 (sub_of rfl) (by decide) (by decide)) (frU_0 (by decide)))
  have W8 : frU ifF ifR ifL σ σ_8 := frU_w U8 (fun k hk => hk) (sub_of rfl) (fun k hk => hk)
  have e71 : σ_8.1 71 = σ.1 71 := U8.1 71 (by decide)
  have e125 : σ_8.1 125 = r5 := by rw [hσ_8]; rfl
  have e124 : σ_8.1 124 = r1 := by rw [hσ_8, show (siU σ_6 125 r5).1 124 = σ_6.1 124 from rfl, q7.1.1, hσ_4]; rfl
  have r1k : r1 ≤ 1000 := Int32.le_trans q3.2.2 n71
  have r5k : r5 ≤ 1000 := Int32.le_trans q7.2.2 (by rw [U4.1 71 (by decide)]; exact n71)
  unfold w_isFree_35
  refine ⟨fun n l1 l2 l3 l4 l5 τ => n = (r1 - l5).toNatClampNeg ∧ (l1 = a1 ∧ l2 = a2 ∧ l3 = a3 ∧ l4 = a4 ∧ τ = σ_8 ∧ 0 ≤ l5 ∧ l5 ≤ r1), ⟨_, rfl, ?_⟩, ?_⟩
  · clear h; exact ⟨rfl, rfl, rfl, rfl, rfl, by decide, q3.2.1⟩  -- j3
  rintro n35 x35_1 x35_2 x35_3 x35_4 x35_5 σ35 ⟨hn35, i35⟩
  obtain ⟨e1, e2, e3, e4, e5, a0, a1'⟩ := i35
  rw [e5, e124]
  refine ⟨fun c9 => ?_, fun c9 => ?_⟩
  · skip
    unfold w_isFree_172
    refine ⟨fun n l1 l2 l3 l4 l5 τ => n = (r1 - l5).toNatClampNeg ∧ (l1 = a1 ∧ l2 = a2 ∧ l3 = a3 ∧ l4 = a4 ∧ frS ifL σ_8 τ ∧ 0 ≤ l5 ∧ l5 ≤ r1), ⟨_, rfl, ?_⟩, ?_⟩
    · clear h; exact ⟨e1, e2, e3, e4, frS_rf, by decide, q3.2.1⟩  -- j4
    rintro n172 x172_1 x172_2 x172_3 x172_4 x172_5 σ172 ⟨hn172, i172⟩
    obtain ⟨f1, f2, f3, f4, G, b0, b1⟩ := i172
    rw [G.1 124 (by decide), e124]
    refine ⟨fun c10 => ?_, fun c10 => ?_⟩
    · skip
      refine h _ _ ?_
      · clear h; exact ⟨frU_tr U8 (frU_S G (by decide) (fun k hk => hk)), nb_1⟩  -- q5
    · skip
      refine ⟨fun c11 => ?_, fun c11 => ?_⟩
      · skip
        refine h _ _ ?_
        · clear h; exact ⟨frU_tr U8 (frU_S G (by decide) (fun k hk => hk)), nb_1⟩  -- q6
      · skip
        have u := uk b0 c10 r1k
        unfold w_isFree_191
        refine ⟨fun n l1 l2 l3 l4 l5 l6 τ => n = (r5 - l6).toNatClampNeg ∧ (l1 = a1 ∧ l2 = a2 ∧ l3 = a3 ∧ l4 = a4 ∧ l5 = x172_5 ∧ frS ifL σ_8 τ ∧ 0 ≤ l6 ∧ l6 ≤ r5), ⟨_, rfl, ?_⟩, ?_⟩
        · clear h; exact ⟨f1, f2, f3, f4, rfl, G, by decide, q7.2.1⟩  -- j7
        rintro n191 x191_1 x191_2 x191_3 x191_4 x191_5 x191_6 σ191 ⟨hn191, i191⟩
        obtain ⟨g1, g2, g3, g4, g5, H, d0, d1⟩ := i191
        rw [H.1 125 (by decide), e125, g5]
        refine ⟨fun c12 => ?_, fun c12 => ?_⟩
        · skip
          intro x13 hx13
          refine ⟨_, cn_lt2 hn172 ?_ ?_, rfl, ?_⟩
          · clear h; rw [hx13]; exact u.1  -- d8
          · clear h; rw [hx13]; exact u.2.1  -- d9
          · clear h; rw [hx13]; exact ⟨g1, g2, g3, g4, H, u.2.2.1, u.2.2.2.1⟩  -- i10
        · skip
          have w := uk d0 c12 r5k
          have U191 := frU_tr W8 (frU_S H (by decide) (fun k hk => hk))
          refine ⟨ib_1000.mpr ?_, ?_⟩
          · clear h; exact ⟨b0, u.2.2.2.2.2⟩  -- b11
          refine ⟨ib_1000.mpr ?_, ?_⟩
          · clear h; exact ⟨d0, w.2.2.2.2.2⟩  -- b12
          refine isPairFree_c hC s ?_ (fun r14 σ_15 q16 => ?_)
          · clear h; rw [g1, g2, g3]
            exact ⟨pOK_U hO U191, by rw [U191.1 70 (by decide)]; exact hs, fun k hk => vOK_U (hv k hk) U191, Or.inr ⟨p0, p1⟩, Or.inr ⟨p2, p3⟩, p4⟩
          refine ⟨fun c17 => ?_, fun c17 => ?_⟩
          · skip
            intro x18 hx18
            refine ⟨_, cn_lt2 hn191 ?_ ?_, rfl, ?_⟩
            · clear h; rw [hx18]; exact w.1  -- d14
            · clear h; rw [hx18]; exact w.2.1  -- d15
            · clear h; rw [hx18]; exact ⟨g1, g2, g3, g4, rfl, frS_tr H q16.1, w.2.2.1, w.2.2.2.1⟩  -- i16
          · skip
            refine h _ _ ?_
            · clear h; exact ⟨frU_tr U8 (frU_S (frS_tr H q16.1) (by decide) (fun k hk => hk)), nb_0⟩  -- q17
  · skip
    have u := uk a0 c9 r1k
    unfold w_isFree_47
    refine ⟨fun n l1 l2 l3 l4 l5 l6 τ => n = (r5 - l6).toNatClampNeg ∧ (l1 = a1 ∧ l2 = a2 ∧ l3 = a3 ∧ l4 = a4 ∧ l5 = x35_5 ∧ τ = σ_8 ∧ 0 ≤ l6 ∧ l6 ≤ r5), ⟨_, rfl, ?_⟩, ?_⟩
    · clear h; exact ⟨e1, e2, e3, e4, rfl, rfl, by decide, q7.2.1⟩  -- j18
    rintro n47 x47_1 x47_2 x47_3 x47_4 x47_5 x47_6 σ47 ⟨hn47, i47⟩
    have hj150 : ∀ (l1 : Int32) (l2 : Int32) (l3 : Int32) (l4 : Int32) (l5 : Int32) (l6 : Int32) (l7 : Int32) (τ : rS), (l1 = a1 ∧ l2 = a2 ∧ l3 = a3 ∧ l4 = a4 ∧ l5 = x35_5 ∧ l6 = x47_6 ∧ τ = σ_8 ∧ ¬ r5 ≤ x47_6) → w_isFree_150 C Q (fun l1' l2' l3' l4' l5' τ => ∃ k < n35, (fun n l1 l2 l3 l4 l5 τ => n = (r1 - l5).toNatClampNeg ∧ (l1 = a1 ∧ l2 = a2 ∧ l3 = a3 ∧ l4 = a4 ∧ τ = σ_8 ∧ 0 ≤ l5 ∧ l5 ≤ r1)) k l1' l2' l3' l4' l5' τ) (fun l1' l2' l3' l4' l5' l6' τ => ∃ k < n47, (fun n l1 l2 l3 l4 l5 l6 τ => n = (r5 - l6).toNatClampNeg ∧ (l1 = a1 ∧ l2 = a2 ∧ l3 = a3 ∧ l4 = a4 ∧ l5 = x35_5 ∧ τ = σ_8 ∧ 0 ≤ l6 ∧ l6 ≤ r5)) k l1' l2' l3' l4' l5' l6' τ) l1 l2 l3 l4 l5 l6 l7 τ := by
      rintro y150_1 y150_2 y150_3 y150_4 y150_5 y150_6 y150_7 τ150 j150
      unfold w_isFree_150
      obtain ⟨g1, g2, g3, g4, g5, g6, d0, d1⟩ := i47
      obtain ⟨y1, y2, y3, y4, y5, y6, y7, y8⟩ := j150
      have w := uk d0 y8 r5k
      rw [y7]
      refine ⟨fun c19 => ?_, fun c19 => ?_⟩
      · skip
        intro x20 hx20
        refine ⟨_, cn_lt2 hn47 ?_ ?_, rfl, ?_⟩
        · clear h; rw [hx20, y6]; exact w.1  -- d19
        · clear h; rw [hx20, y6]; exact w.2.1  -- d20
        · clear h; rw [hx20, y6]; exact ⟨y1, y2, y3, y4, y5, rfl, w.2.2.1, w.2.2.2.1⟩  -- i21
      · skip
        refine h _ _ ?_
        · clear h; exact ⟨U8, nb_0⟩  -- q22
    obtain ⟨g1, g2, g3, g4, g5, g6, d0, d1⟩ := i47
    rw [g6, e125, g5]
    refine ⟨fun c21 => ?_, fun c21 => ?_⟩
    · skip
      intro x22 hx22
      refine ⟨_, cn_lt2 hn35 ?_ ?_, rfl, ?_⟩
      · clear h; rw [hx22]; exact u.1  -- d23
      · clear h; rw [hx22]; exact u.2.1  -- d24
      · clear h; rw [hx22]; exact ⟨g1, g2, g3, g4, rfl, u.2.2.1, u.2.2.2.1⟩  -- i25
    · skip
      have w := uk d0 c21 r5k
      unfold w_isFree_62
      refine ⟨fun n l1 l2 l3 l4 l5 l6 l7 l8 τ => n = (σ.1 71 - l8).toNatClampNeg ∧ (l1 = a1 ∧ l2 = a2 ∧ l3 = a3 ∧ l4 = a4 ∧ l5 = x35_5 ∧ l6 = x47_6 ∧ τ = σ_8 ∧ 0 ≤ l8 ∧ l8 ≤ σ.1 71), ⟨_, rfl, ?_⟩, ?_⟩
      · clear h; exact ⟨g1, g2, g3, g4, rfl, rfl, rfl, by decide, hO.1.2.1.1⟩  -- j26
      rintro n62 x62_1 x62_2 x62_3 x62_4 x62_5 x62_6 x62_7 x62_8 σ62 ⟨hn62, i62⟩
      have hj142 : ∀ (l1 : Int32) (l2 : Int32) (l3 : Int32) (l4 : Int32) (l5 : Int32) (l6 : Int32) (l8 : Int32) (s0 : Int32) (τ : rS), (l1 = a1 ∧ l2 = a2 ∧ l3 = a3 ∧ l4 = a4 ∧ l5 = x35_5 ∧ l6 = x47_6 ∧ τ = σ_8 ∧ l8 = x62_8 ∧ ¬ σ.1 71 ≤ x62_8) → w_isFree_142 C Q (fun l1' l2' l3' l4' l5' τ => ∃ k < n35, (fun n l1 l2 l3 l4 l5 τ => n = (r1 - l5).toNatClampNeg ∧ (l1 = a1 ∧ l2 = a2 ∧ l3 = a3 ∧ l4 = a4 ∧ τ = σ_8 ∧ 0 ≤ l5 ∧ l5 ≤ r1)) k l1' l2' l3' l4' l5' τ) (fun l1' l2' l3' l4' l5' l6' τ => ∃ k < n47, (fun n l1 l2 l3 l4 l5 l6 τ => n = (r5 - l6).toNatClampNeg ∧ (l1 = a1 ∧ l2 = a2 ∧ l3 = a3 ∧ l4 = a4 ∧ l5 = x35_5 ∧ τ = σ_8 ∧ 0 ≤ l6 ∧ l6 ≤ r5)) k l1' l2' l3' l4' l5' l6' τ) (fun l1' l2' l3' l4' l5' l6' l7' l8' τ => ∃ k < n62, (fun n l1 l2 l3 l4 l5 l6 l7 l8 τ => n = (σ.1 71 - l8).toNatClampNeg ∧ (l1 = a1 ∧ l2 = a2 ∧ l3 = a3 ∧ l4 = a4 ∧ l5 = x35_5 ∧ l6 = x47_6 ∧ τ = σ_8 ∧ 0 ≤ l8 ∧ l8 ≤ σ.1 71)) k l1' l2' l3' l4' l5' l6' l7' l8' τ) l1 l2 l3 l4 l5 l6 l8 s0 τ := by
        rintro y142_1 y142_2 y142_3 y142_4 y142_5 y142_6 y142_8 y142_s0 τ142 j142
        unfold w_isFree_142
        intro x23 hx23
        obtain ⟨t1, t2, t3, t4, t5, t6, t7, t8, t9⟩ := i62
        obtain ⟨y1, y2, y3, y4, y5, y6, y7, y8, y9⟩ := j142
        have z := uk t8 y9 n71
        refine ⟨_, cn_lt2 hn62 ?_ ?_, rfl, ?_⟩
        · clear h; rw [hx23, y8]; exact z.1  -- d27
        · clear h; rw [hx23, y8]; exact z.2.1  -- d28
        · clear h; rw [hx23, y8]; exact ⟨y1, y2, y3, y4, y5, y6, y7, z.2.2.1, z.2.2.2.1⟩  -- i29
      obtain ⟨t1, t2, t3, t4, t5, t6, t7, t8, t9⟩ := i62
      rw [t7, e71, t5, t6]
      refine ⟨fun c24 => ?_, fun c24 => ?_⟩
      · skip
        refine hj150 _ _ _ _ _ _ _ _ ?_
        · clear h; exact ⟨t1, t2, t3, t4, rfl, rfl, rfl, c21⟩  -- k30
      · skip
        refine ⟨fun c25 => ?_, fun c25 => ?_⟩
        · skip
          refine hj150 _ _ _ _ _ _ _ _ ?_
          · clear h; exact ⟨t1, t2, t3, t4, rfl, rfl, rfl, c21⟩  -- k31
        · skip
          have z := uk t8 c24 n71
          refine ⟨ib_1000.mpr ?_, ?_⟩
          · clear h; exact ⟨t8, z.2.2.2.2.2⟩  -- b32
          refine ⟨fun c26 => ?_, fun c26 => ?_⟩
          · skip
            refine hj142 _ _ _ _ _ _ _ _ _ ?_
            · clear h; exact ⟨t1, t2, t3, t4, rfl, rfl, rfl, rfl, c24⟩  -- k33
          · skip
            refine told_c hC  ?_ (fun r27 q29 => ?_)
            · clear h; rw [t1]; exact ⟨t8, z.2.2.2.2.2, p0, p1⟩  -- p34
            refine ⟨ib_1000.mpr ?_, ?_⟩
            · clear h; exact ⟨a0, u.2.2.2.2.2⟩  -- b35
            refine ⟨fun c30 => ?_, fun c30 => ?_⟩
            · skip
              refine hj142 _ _ _ _ _ _ _ _ _ ?_
              · clear h; exact ⟨t1, t2, t3, t4, rfl, rfl, rfl, rfl, c24⟩  -- k36
            · skip
              refine told_c hC  ?_ (fun r31 q33 => ?_)
              · clear h; rw [t2]; exact ⟨t8, z.2.2.2.2.2, p2, p3⟩  -- p37
              refine ⟨ib_1000.mpr ?_, ?_⟩
              · clear h; exact ⟨d0, w.2.2.2.2.2⟩  -- b38
              refine ⟨fun c34 => ?_, fun c34 => ?_⟩
              · skip
                refine hj142 _ _ _ _ _ _ _ _ _ ?_
                · clear h; exact ⟨t1, t2, t3, t4, rfl, rfl, rfl, rfl, c24⟩  -- k39
              · skip
                refine ⟨fun c35 => ?_, fun c35 => ?_⟩
                · skip
                  refine hj142 _ _ _ _ _ _ _ _ _ ?_
                  · clear h; exact ⟨t1, t2, t3, t4, rfl, rfl, rfl, rfl, c24⟩  -- k40
                · skip
                  refine told_c hC  ?_ (fun r36 q38 => ?_)
                  · clear h; rw [t3] at c35 ⊢
                    have q := p4.resolve_left c35
                    exact ⟨t8, z.2.2.2.2.2, q.1, q.2⟩
                  refine ⟨fun c39 => ?_, fun c39 => ?_⟩
                  · skip
                    refine hj142 _ _ _ _ _ _ _ _ _ ?_
                    · clear h; exact ⟨t1, t2, t3, t4, rfl, rfl, rfl, rfl, c24⟩  -- k42
                  · skip
                    refine hj142 _ _ _ _ _ _ _ _ _ ?_
                    · clear h; exact ⟨t1, t2, t3, t4, rfl, rfl, rfl, rfl, c24⟩  -- k43

theorem independent_c {C : rCx} (hC : cOK C) (s : Nat) {σ : rS} {a1 : Int32} {a2 : Int32} {Q : Int32 → rS → Prop} (hp : pOK σ ∧ s = (σ.1 70).toNatClampNeg ∧ (σ.1 94 ≠ 0 → ∀ k, k < s → vOK σ k) ∧ σ.1 15 + σ.1 17 ≤ 34) (h : ∀ (v : Int32) (σ' : rS), (frU ifF ifR ifL σ σ') → Q v σ') : cI C 9 m_independent [.ref (co C), .int a1, .int a2] σ Q := by
  refine m_independent_run hC ?_
  unfold w_independent_0
  obtain ⟨hO, hs, hv, h34⟩ := hp
  have hj33 : ∀ (l1 : Int32) (l2 : Int32) (s1 : Int32) (τ : rS), (l1 = a1 ∧ l2 = a2 ∧ τ = σ ∧ (s1 ≤ 0 → σ.1 94 ≠ 0 ∧ (0 ≤ a1 ∧ a1 < σ.1 15 + σ.1 17) ∧ (0 ≤ a2 ∧ a2 < σ.1 15 + σ.1 17))) → w_independent_33 C Q  l1 l2 s1 τ := by
    rintro y33_1 y33_2 y33_s1 τ33 j33
    unfold w_independent_33
    intro σ_1 hσ_1
    obtain ⟨y1, y2, y3, y4⟩ := j33
    have U1 : frU ifF ifR ifL σ σ_1 := by rw [hσ_1, y3]; exact frU_0 (by decide)
    have e0 : σ_1.1 0 = y33_s1 := by rw [hσ_1]; rfl
    rw [y1, y2]
    refine ⟨fun c2 => ?_, fun c2 => ?_⟩
    · skip
      refine findHeavy_c hC  ?_ (fun σ_3 q4 => ?_)
      · clear h; exact pOK_U hO U1  -- p1
      refine isFree_c hC s ?_ (fun r5 σ_6 q7 => ?_)
      · clear h; have c := y4 (by rw [← e0]; exact c2)
        have U3 := frU_tr U1 (frU_X q4 (sub_of rfl) (by decide) (by decide))
        exact ⟨pOK_U hO U3, by rw [U3.1 70 (by decide)]; exact hs, fun k hk => vOK_U (hv c.1 k hk) U3, c.2.1.1, Int32.lt_of_lt_of_le c.2.1.2 h34, c.2.2.1, Int32.lt_of_lt_of_le c.2.2.2 h34, Or.inl rfl⟩
      refine ⟨?_, h _ _ ?_⟩
      · clear h; exact q7.2  -- b3
      · clear h; exact frU_tr (frU_tr U1 (frU_X q4 (sub_of rfl) (by decide) (by decide))) (frU_w q7.1 (fun k hk => hk) (sub_of rfl) (fun k hk => hk))  -- q4
    · skip
      refine h _ _ ?_
      · clear h; exact U1  -- q5
  refine ⟨fun c8 => ?_, fun c8 => ?_⟩
  · skip
    refine isGlobal_c hC  (fun r9 q11 => ?_)
    refine ⟨fun c12 => ?_, fun c12 => ?_⟩
    · skip
      refine hj33 _ _ _ _ ?_
      · clear h; exact ⟨rfl, rfl, rfl, fun z => absurd z (by decide)⟩  -- k6
    · skip
      refine isGlobal_c hC  (fun r13 q15 => ?_)
      refine ⟨fun c16 => ?_, fun c16 => ?_⟩
      · skip
        refine hj33 _ _ _ _ ?_
        · clear h; exact ⟨rfl, rfl, rfl, fun _ => ⟨c8, q11.2.mp c12, q15.2.mp c16⟩⟩  -- k7
      · skip
        refine hj33 _ _ _ _ ?_
        · clear h; exact ⟨rfl, rfl, rfl, fun z => absurd z (by decide)⟩  -- k8
  · skip
    refine hj33 _ _ _ _ ?_
    · clear h; exact ⟨rfl, rfl, rfl, fun z => absurd z (by decide)⟩  -- k9

theorem given_c {C : rCx} (hC : cOK C) (s : Nat) {σ : rS} {a1 : Int32} {a2 : Int32} {a3 : Int32} {Q : Int32 → rS → Prop} (hp : pOK σ ∧ s = (σ.1 70).toNatClampNeg ∧ (σ.1 94 ≠ 0 → ∀ k, k < s → vOK σ k) ∧ σ.1 15 + σ.1 17 ≤ 34) (h : ∀ (v : Int32) (σ' : rS), (frU ifF ifR ifL σ σ') → Q v σ') : cI C 9 m_given [.ref (co C), .int a1, .int a2, .int a3] σ Q := by
  refine m_given_run hC ?_
  unfold w_given_0
  obtain ⟨hO, hs, hv, h34⟩ := hp
  have n71 := hO.1.2.1.2
  have hj41 : ∀ (l1 : Int32) (l2 : Int32) (l3 : Int32) (s1 : Int32) (τ : rS), (l1 = a1 ∧ l2 = a2 ∧ l3 = a3 ∧ τ = σ ∧ (s1 ≤ 0 → σ.1 94 ≠ 0 ∧ (0 ≤ a1 ∧ a1 < σ.1 15 + σ.1 17) ∧ (0 ≤ a2 ∧ a2 < σ.1 15 + σ.1 17) ∧ (0 ≤ a3 ∧ a3 < σ.1 15 + σ.1 17))) → w_given_41 C Q  l1 l2 l3 s1 τ := by
    rintro y41_1 y41_2 y41_3 y41_s1 τ41 j41
    unfold w_given_41
    intro σ_1 hσ_1
    obtain ⟨y1, y2, y3, y4, y5⟩ := j41
    have U1 : frU ifF ifR ifL σ σ_1 := by rw [hσ_1, y4]; exact frU_0 (by decide)
    have e0 : σ_1.1 0 = y41_s1 := by rw [hσ_1]; rfl
    rw [y1, y2, y3]
    refine ⟨fun c2 => ?_, fun c2 => ?_⟩
    · skip
      refine findHeavy_c hC  ?_ (fun σ_3 q4 => ?_)
      · clear h; exact pOK_U hO U1  -- p1
      have c := y5 (by rw [← e0]; exact c2)
      have U3 := frU_tr U1 (frU_X q4 (sub_of rfl) (by decide) (by decide))
      refine list_c hC  ?_ (fun r5 σ_6 q7 => ?_)
      · clear h; exact ⟨Or.inr (Or.inr rfl), (pOK_U hO U3).1, c.2.2.2.1, Int32.lt_of_lt_of_le c.2.2.2.2 h34, Or.inl rfl⟩  -- p2
      have U6 := frU_tr U3 (frU_X q7.1 (sub_of rfl) (by decide) (by decide))
      have r5k : r5 ≤ 1000 := Int32.le_trans q7.2.2 (by rw [U3.1 71 (by decide)]; exact n71)
      unfold w_given_76
      refine ⟨fun n l1 l2 l3 l4 l5 l6 τ => n = (r5 - l6).toNatClampNeg ∧ (l1 = a1 ∧ l2 = a2 ∧ l3 = a3 ∧ frU ifF ifR ifL σ τ ∧ l4 = r5 ∧ nb l5 ∧ 0 ≤ l6 ∧ l6 ≤ r5), ⟨_, rfl, ?_⟩, ?_⟩
      · clear h; exact ⟨rfl, rfl, rfl, U6, rfl, nb_1, by decide, q7.2.1⟩  -- j3
      rintro n76 x76_1 x76_2 x76_3 x76_4 x76_5 x76_6 σ76 ⟨hn76, i76⟩
      obtain ⟨g1, g2, g3, H, g4, g5, d0, d1⟩ := i76
      rw [g4]
      refine ⟨fun c8 => ?_, fun c8 => ?_⟩
      · skip
        refine ⟨?_, h _ _ ?_⟩
        · clear h; exact g5  -- b4
        · clear h; exact H  -- q5
      · skip
        refine ⟨fun c9 => ?_, fun c9 => ?_⟩
        · skip
          refine ⟨?_, h _ _ ?_⟩
          · clear h; exact g5  -- b6
          · clear h; exact H  -- q7
        · skip
          have w := uk d0 c8 r5k
          refine ⟨ib_1000.mpr ?_, ?_⟩
          · clear h; exact ⟨d0, w.2.2.2.2.2⟩  -- b8
          refine isFree_c hC s ?_ (fun r10 σ_11 q12 => ?_)
          · clear h; rw [g1, g2, g3]
            exact ⟨pOK_U hO H, by rw [H.1 70 (by decide)]; exact hs, fun k hk => vOK_U (hv c.1 k hk) H, c.2.1.1, Int32.lt_of_lt_of_le c.2.1.2 h34, c.2.2.1.1, Int32.lt_of_lt_of_le c.2.2.1.2 h34, Or.inr ⟨c.2.2.2.1, Int32.lt_of_lt_of_le c.2.2.2.2 h34⟩⟩
          intro x13 hx13
          refine ⟨_, cn_lt2 hn76 ?_ ?_, rfl, ?_⟩
          · clear h; rw [hx13]; exact w.1  -- d10
          · clear h; rw [hx13]; exact w.2.1  -- d11
          · clear h; rw [hx13]; exact ⟨g1, g2, g3, frU_tr H (frU_w q12.1 (fun k hk => hk) (sub_of rfl) (fun k hk => hk)), rfl, q12.2, w.2.2.1, w.2.2.2.1⟩  -- i12
    · skip
      refine h _ _ ?_
      · clear h; exact U1  -- q13
  refine ⟨fun c14 => ?_, fun c14 => ?_⟩
  · skip
    refine isGlobal_c hC  (fun r15 q17 => ?_)
    refine ⟨fun c18 => ?_, fun c18 => ?_⟩
    · skip
      refine hj41 _ _ _ _ _ ?_
      · clear h; exact ⟨rfl, rfl, rfl, rfl, fun z => absurd z (by decide)⟩  -- k14
    · skip
      refine isGlobal_c hC  (fun r19 q21 => ?_)
      refine ⟨fun c22 => ?_, fun c22 => ?_⟩
      · skip
        refine hj41 _ _ _ _ _ ?_
        · clear h; exact ⟨rfl, rfl, rfl, rfl, fun z => absurd z (by decide)⟩  -- k15
      · skip
        refine isGlobal_c hC  (fun r23 q25 => ?_)
        refine ⟨fun c26 => ?_, fun c26 => ?_⟩
        · skip
          refine hj41 _ _ _ _ _ ?_
          · clear h; exact ⟨rfl, rfl, rfl, rfl, fun _ => ⟨c14, q17.2.mp c18, q21.2.mp c22, q25.2.mp c26⟩⟩  -- k16
        · skip
          refine hj41 _ _ _ _ _ ?_
          · clear h; exact ⟨rfl, rfl, rfl, rfl, fun z => absurd z (by decide)⟩  -- k17
  · skip
    refine hj41 _ _ _ _ _ ?_
    · clear h; exact ⟨rfl, rfl, rfl, rfl, fun z => absurd z (by decide)⟩  -- k18

end
section
set_option maxHeartbeats 1600000
/-! the reference: drawn, played -/
theorem shr33 {x : Int64} : 0 ≤ ((x.toUInt64 >>> ((33 : Int32).toInt64.toUInt64 &&& Int64.toUInt64 63)).toInt64).toInt ∧ ((x.toUInt64 >>> ((33 : Int32).toInt64.toUInt64 &&& Int64.toUInt64 63)).toInt64).toInt < 2147483648 := by
  have e : ((x.toUInt64 >>> ((33 : Int32).toInt64.toUInt64 &&& Int64.toUInt64 63)).toInt64).toBitVec.toNat = x.toBitVec.toNat / 8589934592 := by
    rw [UInt64.toBitVec_toInt64, UInt64.toBitVec_shiftRight, Int64.toBitVec_toUInt64, BitVec.ushiftRight_eq', BitVec.toNat_ushiftRight, Nat.shiftRight_eq_div_pow]
    rfl
  have lt : x.toBitVec.toNat < 2 ^ 64 := x.toBitVec.isLt
  have t : ((x.toUInt64 >>> ((33 : Int32).toInt64.toUInt64 &&& Int64.toUInt64 63)).toInt64).toInt = (((x.toUInt64 >>> ((33 : Int32).toInt64.toUInt64 &&& Int64.toUInt64 63)).toInt64).toBitVec.toNat : Int) := BitVec.toInt_eq_toNat_of_lt (by rw [e]; omega)
  rw [t, e]
  omega
theorem mod_r {x t : Int64} (x0 : 0 ≤ x.toInt) (x1 : x.toInt < 2147483648) (h0 : 0 < t.toInt) (h1 : t.toInt ≤ 8000000) : 0 ≤ (x - x / t * t).toInt ∧ (x - x / t * t).toInt < t.toInt := by
  have q : (x / t).toInt = x.toInt / t.toInt := by
    rw [Int64.toInt_div_of_ne_right _ _ (fun e => by rw [e] at h0; exact absurd h0 (by decide)), Int.tdiv_eq_ediv_of_nonneg x0]
  have d := Int.emod_add_mul_ediv x.toInt t.toInt
  have r0 := Int.emod_nonneg x.toInt (by omega : t.toInt ≠ 0)
  have r1 := Int.emod_lt_of_pos x.toInt h0
  have q0 : 0 ≤ x.toInt / t.toInt := Int.ediv_nonneg x0 (by omega)
  have p0 : 0 ≤ t.toInt * (x.toInt / t.toInt) := Int.mul_nonneg (by omega) q0
  have m : (x / t * t).toInt = t.toInt * (x.toInt / t.toInt) := by
    rw [Int64.toInt_mul, q, Int.mul_comm]
    exact Int.bmod_eq_of_le (by omega) (by omega)
  have s : (x - x / t * t).toInt = x.toInt - t.toInt * (x.toInt / t.toInt) := by
    rw [Int64.toInt_sub, m]
    exact Int.bmod_eq_of_le (by omega) (by omega)
  omega
def drF (σ τ : rS) : Prop := τ.1 = σ.1 ∧ (∀ k, k ≠ 112 → τ.2.1 k = σ.2.1 k) ∧ τ.2.2 = σ.2.2
theorem dr_up {x : Int32} (x0 : 0 ≤ x) (h : x < 63) : 0 ≤ x + 1 ∧ x + 1 < 64 ∧ 0 ≤ 63 - (x + 1) ∧ 63 - (x + 1) < 63 - x ∧ x < 1000000 := by grind
theorem dr_lt {x n : Int32} (x0 : 0 ≤ x) (hx : x < n) (n1 : n ≤ 64) (h : x.toNatClampNeg + 1 ≠ n.toNatClampNeg) : x + 1 < n := by
  have a := cn_lt x0 hx
  have s := cn_succ x0 (Int32.lt_trans (Int32.lt_of_lt_of_le hx n1) (by decide))
  have y0 : 0 ≤ x + 1 := by grind
  exact cn_ltr y0 (Int32.le_trans x0 (Int32.le_of_lt hx)) (by omega)
theorem drawn_c {C : rCx} (hC : cOK C)  {σ : rS}  {Q : Int32 → rS → Prop} (hp : oW σ ∧ 0 ≤ σ.1 109 ∧ 0 ≤ σ.1 104 ∧ σ.1 104 ≤ 200 ∧ (σ.1 113 = 0 → σ.1 109 ≤ σ.1 104)) (h : ∀ (v : Int32) (σ' : rS), (drF σ σ' ∧ (v = -1 ∨ v = -2 ∨ (0 ≤ v ∧ v < σ.1 63 ∧ (σ.1 113 = 0 → σ.1 109 < σ.1 104)))) → Q v σ') : cI C 1 m_drawn [.ref (co C)] σ Q := by
  refine m_drawn_run hC ?_
  unfold w_drawn_0
  obtain ⟨W, h9, h4, h4', hle⟩ := hp
  have tp := Int32.lt_iff_toInt_lt.mp W.2.2.2.2.1
  have tl := ti W.2.2.2.2.2
  rw [Int32.toInt_zero] at tp
  rw [show (8000000 : Int32).toInt = 8000000 from rfl] at tl
  have wn : ∀ i, i < (σ.1 63).toNatClampNeg → 0 ≤ (σ.2.2.1 65 i).toInt := fun i hi => t0 (W.2.2.1 i hi).1
  refine ⟨fun c1 => ?_, fun c1 => ?_⟩
  · skip
    intro σ_2 hσ_2
    refine ⟨?_, ?_⟩
    · clear h; intro z
      have e := congrArg Int64.toInt z
      rw [Int32.toInt_toInt64, hσ_2] at e
      have e2 : (σ.1 66).toInt = 0 := e
      omega
    intro x3 hx3
    refine ⟨ib_64.mpr ?_, ?_⟩
    · clear h; exact ⟨by decide, by decide⟩  -- b2
    intro x4 hx4
    unfold w_drawn_97
    refine ⟨fun n l1 l3 l4 τ => n = (63 - l3).toNatClampNeg ∧ (τ = σ_2 ∧ l1 = x3 ∧ 0 ≤ l3 ∧ l3 < σ.1 63 ∧ l4.toInt = wsum (σ.2.2.1 65) (l3.toNatClampNeg + 1)), ⟨_, rfl, ?_⟩, ?_⟩
    · clear h; refine ⟨rfl, rfl, by decide, Int32.lt_of_lt_of_le (by decide) W.1, ?_⟩
      rw [hx4, Int32.toInt_toInt64, hσ_2]
      show (σ.2.2.1 65 0).toInt = 0 + (σ.2.2.1 65 0).toInt
      omega
    rintro n97 x97_1 x97_3 x97_4 σ97 ⟨hn97, i97⟩
    obtain ⟨e1, e2, a0, a1, S⟩ := i97
    have D : drF σ σ97 := by
      rw [e1, hσ_2]
      exact ⟨rfl, fun k hk => if_neg hk, rfl⟩
    have m := mod_r (shr33 (x := σ_2.2.1 112)).1 (shr33 (x := σ_2.2.1 112)).2 (t := (σ_2.1 66).toInt64) (by rw [Int32.toInt_toInt64, hσ_2]; exact tp) (by rw [Int32.toInt_toInt64, hσ_2]; exact tl)
    rw [← hx3, Int32.toInt_toInt64] at m
    have m2 : x3.toInt < (σ.1 66).toInt := by
      have z := m.2
      rw [hσ_2] at z
      exact z
    have l1 := cn_lt a0 a1
    refine ⟨fun c5 => ?_, fun c5 => ?_⟩
    · skip
      refine h _ _ ?_
      · clear h; exact ⟨D, Or.inr (Or.inr ⟨a0, a1, fun z => absurd z c1⟩)⟩  -- q4
    · skip
      intro x6 hx6
      have le := lg_le.mp (Int32.not_lt.mp c5)
      rw [e2] at le
      have le2 := Int64.le_iff_toInt_le.mp le
      have lt := dr_lt a0 a1 W.2.1 (fun e => by
        rw [S, e, ← W.2.2.2.1] at le2
        omega)
      have n64 : (σ.1 63).toNatClampNeg ≤ 64 := cn_le (y := 64) rfl W.2.1
      have nx : x97_3.toNatClampNeg + 1 ≠ (σ.1 63).toNatClampNeg := fun e => by
        rw [S, e, ← W.2.2.2.1] at le2
        omega
      have u := dr_up a0 (cn_ltr a0 (by decide) (by rw [show (63 : Int32).toNatClampNeg = 63 from rfl]; omega))
      have as := cn_succ a0 u.2.2.2.2
      refine ⟨ib_64.mpr ?_, ?_⟩
      · clear h; rw [hx6]; exact ⟨u.1, u.2.1⟩  -- b5
      intro x7 hx7
      refine ⟨_, cn_lt2 hn97 ?_ ?_, rfl, ?_⟩
      · clear h; rw [hx6]; exact u.2.2.1  -- d6
      · clear h; rw [hx6]; exact u.2.2.2.1  -- d7
      · clear h; refine ⟨e1, e2, by rw [hx6]; exact u.1, by rw [hx6]; exact lt, ?_⟩
        have r65 : σ97.2.2.1 65 = σ.2.2.1 65 := by rw [D.2.2]
        have k2 : x97_3.toNatClampNeg + 1 < (σ.1 63).toNatClampNeg := by
          have z := cn_lt u.1 lt
          rw [as] at z
          exact z
        rw [hx7, hx6, r65, as]
        show _ = wsum (σ.2.2.1 65) (x97_3.toNatClampNeg + 1) + (σ.2.2.1 65 (x97_3.toNatClampNeg + 1)).toInt
        have b1 := wsum_mono (m := x97_3.toNatClampNeg + 1) wn (by omega)
        have b0 := wsum_mono (m := 0) (n := x97_3.toNatClampNeg + 1) (fun i hi => wn i (by omega)) (Nat.zero_le _)
        have w0 := W.2.2.1 _ k2
        have w2 := ti w0.2
        rw [show (1000000 : Int32).toInt = 1000000 from rfl] at w2
        exact l64_add S (Int32.toInt_toInt64 _) b0 (by rw [← W.2.2.2.1] at b1; omega) (t0 w0.1) (by omega)
  · skip
    have le := hle c1
    refine ⟨fun c8 => ?_, fun c8 => ?_⟩
    · skip
      refine ⟨ib_200.mpr ?_, ?_⟩
      · clear h; exact ⟨h9, Int32.lt_of_lt_of_le (Int32.lt_of_le_of_ne le c8) h4'⟩  -- b9
      refine isSlot_c hC  (fun r9 q11 => ?_)
      refine ⟨fun c12 => ?_, fun c12 => ?_⟩
      · skip
        refine h _ _ ?_
        · clear h; exact ⟨⟨rfl, fun _ _ => rfl, rfl⟩, Or.inr (Or.inl rfl)⟩  -- q10
      · skip
        refine ⟨ib_200.mpr ?_, ?_⟩
        · clear h; exact ⟨h9, Int32.lt_of_lt_of_le (Int32.lt_of_le_of_ne le c8) h4'⟩  -- b11
        refine h _ _ ?_
        · clear h; have q := q11.2.mp c12
          exact ⟨⟨rfl, fun _ _ => rfl, rfl⟩, Or.inr (Or.inr ⟨q.1, q.2, fun _ => Int32.lt_of_le_of_ne le c8⟩)⟩
    · skip
      refine h _ _ ?_
      · clear h; exact ⟨⟨rfl, fun _ _ => rfl, rfl⟩, Or.inl rfl⟩  -- q13

theorem py_b {a : Int32} (h0 : 0 ≤ a) (h1 : a < 39) (h : a.toInt < 0 ∨ 4 < a.toInt) : 0 ≤ a - 5 ∧ a - 5 < 34 := by
  have x := t0 h0
  have y : 5 ≤ a := Int32.le_iff_toInt_le.mpr (by rw [show (5 : Int32).toInt = 5 from rfl]; omega)
  grind
theorem py_c {a s : Int32} (s0 : 0 ≤ s) (s1 : s ≤ 34) (h : a < 5 + s) : a < 39 := by grind
theorem played_c {C : rCx} (hC : cOK C)  {σ : rS} {a1 : Int32} {Q : Int64 → rS → Prop} (hp : 0 ≤ σ.1 15 + σ.1 17 ∧ σ.1 15 + σ.1 17 ≤ 34) (h : ∀ (v : Int64) (σ' : rS), (frT [0] [] σ σ') → Q v σ') : cJ C 0 m_played [.ref (co C), .int a1] σ Q := by
  refine m_played_run hC ?_
  unfold w_played_0
  have hj36 : ∀ (l1 : Int32) (s1 : Int32) (τ : rS), (l1 = a1 ∧ τ = σ ∧ (¬ 0 < s1 → 0 ≤ a1 ∧ a1 < 39)) → w_played_36 C Q  l1 s1 τ := by
    rintro y36_1 y36_s1 τ36 j36
    unfold w_played_36
    intro σ_1 hσ_1
    obtain ⟨y1, y2, y3⟩ := j36
    have F : frT [0] [] σ σ_1 := by rw [hσ_1, y2]; exact frT_0 (by decide)
    have e0 : σ_1.1 0 = y36_s1 := by rw [hσ_1]; rfl
    rw [y1]
    refine ⟨fun c2 => ?_, fun c2 => ?_⟩
    · skip
      refine h _ _ ?_
      · clear h; exact F  -- q1
    · skip
      refine ⟨fun c3 => ?_, fun c3 => ?_⟩
      · skip
        refine ⟨fun c4 => ?_, fun c4 => ?_, fun c4 => ?_, fun c4 => ?_, fun c4 => ?_, fun c4 => ?_⟩
        · skip
          refine ⟨ib_34.mpr ?_, ?_⟩
          · clear h; have w := y3 (by rw [← e0]; exact c2)
            exact py_b w.1 w.2 c4
          refine h _ _ ?_
          · clear h; exact F  -- q3
        · skip
          refine h _ _ ?_
          · clear h; exact F  -- q4
        · skip
          refine h _ _ ?_
          · clear h; exact F  -- q5
        · skip
          refine h _ _ ?_
          · clear h; exact F  -- q6
        · skip
          refine h _ _ ?_
          · clear h; exact F  -- q7
        · skip
          refine h _ _ ?_
          · clear h; exact F  -- q8
      · skip
        refine h _ _ ?_
        · clear h; exact F  -- q9
  have hj27 : ∀ (l1 : Int32) (s1 : Int32) (s2 : Int32) (s3 : Int32) (τ : rS), (l1 = a1 ∧ τ = σ ∧ s1 = a1 ∧ s2 = 5 ∧ 0 ≤ s3 ∧ s3 ≤ 34 ∧ 0 ≤ a1) → w_played_27 C Q  l1 s1 s2 s3 τ := by
    rintro y27_1 y27_s1 y27_s2 y27_s3 τ27 j27
    unfold w_played_27
    obtain ⟨y1, y2, y3, y4, y5, y6, y7⟩ := j27
    rw [y3, y4]
    refine ⟨fun c5 => ?_, fun c5 => ?_⟩
    · skip
      refine hj36 _ _ _ ?_
      · clear h; exact ⟨y1, y2, fun _ => ⟨y7, py_c y5 y6 c5⟩⟩  -- k10
    · skip
      refine hj36 _ _ _ ?_
      · clear h; exact ⟨y1, y2, fun z => absurd (by decide) z⟩  -- k11
  refine ⟨fun c6 => ?_, fun c6 => ?_⟩
  · skip
    refine hj36 _ _ _ ?_
    · clear h; exact ⟨rfl, rfl, fun z => absurd (by decide) z⟩  -- k12
  · skip
    refine ⟨fun c7 => ?_, fun c7 => ?_⟩
    · skip
      refine hj27 _ _ _ _ _ ?_
      · clear h; exact ⟨rfl, rfl, rfl, rfl, by decide, by decide, Int32.not_lt.mp c6⟩  -- k13
    · skip
      refine hj27 _ _ _ _ _ ?_
      · clear h; exact ⟨rfl, rfl, rfl, rfl, hp.1, hp.2, Int32.not_lt.mp c6⟩  -- k14

end
section
set_option maxHeartbeats 1600000
/-! the reference: play, walk -/
abbrev pyF : List Nat := [0, 10, 11, 12, 13, 46, 47, 48, 49, 58, 61, 62, 63, 66, 67, 106, 107, 108, 109]
abbrev pyR : List Nat := [50, 51, 52, 57, 59, 60, 64, 65, 68, 84, 111]
abbrev pyL : List Nat := [8, 13, 17, 18]
def frW (σ τ : rS) : Prop := (∀ k, k ∉ pyF → τ.1 k = σ.1 k) ∧ (∀ k, k ≠ 110 → k ≠ 112 → τ.2.1 k = σ.2.1 k) ∧ (∀ k, k ≠ 90 → k ≠ 91 → k ∉ pyR → τ.2.2.1 k = σ.2.2.1 k) ∧ (∀ k j, τ.2.2.2 k j = σ.2.2.2 k j) ∧ ∀ k, k ∉ pyL → τ.2.2.1 91 k = σ.2.2.1 91 k ∧ ∀ i, i < 40000 → τ.2.2.1 90 (40000 * k + i) = σ.2.2.1 90 (40000 * k + i)
theorem frW_rf {σ : rS} : frW σ σ := ⟨fun _ _ => rfl, fun _ _ _ => rfl, fun _ _ _ _ => rfl, fun _ _ => rfl, fun _ _ => ⟨rfl, fun _ _ => rfl⟩⟩
theorem frW_tr {σ τ υ : rS} (h : frW σ τ) (g : frW τ υ) : frW σ υ := ⟨fun k z => (g.1 k z).trans (h.1 k z), fun k z1 z2 => (g.2.1 k z1 z2).trans (h.2.1 k z1 z2), fun k z1 z2 z3 => (g.2.2.1 k z1 z2 z3).trans (h.2.2.1 k z1 z2 z3), fun k j => (g.2.2.2.1 k j).trans (h.2.2.2.1 k j), fun k z => ⟨(g.2.2.2.2 k z).1.trans (h.2.2.2.2 k z).1, fun i hi => ((g.2.2.2.2 k z).2 i hi).trans ((h.2.2.2.2 k z).2 i hi)⟩⟩
theorem frW_G {F R : List Nat} {σ τ : rS} (h : frG F R σ τ) (hF : ∀ k, k ∈ F → k ∈ pyF) (hR : ∀ k, k ∈ R → k ∈ pyR) : frW σ τ := by
  have r90 : τ.2.2.1 90 = σ.2.2.1 90 := h.2.2.1 90 (fun e => absurd (hR _ e) (by decide))
  have r91 : τ.2.2.1 91 = σ.2.2.1 91 := h.2.2.1 91 (fun e => absurd (hR _ e) (by decide))
  exact ⟨fun k z => h.1 k (fun e => z (hF k e)), fun k _ _ => h.2.1 k, fun k _ _ z => h.2.2.1 k (fun e => z (hR k e)), h.2.2.2, fun k _ => ⟨by rw [r91], fun i _ => by rw [r90]⟩⟩
theorem frW_N {l : List Nat} {σ τ : rS} (h : frN l σ τ) (hl : ∀ k, k ∈ l → k ∈ pyL) : frW σ τ := ⟨fun k _ => by rw [h.1], fun k _ _ => by rw [h.2.1], fun k z1 z2 _ => h.2.2.1 k z1 z2, fun k j => by rw [h.2.2.2.1], fun k z => h.2.2.2.2 k (fun e => z (hl k e))⟩
theorem frW_0 {σ : rS} {k : Nat} {x : Int32} (hk : k ∈ pyF) : frW σ (siU σ k x) := ⟨fun q z => if_neg (fun e => z (by rw [e]; exact hk)), fun _ _ _ => rfl, fun _ _ _ _ => rfl, fun _ _ => rfl, fun _ _ => ⟨rfl, fun _ _ => rfl⟩⟩
theorem frW_l {σ : rS} {x : Int64} : frW σ (slU σ 110 x) := ⟨fun _ _ => rfl, fun k z _ => if_neg z, fun _ _ _ _ => rfl, fun _ _ => rfl, fun _ _ => ⟨rfl, fun _ _ => rfl⟩⟩
theorem frW_1 {σ : rS} {i : Nat} {x : Int32} : frW σ (riU σ 111 i x) := ⟨fun _ _ => rfl, fun _ _ _ => rfl, fun k _ _ z => ri3 (fun e => z (by rw [e]; decide)), fun _ _ => rfl, fun _ _ => ⟨by rw [ri3 (by decide)], fun _ _ => by rw [ri3 (by decide)]⟩⟩
theorem frW_d {σ τ : rS} (h : drF σ τ) : frW σ τ := ⟨fun k _ => by rw [h.1], fun k _ z => h.2.1 k z, fun k _ _ _ => by rw [h.2.2], fun k j => by rw [h.2.2], fun k _ => ⟨by rw [h.2.2], fun i _ => by rw [h.2.2]⟩⟩
theorem rI_W {σ τ : rS} {B T : Int32} (h : rI σ B T) (f : frW σ τ) : rI τ B T := rI_gen h (fun k hk => f.1 k ((by decide : ∀ k, k ∈ [15, 16, 17, 18, 19, 40, 41, 42] → k ∉ pyF) k hk)) (fun k hk => f.2.2.1 k ((by decide : ∀ k, k ∈ [5, 7, 20, 22, 23, 24, 25, 26, 27, 28, 29, 30, 31, 32, 33, 34, 35, 36, 37, 38, 39, 43, 44] → k ≠ 90) k hk) ((by decide : ∀ k, k ∈ [5, 7, 20, 22, 23, 24, 25, 26, 27, 28, 29, 30, 31, 32, 33, 34, 35, 36, 37, 38, 39, 43, 44] → k ≠ 91) k hk) ((by decide : ∀ k, k ∈ [5, 7, 20, 22, 23, 24, 25, 26, 27, 28, 29, 30, 31, 32, 33, 34, 35, 36, 37, 38, 39, 43, 44] → k ∉ pyR) k hk))
theorem exP_W {σ τ : rS} (h : exP σ) (f : frW σ τ) : exP τ := exP_o h (fun k hk => f.1 k (by rcases hk with z | z | z | z <;> rw [z] <;> decide)) (fun k hk => f.2.2.1 k (by omega) (by omega) (by rcases hk with z | z | z | z | z | z | z | z <;> rw [z] <;> decide))
theorem nu90 {σ τ : rS} {k : Nat} (h0 : τ.2.2.1 90 = σ.2.2.1 90) (h1 : τ.2.2.1 91 = σ.2.2.1 91) : (numO σ k → numO τ k) ∧ nV τ k = nV σ k ∧ nL τ k = nL σ k := by
  have l : nL τ k = nL σ k := by unfold nL; rw [h1]
  refine ⟨fun h => ?_, ?_, l⟩
  · unfold numO at *
    rw [l, h0, h1]
    exact h
  · unfold nV
    rw [l, h0]
/-- the chance of a run so far -/
def pyN (σ : rS) : Prop := numO σ 17 ∧ numO σ 18 ∧ 0 < nV σ 18 ∧ nL σ 17 ≤ 4 * (σ.1 109).toNatClampNeg + 4 ∧ nL σ 18 ≤ 4 * (σ.1 109).toNatClampNeg + 4
def pyQ (σ : rS) : Prop := numO σ 17 ∧ numO σ 18 ∧ 0 < nV σ 18 ∧ nL σ 17 + 1 < 40000 ∧ nL σ 18 + 1 < 40000
theorem pyN_r {σ τ : rS} (h : pyN σ) (h0 : τ.2.2.1 90 = σ.2.2.1 90) (h1 : τ.2.2.1 91 = σ.2.2.1 91) (h2 : τ.1 109 = σ.1 109) : pyN τ := by
  have a := nu90 (k := 17) h0 h1
  have b := nu90 (k := 18) h0 h1
  unfold pyN
  rw [a.2.2, b.2.2, b.2.1, h2]
  exact ⟨a.1 h.1, b.1 h.2.1, h.2.2⟩
theorem pyQ_r {σ τ : rS} (h : pyQ σ) (h0 : τ.2.2.1 90 = σ.2.2.1 90) (h1 : τ.2.2.1 91 = σ.2.2.1 91) : pyQ τ := by
  have a := nu90 (k := 17) h0 h1
  have b := nu90 (k := 18) h0 h1
  unfold pyQ
  rw [a.2.2, b.2.2, b.2.1]
  exact ⟨a.1 h.1, b.1 h.2.1, h.2.2⟩
theorem pyN_G {F R : List Nat} {σ τ : rS} (h : pyN σ) (f : frG F R σ τ) (h0 : 90 ∉ R) (h1 : 91 ∉ R) (h2 : 109 ∉ F) : pyN τ := pyN_r h (f.2.2.1 90 h0) (f.2.2.1 91 h1) (f.1 109 h2)
theorem pyQ_N {σ : rS} (h : pyN σ) (h1 : σ.1 109 ≤ 2000) : pyQ σ := by
  have n : (σ.1 109).toNatClampNeg ≤ 2000 := cn_le (y := 2000) rfl h1
  have a := h.2.2.2.1
  have b := h.2.2.2.2
  exact ⟨h.1, h.2.1, h.2.2.1, by omega, by omega⟩
theorem py_1 {x : Int32} (h0 : 0 ≤ x) (h1 : x ≤ 2000) : x ≤ x + 1 ∧ x + 1 ≤ x + 1 ∧ x < 1000000 := by grind
theorem py_2 {x y : Int32} (h0 : 0 ≤ x) (h : x < y) (hy : y ≤ 200) : x + 1 ≤ y := by grind
theorem draws_c {C : rCx} (hC : cOK C) (B T : Int32) {σ : rS}  {Q : Int32 → rS → Prop} (hp : rI σ B T ∧ csF σ ∧ plV (σ.1 67) ∧ oW σ ∧ pyN σ ∧ 0 ≤ σ.1 109 ∧ σ.1 109 ≤ 2000 ∧ 0 ≤ σ.1 104 ∧ σ.1 104 ≤ 200 ∧ (σ.1 113 = 0 → σ.1 109 ≤ σ.1 104)) (h : ∀ (v : Int32) (σ' : rS), (frW σ σ' ∧ pyN σ' ∧ σ.1 109 ≤ σ'.1 109 ∧ σ'.1 109 ≤ σ.1 109 + 1 ∧ (σ.1 113 = 0 → σ'.1 109 ≤ σ.1 104) ∧ ((v = 5 ∧ σ'.1 108 = σ.1 108 - 1 ∧ σ'.1 109 = σ.1 109) ∨ (σ'.1 108 = σ.1 108 ∧ ((v = 0 ∧ csF σ') ∨ v = 1 ∨ v = 2)))) → Q v σ') : cI C 4 m_draws [.ref (co C)] σ Q := by
  refine m_draws_run hC ?_
  unfold w_draws_0
  obtain ⟨hI, cF, pV, W, N, n0, n1, u0, u1, ule⟩ := hp
  have n2000 : (σ.1 109).toNatClampNeg ≤ 2000 := cn_le (y := 2000) rfl n1
  have p1' := py_1 n0 n1
  have ns := cn_succ n0 p1'.2.2
  refine drawn_c hC  ?_ (fun r1 σ_2 q3 => ?_)
  · clear h; exact ⟨W, n0, u0, u1, ule⟩  -- p1
  refine ⟨fun c4 => ?_, fun c4 => ?_⟩
  · skip
    refine ⟨fun c5 => ?_, fun c5 => ?_⟩
    · skip
      intro σ_6 hσ_6
      refine ⟨ib_64.mpr ?_, ?_⟩
      · clear h; have r := (q3.2.resolve_left c4).resolve_left c5
        exact ⟨r.1, Int32.lt_of_lt_of_le r.2.1 W.2.1⟩
      refine set_c hC  ?_ (fun σ_7 q8 => ?_)
      · clear h; have r := (q3.2.resolve_left c4).resolve_left c5
        have e6 : σ_6.2.2 = σ.2.2 := by rw [hσ_6]; exact q3.1.2.2
        have w8 := W.2.2.1 r1.toNatClampNeg (cn_lt r.1 r.2.1)
        rw [e6]; exact ⟨by decide, by decide, l64_0 (Int32.toInt_toInt64 _) (t0 w8.1)⟩
      simp only [kn] at q8
      have r := (q3.2.resolve_left c4).resolve_left c5
      have e6 : σ_6.2.2 = σ.2.2 := by rw [hσ_6]; exact q3.1.2.2
      have f6 : ∀ k, k ≠ 109 → σ_6.1 k = σ.1 k := fun k hk => by
        rw [hσ_6]
        show (if k = 109 then _ else σ_2.1 k) = _
        rw [if_neg hk, q3.1.1]
      have g6 : σ_6.1 109 = σ.1 109 + 1 := by
        rw [hσ_6]
        show σ_2.1 109 + 1 = _
        rw [q3.1.1]
      have F6 : frW σ σ_6 := by rw [hσ_6]; exact frW_tr (frW_d q3.1) (frW_0 (by decide))
      have a17 := nu90 (k := 17) (σ := σ) (τ := σ_6) (by rw [e6]) (by rw [e6])
      have a18 := nu90 (k := 18) (σ := σ) (τ := σ_6) (by rw [e6]) (by rw [e6])
      have o17 := a17.1 N.1
      have o18 := a18.1 N.2.1
      have w8 := W.2.2.1 r1.toNatClampNeg (cn_lt r.1 r.2.1)
      have b17 := nV_fr q8.1 (k := 17) (by decide) o17
      refine times_c hC  ?_ (fun σ_9 q10 => ?_)
      · clear h; simp only [kn, kn2]
        exact ⟨by decide, by decide, by decide, by decide, by decide, by decide, by decide, by decide, b17.1, q8.2.1, by have := q8.2.2.2; have := b17.2.2; have := a17.2.2; have := N.2.2.2.1; omega⟩
      simp only [kn, kn2] at q10
      refine copy_v hC  ?_ (fun σ_11 q12 => ?_)
      · clear h; simp only [kn, kn2]; exact ⟨by decide, by decide, by decide, by decide, by decide, q10.2.1⟩  -- p5
      simp only [kn, kn2] at q12
      have e11 : σ_11.1 = σ_6.1 := by rw [q12.1.1, q10.1.1, q8.1.1]
      refine set_c hC  ?_ (fun σ_13 q14 => ?_)
      · clear h; rw [e11, f6 66 (by decide)]
        exact ⟨by decide, by decide, l64_0 (Int32.toInt_toInt64 _) (t0 (Int32.le_of_lt W.2.2.2.2.1))⟩
      simp only [kn] at q14
      rw [e11, f6 66 (by decide), Int32.toInt_toInt64] at q14
      have b18 := nV_fr q8.1 (k := 18) (by decide) o18
      have c18 := nV_fr q10.1 (k := 18) (by decide) b18.1
      have d18 := nV_fr q12.1 (k := 18) (by decide) c18.1
      have x18 := nV_fr q14.1 (k := 18) (by decide) d18.1
      have p66 : 0 < (σ.1 66).toInt.toNat := by
        have z := Int32.lt_iff_toInt_lt.mp W.2.2.2.2.1
        rw [Int32.toInt_zero] at z
        omega
      refine times_c hC  ?_ (fun σ_15 q16 => ?_)
      · clear h; simp only [kn, kn2]
        exact ⟨by decide, by decide, by decide, by decide, by decide, by decide, by decide, by decide, x18.1, q14.2.1, by have := q14.2.2.2; have := x18.2.2; have := d18.2.2; have := c18.2.2; have := b18.2.2; have := a18.2.2; have := N.2.2.2.2; omega⟩
      simp only [kn, kn2] at q16
      refine copy_v hC  ?_ (fun σ_17 q18 => ?_)
      · clear h; simp only [kn, kn2]; exact ⟨by decide, by decide, by decide, by decide, by decide, q16.2.1⟩  -- p8
      simp only [kn, kn2] at q18
      have e17 : σ_17.1 = σ_6.1 := by rw [q18.1.1, q16.1.1, q14.1.1, e11]
      have F17 : frW σ σ_17 := frW_tr F6 (frW_tr (frW_N q8.1 (sub_of rfl)) (frW_tr (frW_N q10.1 (sub_of rfl)) (frW_tr (frW_N q12.1 (sub_of rfl)) (frW_tr (frW_N q14.1 (sub_of rfl)) (frW_tr (frW_N q16.1 (sub_of rfl)) (frW_N q18.1 (sub_of rfl)))))))
      have r17 : ∀ k, k ≠ 90 → k ≠ 91 → σ_17.2.2.1 k = σ.2.2.1 k := fun k z1 z2 => by rw [q18.1.2.2.1 k z1 z2, q16.1.2.2.1 k z1 z2, q14.1.2.2.1 k z1 z2, q12.1.2.2.1 k z1 z2, q10.1.2.2.1 k z1 z2, q8.1.2.2.1 k z1 z2, e6]
      have y17 := nV_fr q18.1 (k := 17) (by decide) (nV_fr q16.1 (k := 17) (by decide) (nV_fr q14.1 (k := 17) (by decide) q12.2.1).1).1
      have y17l : nL σ_17 17 = nL σ_11 17 := by rw [y17.2.2, (nV_fr q16.1 (k := 17) (by decide) (nV_fr q14.1 (k := 17) (by decide) q12.2.1).1).2.2, (nV_fr q14.1 (k := 17) (by decide) q12.2.1).2.2]
      have N17 : pyN σ_17 := by
        unfold pyN
        rw [e17, g6, ns]
        refine ⟨y17.1, q18.2.1, ?_, ?_, ?_⟩
        · rw [q18.2.2.1, q16.2.2.1, q14.2.2.1, x18.2.1, d18.2.1, c18.2.1, b18.2.1, a18.2.1]
          exact Nat.mul_pos N.2.2.1 p66
        · have := q12.2.2.2
          have := q10.2.2.2
          have := q8.2.2.2
          have := b17.2.2
          have := a17.2.2
          have := N.2.2.2.1
          omega
        · have := q18.2.2.2
          have := q16.2.2.2
          have := q14.2.2.2
          have := x18.2.2
          have := d18.2.2
          have := c18.2.2
          have := b18.2.2
          have := a18.2.2
          have := N.2.2.2.2
          omega
      refine get_c hC B T ?_ (fun r19 σ_20 q21 => ?_)
      · clear h; exact ⟨rI_W hI F17, csF_o cF (r17 59 (by decide) (by decide)) (r17 30 (by decide) (by decide)) (by rw [e17]; exact f6 19 (by decide)) (by rw [e17]; exact f6 58 (by decide)), by rw [e17, f6 67 (by decide)]; exact pV, r.1, Int32.lt_of_lt_of_le r.2.1 W.2.1⟩  -- p9
      refine h _ _ ?_
      · clear h; have e9 : σ_20.1 109 = σ.1 109 + 1 := by rw [q21.1.1 109 (by decide), e17, g6]
        refine ⟨frW_tr F17 (frW_G q21.1 (sub_of rfl) (sub_of rfl)), pyN_G N17 q21.1 (by decide) (by decide) (by decide), by rw [e9]; exact p1'.1, by rw [e9]; exact Int32.le_refl _, fun z => by rw [e9]; exact py_2 n0 (r.2.2 z) u1, Or.inr ⟨by rw [q21.1.1 108 (by decide), e17]; exact f6 108 (by decide), ?_⟩⟩
        rcases q21.2 with z | z
        · exact Or.inl z
        · exact Or.inr (Or.inl z)
    · skip
      refine fail_c hC  (fun r22 σ_23 q24 => ?_)
      refine h _ _ ?_
      · clear h; have e2 : σ_23.2 = σ_2.2 := q24.1.2
        have G : frG [61] [] σ_2 σ_23 := frG_61 q24.1 (by decide)
        have e9 : σ_23.1 109 = σ.1 109 := by rw [G.1 109 (by decide), q3.1.1]
        exact ⟨frW_tr (frW_d q3.1) (frW_G G (sub_of rfl) (sub_of rfl)), pyN_r N (by rw [e2, q3.1.2.2]) (by rw [e2, q3.1.2.2]) e9, by rw [e9]; exact Int32.le_refl _, by rw [e9]; exact p1'.1, fun z => by rw [e9]; exact ule z, Or.inr ⟨by rw [G.1 108 (by decide), q3.1.1], Or.inr (Or.inr q24.2)⟩⟩
  · skip
    intro σ_25 hσ_25
    refine h _ _ ?_
    · clear h; have e9 : σ_25.1 109 = σ.1 109 := by
        rw [hσ_25]
        show σ_2.1 109 = _
        rw [q3.1.1]
      have e8 : σ_25.1 108 = σ.1 108 - 1 := by
        rw [hσ_25]
        show σ_2.1 108 - 1 = _
        rw [q3.1.1]
      have e2 : σ_25.2.2 = σ.2.2 := by rw [hσ_25]; exact q3.1.2.2
      exact ⟨by rw [hσ_25]; exact frW_tr (frW_d q3.1) (frW_0 (by decide)), pyN_r N (by rw [e2]) (by rw [e2]) e9, by rw [e9]; exact Int32.le_refl _, by rw [e9]; exact p1'.1, fun z => by rw [e9]; exact ule z, Or.inl ⟨rfl, e8, e9⟩⟩

theorem chooses_c {C : rCx} (hC : cOK C) (B T : Int32) {σ : rS}  {Q : Int32 → rS → Prop} (hp : rI σ B T ∧ csF σ ∧ plV (σ.1 67) ∧ exP σ) (h : ∀ (v : Int32) (σ' : rS), (frG [58, 61] [57, 59, 60, 84] σ σ' ∧ ((v = 0 ∧ csF σ') ∨ v = 1)) → Q v σ') : cI C 4 m_chooses [.ref (co C)] σ Q := by
  refine m_chooses_run hC ?_
  unfold w_chooses_0
  obtain ⟨hI, cF, pV, hP⟩ := hp
  have hj15 : ∀ (s0 : Int32) (τ : rS), (frG [] [84] σ τ ∧ (s0 = -1 ∨ (0 ≤ s0 ∧ s0 < σ.1 70))) → w_chooses_15 C Q  s0 τ := by
    rintro y15_s0 τ15 j15
    unfold w_chooses_15
    obtain ⟨F, k⟩ := j15
    have I15 := rI_W hI (frW_G F (sub_of rfl) (sub_of rfl))
    have C15 := csF_o cF (F.2.2.1 59 (by decide)) (F.2.2.1 30 (by decide)) (F.1 19 (by decide)) (F.1 58 (by decide))
    have P15 : plV (τ15.1 67) := by rw [F.1 67 (by decide)]; exact pV
    refine ⟨fun c1 => ?_, fun c1 => ?_⟩
    · skip
      refine ⟨ib_1000.mpr ?_, ?_⟩
      · clear h; have q := k.resolve_left c1
        exact ⟨q.1, Int32.lt_of_lt_of_le q.2 hP.1.1.2⟩
      refine get_c hC B T ?_ (fun r2 σ_3 q4 => ?_)
      · clear h; have q := k.resolve_left c1
        have z := hP.2.2.1 y15_s0 q.1 q.2
        have st := hP.1.2.2.2.1 y15_s0 q.1 q.2
        refine ⟨I15, C15, P15, ?_⟩
        rw [F.2.2.1 83 (by decide)]
        by_cases e : rd σ 81 y15_s0 = 0
        · have z1 := z.1 e
          rw [rd] at z1
          rw [z1]
          decide
        · have z2 := z.2 e
          have l := st.2.2.2.2 e
          exact ⟨z2.1, Int32.lt_of_lt_of_le z2.2 (Int32.le_trans l (by decide))⟩
      refine h _ _ ?_
      · clear h; exact ⟨frG_tr (frG_mono F (sub_of rfl) (sub_of rfl)) (frG_mono q4.1 (sub_of rfl) (sub_of rfl)), q4.2⟩  -- q3
    · skip
      refine get_c hC B T ?_ (fun r5 σ_6 q7 => ?_)
      · clear h; exact ⟨I15, C15, P15, by decide, by decide⟩  -- p4
      refine h _ _ ?_
      · clear h; exact ⟨frG_tr (frG_mono F (sub_of rfl) (sub_of rfl)) (frG_mono q7.1 (sub_of rfl) (sub_of rfl)), q7.2⟩  -- q5
  refine ⟨fun c8 => ?_, fun c8 => ?_⟩
  · skip
    refine hj15 _ _ ?_
    · clear h; exact ⟨frG_refl, Or.inl rfl⟩  -- k6
  · skip
    refine stateNow_c hC  ?_ (fun r9 σ_10 q11 => ?_)
    · clear h; exact ⟨cF, hP.1.1.1, hP.1.1.2⟩  -- p7
    refine hj15 _ _ ?_
    · clear h; exact ⟨q11.1, q11.2.2⟩  -- k8

end
section
set_option maxHeartbeats 1600000
/-! the reference: the runs of play and walk -/
def pyI (σ τ : rS) (a : Int32) : Prop := frW σ τ ∧ pyN τ ∧ 0 ≤ τ.1 109 ∧ τ.1 109 ≤ τ.1 108 ∧ τ.1 108 ≤ a ∧ (σ.1 113 = 0 → τ.1 109 ≤ σ.1 104)
theorem go_m {x y a : Int32} (x0 : 0 ≤ x) (h : x < y) (ha : y ≤ a) (a1 : a ≤ 2000) : (a - y).toNatClampNeg < (a - x).toNatClampNeg := by
  have p : 0 ≤ a - y := by grind
  have q : a - y < a - x := by grind
  exact cn_lt p q
theorem go_s {x a : Int32} (x0 : 0 ≤ x) (h : x ≤ a) (hn : ¬ x = a) (a1 : a ≤ 2000) : x < x + 1 ∧ x + 1 ≤ a ∧ x + 1 - 1 = x := by grind
theorem go_d {c s a : Int32} (c0 : 0 ≤ c) (h : c < s) (h1 : s ≤ a) (a1 : a ≤ 2000) : c ≤ s - 1 ∧ s - 1 ≤ a ∧ c + 1 ≤ s ∧ 0 ≤ c + 1 ∧ c ≤ 2000 ∧ c ≤ s := by grind
theorem u34g {x : Int32} (h0 : 0 ≤ x) (h : ¬ 34 ≤ x) : 0 ≤ 34 - (x + 1) ∧ 34 - (x + 1) < 34 - x ∧ 0 ≤ x + 1 ∧ x + 1 ≤ 34 ∧ x < 34 := by grind
theorem go2_c {C : rCx} (hC : cOK C) (T : Int32) {σ : rS} {a1 : Int32} {Q : Int32 → rS → Prop} (hp : (σ.1 14 ≠ 0 → rI σ (σ.1 3) T) ∧ exP σ ∧ 0 ≤ σ.1 104 ∧ σ.1 104 ≤ 200 ∧ plN σ) (h : ∀ (v : Int32) (σ' : rS), (frW σ σ' ∧ plN σ') → Q v σ') : cI C 10 m_go2 [.ref (co C), .int a1] σ Q := by
  refine m_go2_run hC ?_
  unfold w_go2_0
  obtain ⟨hI, hP, t0', t1', hn⟩ := hp
  have hj213 : ∀ (s1 : Int32) (τ : rS), (frW σ τ ∧ pyQ τ) → w_go2_213 C Q  s1 τ := by
    rintro y213_s1 τ213 j213
    unfold w_go2_213
    intro σ_1 hσ_1
    unfold w_go2_219
    refine ⟨fun n l4 τ => n = (34 - l4).toNatClampNeg ∧ (frW σ τ ∧ pyQ τ ∧ 0 ≤ l4 ∧ l4 ≤ 34), ⟨_, rfl, ?_⟩, ?_⟩
    · clear h; have F : frW σ σ_1 := by rw [hσ_1]; exact frW_tr j213.1 (frW_0 (by decide))
      exact ⟨F, pyQ_r j213.2 (by rw [hσ_1]; rfl) (by rw [hσ_1]; rfl), by decide, by decide⟩
    rintro n219 x219_4 σ219 ⟨hn219, i219⟩
    obtain ⟨F, P, a0, a1'⟩ := i219
    refine ⟨fun c2 => ?_, fun c2 => ?_⟩
    · skip
      refine h _ _ ?_
      · clear h; exact ⟨F, fun _ => P⟩  -- q2
    · skip
      have u := u34g a0 c2
      refine ⟨ib_34.mpr ?_, ?_⟩
      · clear h; exact ⟨a0, u.2.2.2.2⟩  -- b3
      refine ⟨ib_34.mpr ?_, ?_⟩
      · clear h; exact ⟨a0, u.2.2.2.2⟩  -- b4
      intro σ_3 hσ_3
      intro x4 hx4
      refine ⟨_, cn_lt2 hn219 ?_ ?_, rfl, ?_⟩
      · clear h; rw [hx4]; exact u.1  -- d5
      · clear h; rw [hx4]; exact u.2.1  -- d6
      · clear h; rw [hx4]
        exact ⟨by rw [hσ_3]; exact frW_tr F frW_1, pyQ_r P (by rw [hσ_3, ri3 (by decide)]) (by rw [hσ_3, ri3 (by decide)]), u.2.2.1, u.2.2.2.1⟩
  have hj205 : ∀  (τ : rS), (frW σ τ ∧ pyQ τ) → w_go2_205 C Q   τ := by
    rintro  τ205 j205
    unfold w_go2_205
    refine hj213 _ _ ?_
    · clear h; exact j205  -- k8
  have hj185 : ∀ (s1 : Int32) (τ : rS), (frW σ τ ∧ pyQ τ) → w_go2_185 C Q  s1 τ := by
    rintro y185_s1 τ185 j185
    unfold w_go2_185
    intro σ_5 hσ_5
    refine ⟨fun c6 => ?_, fun c6 => ?_⟩
    · skip
      refine hj205 _ ?_
      · clear h; rw [hσ_5]; exact ⟨frW_tr j185.1 (frW_0 (by decide)), pyQ_r j185.2 rfl rfl⟩  -- k9
    · skip
      refine ⟨fun c7 => ?_, fun c7 => ?_⟩
      · skip
        refine hj213 _ _ ?_
        · clear h; rw [hσ_5]; exact ⟨frW_tr j185.1 (frW_0 (by decide)), pyQ_r j185.2 rfl rfl⟩  -- k10
      · skip
        refine hj205 _ ?_
        · clear h; rw [hσ_5]; exact ⟨frW_tr j185.1 (frW_0 (by decide)), pyQ_r j185.2 rfl rfl⟩  -- k11
  have hj175 : ∀ (l2 : Int32) (l3 : Int32) (τ : rS), (frW σ τ ∧ pyQ τ) → w_go2_175 C Q  l2 l3 τ := by
    rintro y175_2 y175_3 τ175 j175
    unfold w_go2_175
    refine ⟨fun c8 => ?_, fun c8 => ?_⟩
    · skip
      refine hj185 _ _ ?_
      · clear h; exact j175  -- k12
    · skip
      refine hj185 _ _ ?_
      · clear h; exact j175  -- k13
  have hj28 : ∀ (l1 : Int32) (s1 : Int32) (τ : rS), (l1 = a1 ∧ τ = σ ∧ (s1 ≤ 0 → σ.1 14 ≠ 0 ∧ 0 ≤ a1 ∧ a1 ≤ 2000)) → w_go2_28 C Q  l1 s1 τ := by
    rintro y28_1 y28_s1 τ28 j28
    unfold w_go2_28
    intro σ_9 hσ_9
    refine ⟨fun c10 => ?_, fun c10 => ?_⟩
    · skip
      intro σ_11 hσ_11
      intro σ_12 hσ_12
      intro σ_13 hσ_13
      refine set_c hC  ?_ (fun σ_14 q15 => ?_)
      · clear h; exact ⟨by decide, by decide, by decide⟩  -- p14
      simp only [kn2] at q15
      refine set_c hC  ?_ (fun σ_16 q17 => ?_)
      · clear h; exact ⟨by decide, by decide, by decide⟩  -- p15
      simp only [kn2] at q17
      obtain ⟨y1, y2, y3⟩ := j28
      have e0 : σ_9.1 0 = y28_s1 := by rw [hσ_9]; rfl
      have w := y3 (by rw [← e0]; exact c10)
      have F13 : frW σ σ_13 := by
        rw [hσ_13, hσ_12, hσ_11, hσ_9, y2]
        exact frW_tr (frW_tr (frW_tr (frW_0 (by decide)) (frW_0 (by decide))) (frW_0 (by decide))) frW_l
      have F16 : frW σ σ_16 := frW_tr F13 (frW_tr (frW_N q15.1 (sub_of rfl)) (frW_N q17.1 (sub_of rfl)))
      have e16 : σ_16.1 = σ_13.1 := by rw [q17.1.1, q15.1.1]
      have f108 : σ_16.1 108 = 0 := by rw [e16, hσ_13, hσ_12, hσ_11]; rfl
      have f109 : σ_16.1 109 = 0 := by rw [e16, hσ_13, hσ_12]; rfl
      have g17 := nV_fr q17.1 (k := 17) (by decide) q15.2.1
      have N16 : pyN σ_16 := ⟨g17.1, q17.2.1, by rw [q17.2.2.1]; decide, by have := g17.2.2; have := q15.2.2.2; omega, by have := q17.2.2.2; omega⟩
      refine begin_c hC (σ.1 3) T ?_ (fun r18 σ_19 q20 => ?_)
      · clear h; exact rI_W (hI w.1) F16  -- p16
      unfold w_go2_76
      refine ⟨fun n l1 l2 l3 τ => n = (if l2 = 0 ∧ l3 = 0 then (a1 - τ.1 108).toNatClampNeg + 1 else 0) ∧ (l1 = a1 ∧ pyI σ τ a1 ∧ (l2 = 0 → l3 = 0 → csF τ)), ⟨_, rfl, ?_⟩, ?_⟩
      · clear h; have G : frW σ σ_19 := frW_tr F16 (frW_G q20.1 (sub_of rfl) (sub_of rfl))
        have h108 : σ_19.1 108 = 0 := by rw [q20.1.1 108 (by decide)]; exact f108
        have h109 : σ_19.1 109 = 0 := by rw [q20.1.1 109 (by decide)]; exact f109
        refine ⟨y1, ⟨G, pyN_G N16 q20.1 (by decide) (by decide) (by decide), by rw [h109]; decide, by rw [h109, h108]; decide, by rw [h108]; exact w.2.1, fun _ => by rw [h109]; exact t0'⟩, fun e _ => ?_⟩
        rcases q20.2 with z | z
        · exact z.2
        · rw [z] at e; exact absurd e (by decide)
      rintro n76 x76_1 x76_2 x76_3 σ76 ⟨hn76, i76⟩
      have hj160 : ∀ (l1 : Int32) (s0 : Int32) (τ : rS), (l1 = a1 ∧ pyI σ τ a1 ∧ (s0 = 0 → csF τ) ∧ (s0 = 5 ∨ σ76.1 108 < τ.1 108) ∧ x76_2 = 0 ∧ x76_3 = 0) → w_go2_160 C Q (fun l1' l2' l3' τ => ∃ k < n76, (fun n l1 l2 l3 τ => n = (if l2 = 0 ∧ l3 = 0 then (a1 - τ.1 108).toNatClampNeg + 1 else 0) ∧ (l1 = a1 ∧ pyI σ τ a1 ∧ (l2 = 0 → l3 = 0 → csF τ))) k l1' l2' l3' τ) l1 s0 τ := by
        rintro y160_1 y160_s0 τ160 j160
        unfold w_go2_160
        obtain ⟨z1, P, zc, zd, z2, z3⟩ := j160
        obtain ⟨i1, I76, ic⟩ := i76
        refine ⟨fun c21 => ?_, fun c21 => ?_⟩
        · skip
          refine ⟨_, ?_, rfl, ?_⟩
          · clear h; have m : n76 = (a1 - σ76.1 108).toNatClampNeg + 1 := by rw [hn76, if_pos ⟨z2, z3⟩]
            rw [m]
            split
            · exact Nat.succ_lt_succ (go_m (Int32.le_trans I76.2.2.1 I76.2.2.2.1) (zd.resolve_left c21) P.2.2.2.2.1 w.2.2)
            · exact Nat.succ_pos _
          · clear h; exact ⟨z1, P, fun e _ => zc e⟩  -- i19
        · skip
          refine ⟨_, ?_, rfl, ?_⟩
          · clear h; have m : n76 = (a1 - σ76.1 108).toNatClampNeg + 1 := by rw [hn76, if_pos ⟨z2, z3⟩]
            rw [m, if_neg (fun z => absurd z.2 (by decide))]
            exact Nat.succ_pos _
          · clear h; exact ⟨z1, P, fun _ e => absurd e (by decide)⟩  -- i21
      have hj131 : ∀ (l1 : Int32) (l2 : Int32) (s1 : Int64) (s2 : Int64) (τ : rS), (l1 = a1 ∧ pyI σ τ a1 ∧ τ.1 109 < τ.1 108 ∧ σ76.1 108 < τ.1 108 ∧ acQ l2 τ ∧ x76_2 = 0 ∧ x76_3 = 0) → w_go2_131 C Q (fun l1' l2' l3' τ => ∃ k < n76, (fun n l1 l2 l3 τ => n = (if l2 = 0 ∧ l3 = 0 then (a1 - τ.1 108).toNatClampNeg + 1 else 0) ∧ (l1 = a1 ∧ pyI σ τ a1 ∧ (l2 = 0 → l3 = 0 → csF τ))) k l1' l2' l3' τ) l1 l2 s1 s2 τ := by
        rintro y131_1 y131_2 y131_s1 y131_s2 τ131 j131
        unfold w_go2_131
        intro σ_22 hσ_22
        obtain ⟨z1, P, zl, zm, A, z2, z3⟩ := j131
        obtain ⟨i1, I76, ic⟩ := i76
        have F22 : frW σ σ_22 := by rw [hσ_22]; exact frW_tr P.1 frW_l
        have P22 : pyI σ σ_22 a1 := ⟨F22, pyN_r P.2.1 (by rw [hσ_22]; rfl) (by rw [hσ_22]; rfl) (by rw [hσ_22]; rfl), by rw [hσ_22]; exact P.2.2.1, by rw [hσ_22]; exact P.2.2.2.1, by rw [hσ_22]; exact P.2.2.2.2.1, by rw [hσ_22]; exact P.2.2.2.2.2⟩
        have l22 : σ76.1 108 < σ_22.1 108 := by rw [hσ_22]; exact zm
        have k22' : σ_22.1 109 < σ_22.1 108 := by rw [hσ_22]; exact zl
        have I22 := rI_W (hI w.1) F22
        have gd := go_d P22.2.2.1 k22' P22.2.2.2.2.1 w.2.2
        refine ⟨fun c23 => ?_, fun c23 => ?_⟩
        · skip
          refine ⟨fun c24 => ?_, fun c24 => ?_⟩
          · skip
            refine hj160 _ _ _ ?_
            · clear h; refine ⟨z1, P22, fun e => ?_, Or.inr l22, z2, z3⟩
              rcases A with q | q | q | q | q | q
              · rw [hσ_22]; exact csF_o q.2 rfl rfl rfl rfl
              · rw [q] at e; exact absurd e (by decide)
              · rw [q] at e; exact absurd e (by decide)
              · rw [q] at e; exact absurd e (by decide)
              · exact absurd q.1 c23
              · exact absurd q.1 c24
          · skip
            refine chooses_c hC (σ.1 3) T ?_ (fun r25 σ_26 q27 => ?_)
            · clear h; rcases A with q | q | q | q | q | q
              · rw [q.1] at c24; exact absurd c24 (by decide)
              · rw [q] at c24; exact absurd c24 (by decide)
              · rw [q] at c24; exact absurd c24 (by decide)
              · rw [q] at c24; exact absurd c24 (by decide)
              · exact absurd q.1 c23
              · exact ⟨I22, by rw [hσ_22]; exact csF_o q.2.1 rfl rfl rfl rfl, by rw [hσ_22]; exact q.2.2.1, exP_W hP F22⟩
            refine hj160 _ _ _ ?_
            · clear h; have G : frW σ σ_26 := frW_tr F22 (frW_G q27.1 (sub_of rfl) (sub_of rfl))
              have h108 : σ_26.1 108 = σ_22.1 108 := q27.1.1 108 (by decide)
              have h109 : σ_26.1 109 = σ_22.1 109 := q27.1.1 109 (by decide)
              refine ⟨z1, ⟨G, pyN_G P22.2.1 q27.1 (by decide) (by decide) (by decide), by rw [h109]; exact P22.2.2.1, by rw [h109, h108]; exact P22.2.2.2.1, by rw [h108]; exact P22.2.2.2.2.1, by rw [h109]; exact P22.2.2.2.2.2⟩, fun e => ?_, Or.inr (by rw [h108]; exact l22), z2, z3⟩
              rcases q27.2 with z | z
              · exact z.2
              · rw [z] at e; exact absurd e (by decide)
        · skip
          refine draws_c hC (σ.1 3) T ?_ (fun r28 σ_29 q30 => ?_)
          · clear h; rcases A with q | q | q | q | q | q
            · rw [q.1] at c23; exact absurd c23 (by decide)
            · rw [q] at c23; exact absurd c23 (by decide)
            · rw [q] at c23; exact absurd c23 (by decide)
            · rw [q] at c23; exact absurd c23 (by decide)
            · exact ⟨I22, by rw [hσ_22]; exact csF_o q.2.1 rfl rfl rfl rfl, by rw [hσ_22]; exact q.2.2.1, by rw [hσ_22]; exact q.2.2.2, P22.2.1, P22.2.2.1, gd.2.2.2.2.1, by rw [F22.1 104 (by decide)]; exact t0', by rw [F22.1 104 (by decide)]; exact t1', fun z => by rw [F22.1 104 (by decide)]; exact P22.2.2.2.2.2 (by rw [← F22.1 113 (by decide)]; exact z)⟩
            · rw [q.1] at c23; exact absurd c23 (by decide)
          refine hj160 _ _ _ ?_
          · clear h; have F29 := frW_tr F22 q30.1
            have h9 := Int32.le_trans P22.2.2.1 q30.2.2.1
            have t9 : σ.1 113 = 0 → σ_29.1 109 ≤ σ.1 104 := fun z => by
              have y := q30.2.2.2.2.1 (by rw [F22.1 113 (by decide)]; exact z)
              rw [F22.1 104 (by decide)] at y
              exact y
            rcases q30.2.2.2.2.2 with q | q
            · have l8 : σ_29.1 109 ≤ σ_29.1 108 := by rw [q.2.1, q.2.2]; exact gd.1
              have m8 : σ_29.1 108 ≤ a1 := by rw [q.2.1]; exact gd.2.1
              exact ⟨z1, ⟨F29, q30.2.1, h9, l8, m8, t9⟩, fun e => by rw [q.1] at e; exact absurd e (by decide), Or.inl q.1, z2, z3⟩
            · have l8 : σ_29.1 109 ≤ σ_29.1 108 := by rw [q.1]; exact Int32.le_trans q30.2.2.2.1 gd.2.2.1
              have m8 : σ_29.1 108 ≤ a1 := by rw [q.1]; exact P22.2.2.2.2.1
              refine ⟨z1, ⟨F29, q30.2.1, h9, l8, m8, t9⟩, fun e => ?_, Or.inr (by rw [q.1]; exact l22), z2, z3⟩
              rcases q.2 with z | z | z
              · exact z.2
              · rw [z] at e; exact absurd e (by decide)
              · rw [z] at e; exact absurd e (by decide)
      obtain ⟨i1, I76, ic⟩ := i76
      have Q76 := pyQ_N I76.2.1 (Int32.le_trans I76.2.2.2.1 (Int32.le_trans I76.2.2.2.2.1 w.2.2))
      rw [i1]
      refine ⟨fun c31 => ?_, fun c31 => ?_⟩
      · skip
        refine hj175 _ _ _ ?_
        · clear h; exact ⟨I76.1, Q76⟩  -- k27
      · skip
        refine ⟨fun c32 => ?_, fun c32 => ?_⟩
        · skip
          refine hj175 _ _ _ ?_
          · clear h; exact ⟨I76.1, Q76⟩  -- k28
        · skip
          have gs := fun (hne : ¬ σ76.1 108 = a1) => go_s (Int32.le_trans I76.2.2.1 I76.2.2.2.1) I76.2.2.2.2.1 hne w.2.2
          refine ⟨fun c33 => ?_, fun c33 => ?_⟩
          · skip
            refine act_c hC (σ.1 3) T ?_ (fun r34 σ_35 q36 => ?_)
            · clear h; exact ⟨rI_W (hI w.1) I76.1, ic c31 c32⟩  -- p29
            have g := gs c33
            have F35 : frW σ σ_35 := frW_tr I76.1 (frW_G q36.1 (sub_of rfl) (sub_of rfl))
            have N35 := pyN_G I76.2.1 q36.1 (by decide) (by decide) (by decide)
            have e108 : σ_35.1 108 = σ76.1 108 := q36.1.1 108 (by decide)
            have e109 : σ_35.1 109 = σ76.1 109 := q36.1.1 109 (by decide)
            intro σ_37 hσ_37
            refine ⟨fun c38 => ?_, fun c38 => ?_⟩
            · skip
              refine hj131 _ _ _ _ _ ?_
              · clear h; have F37 : frW σ σ_37 := by rw [hσ_37]; exact frW_tr F35 (frW_0 (by decide))
                have s108 : σ_37.1 108 = σ76.1 108 + 1 := by rw [hσ_37, ← e108]; rfl
                have s109 : σ_37.1 109 = σ76.1 109 := by rw [hσ_37, ← e109]; rfl
                exact ⟨rfl, ⟨F37, pyN_r N35 (by rw [hσ_37]; rfl) (by rw [hσ_37]; rfl) (by rw [hσ_37]; rfl), by rw [s109]; exact I76.2.2.1, by rw [s109, s108]; exact Int32.le_trans I76.2.2.2.1 (Int32.le_of_lt g.1), by rw [s108]; exact g.2.1, by rw [s109]; exact I76.2.2.2.2.2⟩, by rw [s109, s108]; exact Int32.lt_of_le_of_lt I76.2.2.2.1 g.1, by rw [s108]; exact g.1, by rw [hσ_37]; exact q36.2, c31, c32⟩
            · skip
              refine hj131 _ _ _ _ _ ?_
              · clear h; have F37 : frW σ σ_37 := by rw [hσ_37]; exact frW_tr F35 (frW_0 (by decide))
                have s108 : σ_37.1 108 = σ76.1 108 + 1 := by rw [hσ_37, ← e108]; rfl
                have s109 : σ_37.1 109 = σ76.1 109 := by rw [hσ_37, ← e109]; rfl
                exact ⟨rfl, ⟨F37, pyN_r N35 (by rw [hσ_37]; rfl) (by rw [hσ_37]; rfl) (by rw [hσ_37]; rfl), by rw [s109]; exact I76.2.2.1, by rw [s109, s108]; exact Int32.le_trans I76.2.2.2.1 (Int32.le_of_lt g.1), by rw [s108]; exact g.2.1, by rw [s109]; exact I76.2.2.2.2.2⟩, by rw [s109, s108]; exact Int32.lt_of_le_of_lt I76.2.2.2.1 g.1, by rw [s108]; exact g.1, by rw [hσ_37]; exact q36.2, c31, c32⟩
          · skip
            refine ⟨_, ?_, rfl, ?_⟩
            · clear h; have m : n76 = (a1 - σ76.1 108).toNatClampNeg + 1 := by rw [hn76, if_pos ⟨c31, c32⟩]
              rw [m, if_neg (fun z => absurd z.2 (by decide))]
              exact Nat.succ_pos _
            · clear h; exact ⟨rfl, I76, fun _ e => absurd e (by decide)⟩  -- i33
    · skip
      refine h _ _ ?_
      · clear h; obtain ⟨y1, y2, y3⟩ := j28
        have F : frW σ σ_9 := by rw [hσ_9, y2]; exact frW_0 (by decide)
        refine ⟨F, fun z => ?_⟩
        have z2 : σ.1 106 ≠ -1 := by rw [hσ_9, y2] at z; exact z
        exact pyQ_r (hn z2) (by rw [hσ_9, y2]; rfl) (by rw [hσ_9, y2]; rfl)
  refine ⟨fun c39 => ?_, fun c39 => ?_⟩
  · skip
    refine within_c hC  (fun r40 q42 => ?_)
    refine ⟨fun c43 => ?_, fun c43 => ?_⟩
    · skip
      refine hj28 _ _ _ ?_
      · clear h; exact ⟨rfl, rfl, fun _ => ⟨c39, (q42.2.mp c43).1, (q42.2.mp c43).2⟩⟩  -- k35
    · skip
      refine hj28 _ _ _ ?_
      · clear h; exact ⟨rfl, rfl, fun z => absurd z (by decide)⟩  -- k36
  · skip
    refine hj28 _ _ _ ?_
    · clear h; exact ⟨rfl, rfl, fun z => absurd z (by decide)⟩  -- k37

end
section
set_option maxHeartbeats 1600000
/-! the reference: play, walk -/
theorem go_pre {σ τ : rS} {T : Int32} (h : (σ.1 14 ≠ 0 → rI σ (σ.1 3) T) ∧ exP σ ∧ 0 ≤ σ.1 104 ∧ σ.1 104 ≤ 200 ∧ plN σ) (hf : ∀ k, k ≠ 113 → τ.1 k = σ.1 k) (hr : τ.2.2 = σ.2.2) : (τ.1 14 ≠ 0 → rI τ (τ.1 3) T) ∧ exP τ ∧ 0 ≤ τ.1 104 ∧ τ.1 104 ≤ 200 ∧ plN τ := by
  obtain ⟨h1, h2, h3, h4, h5⟩ := h
  refine ⟨fun z => ?_, exP_o h2 (fun k hk => hf k (by omega)) (fun k _ => by rw [hr]), by rw [hf 104 (by decide)]; exact h3, by rw [hf 104 (by decide)]; exact h4, fun z => ?_⟩
  · rw [hf 14 (by decide)] at z
    rw [hf 3 (by decide)]
    exact rI_gen (h1 z) (fun k hk => hf k ((by decide : ∀ k, k ∈ [15, 16, 17, 18, 19, 40, 41, 42] → k ≠ 113) k hk)) (fun k _ => by rw [hr])
  · rw [hf 106 (by decide)] at z
    exact pyQ_r (h5 z) (by rw [hr]) (by rw [hr])
theorem play_c {C : rCx} (hC : cOK C) (T : Int32) {σ : rS} {a1 : Int64} {a3 : Int32} {Q : Int32 → rS → Prop} (hp : (σ.1 14 ≠ 0 → rI σ (σ.1 3) T) ∧ exP σ ∧ 0 ≤ σ.1 104 ∧ σ.1 104 ≤ 200 ∧ plN σ) (h : ∀ (v : Int32) (σ' : rS), (frW (siU (slU σ 112 a1) 113 1) σ' ∧ plN σ') → Q v σ') : cI C 11 m_play [.ref (co C), .long a1, .int a3] σ Q := by
  refine m_play_run hC ?_
  unfold w_play_0
  intro σ_1 hσ_1
  intro σ_2 hσ_2
  refine go2_c hC T ?_ (fun r3 σ_4 q5 => ?_)
  · clear h; rw [hσ_2, hσ_1]; exact go_pre hp (fun k hk => if_neg hk) rfl  -- p1
  refine h _ _ ?_
  · clear h; rw [hσ_2, hσ_1] at q5; exact q5  -- q2

theorem walk_c {C : rCx} (hC : cOK C) (T : Int32) {σ : rS} {a1 : Int32} {Q : Int32 → rS → Prop} (hp : (σ.1 14 ≠ 0 → rI σ (σ.1 3) T) ∧ exP σ ∧ 0 ≤ σ.1 104 ∧ σ.1 104 ≤ 200 ∧ plN σ) (h : ∀ (v : Int32) (σ' : rS), (frW (siU σ 113 0) σ' ∧ plN σ') → Q v σ') : cI C 11 m_walk [.ref (co C), .int a1] σ Q := by
  refine m_walk_run hC ?_
  unfold w_walk_0
  intro σ_1 hσ_1
  refine go2_c hC T ?_ (fun r2 σ_3 q4 => ?_)
  · clear h; rw [hσ_1]; exact go_pre hp (fun k hk => if_neg hk) rfl  -- p1
  refine h _ _ ?_
  · clear h; rw [hσ_1] at q4; exact q4  -- q2

end
section
/-! the class's heap in one form, by kinds of fields: types of cells (0: not the class's; 3 .. 15 objects by their class; 20 .. 25 rows: int, byte, long, boolean, Num, Ratio; 40 and more: an object that is being made), lengths, numbers (by field and object), references (likewise; 0 is null), rows of numbers, of longs, of objects, to whom a row belongs, how many cells there are, how many cells and slots were made -/
abbrev zS : Type := (Nat → Nat) × (Nat → Nat) × (Nat → Nat → Int32) × (Nat → Nat → Nat) × (Nat → Nat → Int32) × (Nat → Nat → Int64) × (Nat → Nat → Option Nat) × (Nat → Nat × Nat) × Nat × Nat × Nat
abbrev zT (κ : zS) : Nat → Nat := κ.1
abbrev zN (κ : zS) : Nat → Nat := κ.2.1
abbrev zI (κ : zS) : Nat → Nat → Int32 := κ.2.2.1
abbrev zR (κ : zS) : Nat → Nat → Nat := κ.2.2.2.1
abbrev zA (κ : zS) : Nat → Nat → Int32 := κ.2.2.2.2.1
abbrev zJ (κ : zS) : Nat → Nat → Int64 := κ.2.2.2.2.2.1
abbrev zQ (κ : zS) : Nat → Nat → Option Nat := κ.2.2.2.2.2.2.1
abbrev zO (κ : zS) : Nat → Nat × Nat := κ.2.2.2.2.2.2.2.1
abbrev zn (κ : zS) : Nat := κ.2.2.2.2.2.2.2.2.1
abbrev zc (κ : zS) : Nat := κ.2.2.2.2.2.2.2.2.2.1
abbrev zs (κ : zS) : Nat := κ.2.2.2.2.2.2.2.2.2.2
/-- fields that hold references: what type; fields that hold a boolean -/
def zRT : List (Nat × Nat) := [(300, 7), (301, 14), (302, 6), (303, 6), (305, 5), (306, 20), (307, 20), (308, 20), (309, 20), (310, 23), (311, 23), (312, 20), (313, 20), (314, 20), (400, 8), (401, 8), (402, 8), (403, 8), (404, 8), (405, 8), (406, 22), (500, 20), (501, 20), (502, 20), (503, 20), (504, 20), (505, 20), (506, 20), (507, 20), (508, 20), (603, 20), (604, 20), (605, 20), (700, 5), (701, 20), (705, 20), (707, 20), (718, 20), (719, 20), (800, 20), (900, 3), (901, 12), (902, 4), (903, 8), (904, 6), (905, 20), (906, 20), (907, 20), (908, 20), (909, 20), (910, 20), (911, 20), (912, 20), (913, 24), (1000, 13), (1001, 5), (1006, 20), (1007, 20), (1008, 20), (1009, 20), (1011, 20), (1012, 20), (1013, 23), (1015, 20), (1100, 8), (1101, 8), (1200, 3), (1201, 14), (1202, 4), (1205, 25), (1206, 25), (1207, 8), (1208, 11), (1209, 8), (1210, 8), (1211, 8), (1212, 8), (1213, 8), (1214, 24), (1215, 20), (1216, 20), (1300, 21), (1302, 20), (1303, 20), (1304, 20), (1401, 20), (1402, 20), (1403, 20), (1404, 20), (1405, 20), (1406, 23), (1408, 20), (1409, 20), (1410, 20), (1411, 20), (1412, 20), (1413, 20), (1414, 20), (1415, 20), (1500, 13), (1501, 10), (1502, 5), (1503, 5), (1506, 7), (1507, 3), (1508, 12), (1509, 9), (1510, 11), (1511, 20), (1514, 22), (1515, 20), (1516, 20), (1517, 20)]
def zZT : List Nat := [304, 1005, 1203, 1204, 1504, 1513]
def zr (f : Nat) : Option Nat := zRT.lookup f
def zV (κ : zS) (a f : Nat) : Value := match zr f with
  | some _ => if zR κ f a = 0 then .null else .ref (zR κ f a)
  | none => .int (zI κ f a)
def zFs (κ : zS) (a ci : Nat) : List Value := (List.range (nN ci)).map fun k => zV κ a (100 * ci + k)
def zRow (κ : zS) (a : Nat) : dC := if zT κ a = 22 then .inl (2, zN κ a, .inr (.inl (zJ κ a))) else if zT κ a = 24 ∨ zT κ a = 25 then .inl (zT κ a - 20, zN κ a, .inr (.inr (.inr (.inr (zQ κ a))))) else .inl (zT κ a - 20, zN κ a, .inl (zA κ a))
def zCell (κ : zS) (a : Nat) : dC := if 40 ≤ zT κ a then .inr (zT κ a - 40, zFs κ a (zT κ a - 40)) else if zT κ a < 20 then .inr (zT κ a, zFs κ a (zT κ a)) else zRow κ a
/-- the class's setting: texts' places, texts, b, what lies beside -/
abbrev zC : Type := (Nat → Nat) × List (Nat × Nat × List Int32) × Nat × dH
abbrev yEn (C : zC) : dE := dEE C.1 C.2.1
abbrev yb (C : zC) : Nat := C.2.2.1
abbrev yh (C : zC) : dH := C.2.2.2
def zH (C : zC) (κ : zS) : dH := (some (zn κ), fun a => if zT κ a = 0 then (yh C).2 a else some (zCell κ a))
/-- what can be done with it -/
def ui (κ : zS) (f a : Nat) (x : Int32) : zS := (κ.1, κ.2.1, fun g b => if g = f ∧ b = a then x else κ.2.2.1 g b, κ.2.2.2)
def ur (κ : zS) (f a r : Nat) : zS := (κ.1, κ.2.1, κ.2.2.1, fun g b => if g = f ∧ b = a then r else κ.2.2.2.1 g b, κ.2.2.2.2)
def uo (κ : zS) (f a r : Nat) : zS := (κ.1, κ.2.1, κ.2.2.1, fun g b => if g = f ∧ b = a then r else κ.2.2.2.1 g b, κ.2.2.2.2.1, κ.2.2.2.2.2.1, κ.2.2.2.2.2.2.1, fun b => if b = r then (f, a) else κ.2.2.2.2.2.2.2.1 b, κ.2.2.2.2.2.2.2.2)
def ua (κ : zS) (a i : Nat) (x : Int32) : zS := (κ.1, κ.2.1, κ.2.2.1, κ.2.2.2.1, fun b => if b = a then upd (κ.2.2.2.2.1 a) i x else κ.2.2.2.2.1 b, κ.2.2.2.2.2)
def uj (κ : zS) (a i : Nat) (x : Int64) : zS := (κ.1, κ.2.1, κ.2.2.1, κ.2.2.2.1, κ.2.2.2.2.1, fun b => if b = a then vp_updL (κ.2.2.2.2.2.1 a) i x else κ.2.2.2.2.2.1 b, κ.2.2.2.2.2.2)
def uq (κ : zS) (a i : Nat) (x : Option Nat) : zS := (κ.1, κ.2.1, κ.2.2.1, κ.2.2.2.1, κ.2.2.2.2.1, κ.2.2.2.2.2.1, fun b => if b = a then va_up (κ.2.2.2.2.2.2.1 a) i x else κ.2.2.2.2.2.2.1 b, κ.2.2.2.2.2.2.2)
def uc (κ : zS) (s a sp dp n : Nat) : zS := (κ.1, κ.2.1, κ.2.2.1, κ.2.2.2.1, fun b => if b = a then va_cpy (κ.2.2.2.2.1 s) (κ.2.2.2.2.1 a) sp dp n else κ.2.2.2.2.1 b, κ.2.2.2.2.2)
/-- a new row; a new object; an object that has been made -/
def na (κ : zS) (t n : Nat) : zS := (fun b => if b = zn κ then t else κ.1 b, fun b => if b = zn κ then n else κ.2.1 b, κ.2.2.1, κ.2.2.2.1, fun b => if b = zn κ then fun _ => 0 else κ.2.2.2.2.1 b, fun b => if b = zn κ then fun _ => 0 else κ.2.2.2.2.2.1 b, fun b => if b = zn κ then fun _ => none else κ.2.2.2.2.2.2.1 b, fun b => if b = zn κ then (0, 0) else κ.2.2.2.2.2.2.2.1 b, zn κ + 1, zc κ + 1, zs κ + n)
def noo (κ : zS) (ci : Nat) : zS := (fun b => if b = zn κ then 40 + ci else κ.1 b, fun b => if b = zn κ then 0 else κ.2.1 b, fun g b => if b = zn κ then 0 else κ.2.2.1 g b, fun g b => if b = zn κ then 0 else κ.2.2.2.1 g b, κ.2.2.2.2.1, κ.2.2.2.2.2.1, κ.2.2.2.2.2.2.1, κ.2.2.2.2.2.2.2.1, zn κ + 1, zc κ + 1, zs κ + nN ci)
def nff (κ : zS) (w : Nat) : zS := (fun b => if b = w then κ.1 w - 40 else κ.1 b, κ.2)
section ZH
variable {C : zC} {κ : zS} {a f ci : Nat}
/-- an object, made or being made -/
def zBo (κ : zS) (a ci : Nat) : Prop := zT κ a = ci ∨ zT κ a = 40 + ci
theorem zH_ob (h : zBo κ a ci) (h0 : 0 < ci) (h1 : ci < 20) : (zH C κ).2 a = some (.inr (ci, zFs κ a ci)) := by
  show (if zT κ a = 0 then _ else some (zCell κ a)) = _
  rcases h with h | h
  · rw [if_neg (by omega)]
    unfold zCell
    rw [if_neg (by omega), if_pos (by omega), h]
  · rw [if_neg (by omega)]
    unfold zCell
    rw [if_pos (by omega), h]
    have e : 40 + ci - 40 = ci := by omega
    rw [e]
theorem zH_i {t : Nat} (h : zT κ a = 20 + t) (ht : t = 0 ∨ t = 1 ∨ t = 3) : (zH C κ).2 a = some (.inl (t, zN κ a, .inl (zA κ a))) := by
  show (if zT κ a = 0 then _ else some (zCell κ a)) = _
  rw [if_neg (by omega)]
  unfold zCell
  rw [if_neg (by omega), if_neg (by omega)]
  unfold zRow
  rw [if_neg (by omega), if_neg (by omega), h]
  have e : 20 + t - 20 = t := by omega
  rw [e]
theorem zH_j (h : zT κ a = 22) : (zH C κ).2 a = some (.inl (2, zN κ a, .inr (.inl (zJ κ a)))) := by
  show (if zT κ a = 0 then _ else some (zCell κ a)) = _
  rw [if_neg (by omega)]
  unfold zCell
  rw [if_neg (by omega), if_neg (by omega)]
  unfold zRow
  rw [if_pos h]
theorem zH_q {t : Nat} (h : zT κ a = 20 + t) (ht : t = 4 ∨ t = 5) : (zH C κ).2 a = some (.inl (t, zN κ a, .inr (.inr (.inr (.inr (zQ κ a)))))) := by
  show (if zT κ a = 0 then _ else some (zCell κ a)) = _
  rw [if_neg (by omega)]
  unfold zCell
  rw [if_neg (by omega), if_neg (by omega)]
  unfold zRow
  rw [if_neg (by omega), if_pos (by omega), h]
  have e : 20 + t - 20 = t := by omega
  rw [e]
theorem zFs_at {k : Nat} (hk : k < nN ci) : (zFs κ a ci)[k]? = some (zV κ a (100 * ci + k)) := by
  unfold zFs
  rw [List.getElem?_map, List.getElem?_range hk]
  rfl
theorem zFs_len : (zFs κ a ci).length = nN ci := by unfold zFs; simp
theorem zFs_set {κ' : zS} {k : Nat} {v : Value} (hv : zV κ' a (100 * ci + k) = v) (ho : ∀ j, j ≠ k → zV κ' a (100 * ci + j) = zV κ a (100 * ci + j)) : (zFs κ a ci).set k v = zFs κ' a ci := by
  apply List.ext_getElem?
  intro j
  by_cases hj : j < nN ci
  · by_cases e : j = k
    · subst e
      rw [List.getElem?_set_self (by rw [zFs_len]; exact hj), zFs_at hj, hv]
    · rw [List.getElem?_set_ne (fun h => e h.symm), zFs_at hj, zFs_at hj, ho j e]
  · rw [List.getElem?_eq_none (by rw [List.length_set, zFs_len]; omega), List.getElem?_eq_none (by rw [zFs_len]; omega)]
theorem zFs_eq {κ' : zS} (h : ∀ g, zV κ' a g = zV κ a g) : zFs κ' a ci = zFs κ a ci := by
  unfold zFs
  exact List.map_congr_left (fun k _ => h _)
theorem zCell_eq {κ' : zS} (hT : zT κ' a = zT κ a) (hN : zN κ' a = zN κ a) (hV : ∀ g, zV κ' a g = zV κ a g) (hA : zA κ' a = zA κ a) (hJ : zJ κ' a = zJ κ a) (hQ : zQ κ' a = zQ κ a) : zCell κ' a = zCell κ a := by
  unfold zCell zRow
  rw [hT, hN, hA, hJ, hQ, zFs_eq hV, zFs_eq hV]
theorem zH_eq {h1 h2 : dH} (h : h1.1 = h2.1) (h' : ∀ a, h1.2 a = h2.2 a) : h1 = h2 := Prod.ext h (funext h')
/-- a field changes -/
theorem zH_put {κ' : zS} {k : Nat} {v : Value} (hB : zBo κ a ci) (h0 : 0 < ci) (h1 : ci < 20) (hT : zT κ' = zT κ) (hN : zN κ' = zN κ) (hA : zA κ' = zA κ) (hJ : zJ κ' = zJ κ) (hQ : zQ κ' = zQ κ) (hn : zn κ' = zn κ) (hv : zV κ' a (100 * ci + k) = v) (ho : ∀ j, j ≠ k → zV κ' a (100 * ci + j) = zV κ a (100 * ci + j)) (hx : ∀ b g, b ≠ a → zV κ' b g = zV κ b g) : dupd (zH C κ) a (.inr (ci, (zFs κ a ci).set k v)) = zH C κ' := by
  refine zH_eq (by show some (zn κ) = some (zn κ'); rw [hn]) (fun b => ?_)
  show (if b = a then _ else (zH C κ).2 b) = _
  by_cases e : b = a
  · rw [if_pos e, e, zH_ob (κ := κ') (by unfold zBo; rw [hT]; exact hB) h0 h1, zFs_set hv ho]
  · rw [if_neg e]
    show (if zT κ b = 0 then _ else some (zCell κ b)) = (if zT κ' b = 0 then _ else some (zCell κ' b))
    rw [hT, zCell_eq (by rw [hT]) (by rw [hN]) (fun g => hx b g e) (by rw [hA]) (by rw [hJ]) (by rw [hQ])]
/-- a row changes -/
theorem zH_ast {κ' : zS} {e : dC} (hT : zT κ' = zT κ) (hN : zN κ' = zN κ) (hI : zI κ' = zI κ) (hR : zR κ' = zR κ) (hn : zn κ' = zn κ) (h0 : zT κ a ≠ 0) (he : zCell κ' a = e) (hA : ∀ b, b ≠ a → zA κ' b = zA κ b ∧ zJ κ' b = zJ κ b ∧ zQ κ' b = zQ κ b) : dupd (zH C κ) a e = zH C κ' := by
  refine zH_eq (by show some (zn κ) = some (zn κ'); rw [hn]) (fun b => ?_)
  show (if b = a then _ else (zH C κ).2 b) = (if zT κ' b = 0 then _ else some (zCell κ' b))
  rw [hT]
  by_cases e1 : b = a
  · rw [if_pos e1, e1, if_neg h0, he]
  · rw [if_neg e1]
    obtain ⟨g1, g2, g3⟩ := hA b e1
    show (if zT κ b = 0 then _ else some (zCell κ b)) = _
    rw [zCell_eq (κ' := κ') (by rw [hT]) (by rw [hN]) (fun g => by unfold zV; rw [hI, hR]) g1 g2 g3]
/-- a new cell -/
theorem zH_new {κ' : zS} {e : dC} (hw : zn κ' = zn κ + 1) (hT : zT κ' (zn κ) ≠ 0) (he : zCell κ' (zn κ) = e) (ho : ∀ b, b ≠ zn κ → zT κ' b = zT κ b ∧ zCell κ' b = zCell κ b) : dnew (zH C κ) (zn κ) e = zH C κ' := by
  refine zH_eq (by show some (zn κ + 1) = some (zn κ'); rw [hw]) (fun b => ?_)
  show (if b = zn κ then _ else (zH C κ).2 b) = (if zT κ' b = 0 then _ else some (zCell κ' b))
  by_cases e1 : b = zn κ
  · rw [if_pos e1, e1, if_neg hT, he]
  · rw [if_neg e1, (ho b e1).1, (ho b e1).2]
    rfl
theorem zV_ui {x : Int32} (hr : zr f = none) : zV (ui κ f a x) a f = .int x := by
  unfold zV
  rw [hr]
  show Value.int (if f = f ∧ a = a then x else _) = _
  rw [if_pos ⟨rfl, rfl⟩]
theorem zV_ui2 {x : Int32} {b g : Nat} (h : ¬ (g = f ∧ b = a)) : zV (ui κ f a x) b g = zV κ b g := by
  unfold zV
  show (match zr g with | some _ => _ | none => Value.int (if g = f ∧ b = a then x else _)) = _
  rw [if_neg h]
  rfl
theorem zV_ur {r t : Nat} {κ' : zS} (hr : zr f = some t) (h0 : r ≠ 0) (e : zR κ' f a = r) : zV κ' a f = .ref r := by
  unfold zV
  rw [hr]
  show (if zR κ' f a = 0 then _ else _) = _
  rw [e, if_neg h0]
theorem zV_ur2 {r b g : Nat} (h : ¬ (g = f ∧ b = a)) : zV (ur κ f a r) b g = zV κ b g := by
  have e : zR (ur κ f a r) g b = zR κ g b := if_neg h
  unfold zV
  rw [e]
  rfl
theorem zV_uo2 {r b g : Nat} (h : ¬ (g = f ∧ b = a)) : zV (uo κ f a r) b g = zV κ b g := by
  have e : zR (uo κ f a r) g b = zR κ g b := if_neg h
  unfold zV
  rw [e]
  rfl
end ZH

end
section
/-! runs that return or throw, without their fuel -/
def dGoX (E : dE) (X : dX) (b d : Nat) (r : dM) (pc : Nat) (lo : dL0) (st : List Value) (h : dH) (cs ss : Nat) (z : dY) : Prop := ∃ n, drunX E X b n d r pc lo st h cs ss = some z
/-- what is made to be thrown is made by no other way -/
def xApart (E : dE) (X : dX) : Prop := ∀ o i cls, X.1 o i = some cls → eNW E o i = none
theorem dxat_no {E : dE} {X : dX} {r : dM} {pc : Nat} {i : Instr} {len : Nat} (hd : decode r.2.1 pc = .ok (i, len)) (hi : ∀ ik, i = .new ik → X.1 r.2.2.2.2.2.1 ik = none) : dxat E X r pc = none := by
  cases h : dxat E X r pc with
  | none => rfl
  | some cls =>
    obtain ⟨ik, is, ic, sa, h1, -, h3, -⟩ := dxat_inv h
    rw [hd] at h1
    have e : i = .new ik := by cases h1; rfl
    rw [hi ik e] at h3
    cases h3
theorem dinv_ret {E : dE} {o : Nat} {i : Instr} {len : Nat} {st : List Value} {h : dH} {y : dV} {r : dM} (hh : dinv E o i len st h = some y) : dret r i len st = none := by
  cases i <;> first | rfl | cases hh
theorem drun_zero {E : dE} {b d : Nat} {r : dM} {pc : Nat} {lo : dL0} {st : List Value} {h : dH} {cs ss : Nat} : drun E b 0 d r pc lo st h cs ss = none := rfl
/-- a run that throws doesn't return -/
theorem drunX_not {E : dE} {X : dX} (hX : xApart E X) {b : Nat} : ∀ (n d : Nat) (r : dM) (pc : Nat) (lo : dL0) (st : List Value) (h : dH) (cs ss : Nat) (z : dY), drunX E X b n d r pc lo st h cs ss = some z → ∀ m, drun E b m d r pc lo st h cs ss = none := by
  intro n
  induction n with
  | zero => intro d r pc lo st h cs ss z hh; cases hh
  | succ n ih =>
    intro d r pc lo st h cs ss z hh m
    cases m with
    | zero => rfl
    | succ m =>
      cases hq : drun E b (m + 1) d r pc lo st h cs ss with
      | none => rfl
      | some q =>
        exfalso
        obtain ⟨i, len, hd, hs⟩ := drun_split hq
        rw [drunX] at hh
        cases hxa : dxat E X r pc with
        | some cls =>
          obtain ⟨ik, is, ic, sa, h1, -, h3, -⟩ := dxat_inv hxa
          rw [h1] at hd
          have e : i = .new ik := by cases hd; rfl
          subst e
          have hn : eNW E r.2.2.2.2.2.1 ik = none := hX _ _ _ h3
          rcases hs with ⟨w, g1, -⟩ | ⟨g, -, g1, -⟩ | ⟨v, -, -, g1, -⟩ | ⟨d', y, w, -, -, -, -, g1, -⟩
          · cases g1
          · have g1 : dnewo E r.2.2.2.2.2.1 len ik st h cs ss = some g := g1
            unfold dnewo at g1
            rw [hn] at g1
            cases g1
          · cases g1
          · cases g1
        | none =>
          rw [hxa] at hh
          dsimp only at hh
          rw [hd] at hh
          dsimp only at hh
          rcases hs with ⟨w, g1, g2⟩ | ⟨g, g0, g1, g2⟩ | ⟨v, g0, g1, g2, -⟩ | ⟨d', y, w, rfl, g0, g1, g2, g3, g4, g5⟩
          · rw [g1] at hh
            dsimp only at hh
            rw [ih _ _ _ _ _ _ _ _ _ hh m] at g2
            cases g2
          · rw [g0] at hh
            dsimp only at hh
            rw [g1] at hh
            dsimp only at hh
            rw [ih _ _ _ _ _ _ _ _ _ hh m] at g2
            cases g2
          · rw [g0] at hh
            dsimp only at hh
            rw [g1] at hh
            dsimp only at hh
            cases d with
            | zero => cases hh
            | succ d =>
              dsimp only at hh
              cases hy : dinv E r.2.2.2.2.2.1 i len st h with
              | none => rw [hy] at hh; cases hh
              | some y => rw [dinv_ret (r := r) hy] at g2; cases g2
          · rw [g0] at hh
            dsimp only at hh
            rw [g1] at hh
            dsimp only at hh
            rw [g3] at hh
            dsimp only at hh
            cases hw : drun E b n d' y.1 0 (dent y.2.1) [] h 0 0 with
            | some w2 =>
              rw [hw] at hh
              dsimp only at hh
              have e : w2 = w := by
                have a1 := drun_le (Nat.le_max_left n m) hw
                have a2 := drun_le (Nat.le_max_right n m) g4
                rw [a1] at a2
                exact Option.some.inj a2
              subst e
              rw [ih _ _ _ _ _ _ _ _ _ hh m] at g5
              cases g5
            | none =>
              rw [hw] at hh
              dsimp only at hh
              cases i with
              | invokevirtual idx =>
                dsimp only at hh
                cases hz : drunX E X b n d' y.1 0 (dent y.2.1) [] h 0 0 with
                | none => rw [hz] at hh; cases hh
                | some z2 => rw [ih _ _ _ _ _ _ _ _ _ hz m] at g4; cases g4
              | _ => cases hh
section DX
variable {E : dE} {X : dX} {b d : Nat} {r : dM} {pc : Nat} {lo : dL0} {st : List Value} {h : dH} {cs ss : Nat} {z : dY} {i : Instr} {len : Nat}
theorem dx_pure {n : Nat} {w : dP} (hx : dxat E X r pc = none) (hd : decode r.2.1 pc = .ok (i, len)) (hw : dpure i len pc r.2.2.1 lo st = some w) : drunX E X b (n + 1) d r pc lo st h cs ss = drunX E X b n d r w.1 w.2.1 w.2.2 h cs ss := by
  rw [drunX, hx]; dsimp only; rw [hd]; dsimp only; rw [hw]
theorem dx_heap {n : Nat} {g : dG} (hx : dxat E X r pc = none) (hd : decode r.2.1 pc = .ok (i, len)) (h0 : dpure i len pc r.2.2.1 lo st = none) (hg : dheap E b d r i len st h cs ss = some g) : drunX E X b (n + 1) d r pc lo st h cs ss = drunX E X b n d r (pc + len) lo g.1 g.2.1 g.2.2.1 g.2.2.2 := by
  rw [drunX, hx]; dsimp only; rw [hd]; dsimp only; rw [h0]; dsimp only; rw [hg]
theorem dx_call {n : Nat} {y : dV} {w : dZ} (hx : dxat E X r pc = none) (hd : decode r.2.1 pc = .ok (i, len)) (h0 : dpure i len pc r.2.2.1 lo st = none) (h1 : dheap E b (d + 1) r i len st h cs ss = none) (hy : dinv E r.2.2.2.2.2.1 i len st h = some y) (hw : drun E b n d y.1 0 (dent y.2.1) [] h 0 0 = some w) : drunX E X b (n + 1) (d + 1) r pc lo st h cs ss = drunX E X b n (d + 1) r (pc + 3) lo (w.1.toList ++ y.2.2) w.2.1 (cs + w.2.2.1) (ss + w.2.2.2) := by
  rw [drunX, hx]; dsimp only; rw [hd]; dsimp only; rw [h0]; dsimp only; rw [h1]; dsimp only; rw [hy]; dsimp only; rw [hw]
theorem dx_callx {n idx : Nat} {y : dV} {w : dY} (hx : dxat E X r pc = none) (hd : decode r.2.1 pc = .ok (.invokevirtual idx, 3)) (h1 : dheap E b (d + 1) r (.invokevirtual idx) 3 st h cs ss = none) (hy : dinv E r.2.2.2.2.2.1 (.invokevirtual idx) 3 st h = some y) (h2 : drun E b n d y.1 0 (dent y.2.1) [] h 0 0 = none) (hw : drunX E X b n d y.1 0 (dent y.2.1) [] h 0 0 = some w) : drunX E X b (n + 1) (d + 1) r pc lo st h cs ss = some (w.1, w.2.1, cs + w.2.2.1, ss + w.2.2.2) := by
  rw [drunX, hx]; dsimp only; rw [hd]; dsimp only
  rw [show dpure (.invokevirtual idx) 3 pc r.2.2.1 lo st = none from rfl]; dsimp only; rw [h1]; dsimp only; rw [hy]; dsimp only; rw [h2]; dsimp only; rw [hw]
end DX
theorem drunX_more {E : dE} {X : dX} (hX : xApart E X) {b : Nat} : ∀ (n d : Nat) (r : dM) (pc : Nat) (lo : dL0) (st : List Value) (h : dH) (cs ss : Nat) (z : dY), drunX E X b n d r pc lo st h cs ss = some z → drunX E X b (n + 1) d r pc lo st h cs ss = some z := by
  intro n
  induction n with
  | zero => intro d r pc lo st h cs ss z hh; cases hh
  | succ n ih =>
    intro d r pc lo st h cs ss z hh
    have hh0 := hh
    rw [drunX] at hh
    cases hxa : dxat E X r pc with
    | some cls => rw [hxa] at hh; rw [drunX, hxa]; exact hh
    | none =>
      rw [hxa] at hh
      dsimp only at hh
      cases hd : decode r.2.1 pc with
      | error x => rw [hd] at hh; cases hh
      | ok x =>
        obtain ⟨i, len⟩ := x
        rw [hd] at hh
        dsimp only at hh
        cases h1 : dpure i len pc r.2.2.1 lo st with
        | some w => rw [h1] at hh; rw [dx_pure hxa hd h1]; exact ih _ _ _ _ _ _ _ _ _ hh
        | none =>
          rw [h1] at hh
          dsimp only at hh
          cases h2 : dheap E b d r i len st h cs ss with
          | some g => rw [h2] at hh; rw [dx_heap hxa hd h1 h2]; exact ih _ _ _ _ _ _ _ _ _ hh
          | none =>
            rw [h2] at hh
            dsimp only at hh
            cases d with
            | zero => cases hh
            | succ d =>
              dsimp only at hh
              cases h4 : dinv E r.2.2.2.2.2.1 i len st h with
              | none => rw [h4] at hh; cases hh
              | some y =>
                rw [h4] at hh
                dsimp only at hh
                cases h5 : drun E b n d y.1 0 (dent y.2.1) [] h 0 0 with
                | some w => rw [h5] at hh; rw [dx_call hxa hd h1 h2 h4 (drun_more _ _ _ _ _ _ _ _ _ _ h5)]; exact ih _ _ _ _ _ _ _ _ _ hh
                | none =>
                  rw [h5] at hh
                  dsimp only at hh
                  cases i with
                  | invokevirtual idx =>
                    dsimp only at hh
                    cases hz : drunX E X b n d y.1 0 (dent y.2.1) [] h 0 0 with
                    | none => rw [hz] at hh; cases hh
                    | some z2 =>
                      rw [hz] at hh
                      have hl : len = 3 := by
                        have h4 : dinvV E r.2.2.2.2.2.1 len idx st h = some y := h4
                        unfold dinvV at h4
                        split at h4
                        · split at h4
                          · split at h4
                            · split at h4
                              next e9 => exact e9.1
                              · cases h4
                            · cases h4
                          · cases h4
                        · cases h4
                      subst hl
                      rw [dx_callx hxa hd h2 h4 (drunX_not hX _ _ _ _ _ _ _ _ _ _ hz _) (ih _ _ _ _ _ _ _ _ _ hz)]
                      exact hh
                  | _ => cases hh
theorem drunX_le {E : dE} {X : dX} (hX : xApart E X) {b n m d : Nat} {r : dM} {pc : Nat} {lo : dL0} {st : List Value} {h : dH} {cs ss : Nat} {z : dY} (hle : n ≤ m) (hh : drunX E X b n d r pc lo st h cs ss = some z) : drunX E X b m d r pc lo st h cs ss = some z := by
  induction m with
  | zero => obtain rfl : n = 0 := by omega
            exact hh
  | succ m ih =>
    by_cases e : n = m + 1
    · subst e; exact hh
    · exact drunX_more hX _ _ _ _ _ _ _ _ _ _ (ih (by omega))
/-- both: what a run comes to -/
abbrev dW : Type := dZ ⊕ dY
def dGG (E : dE) (X : dX) (b d : Nat) (r : dM) (pc : Nat) (lo : dL0) (st : List Value) (h : dH) (cs ss : Nat) (z : dW) : Prop := match z with
  | .inl z => dGo E b d r pc lo st h cs ss z
  | .inr z => dGoX E X b d r pc lo st h cs ss z
section DG2
variable {E : dE} {X : dX} {b d : Nat} {r : dM} {pc : Nat} {lo : dL0} {st : List Value} {h : dH} {cs ss : Nat} {z : dW} {i : Instr} {len : Nat}
theorem gg_pure {w : dP} (hx : dxat E X r pc = none) (hd : decode r.2.1 pc = .ok (i, len)) (hw : dpure i len pc r.2.2.1 lo st = some w) (k : dGG E X b d r w.1 w.2.1 w.2.2 h cs ss z) : dGG E X b d r pc lo st h cs ss z := by
  cases z with
  | inl z => exact go_pure hd hw k
  | inr z => obtain ⟨n, hn⟩ := k; exact ⟨n + 1, by rw [dx_pure hx hd hw]; exact hn⟩
theorem gg_heap {g : dG} (hx : dxat E X r pc = none) (hd : decode r.2.1 pc = .ok (i, len)) (h0 : dpure i len pc r.2.2.1 lo st = none) (hg : dheap E b d r i len st h cs ss = some g) (k : dGG E X b d r (pc + len) lo g.1 g.2.1 g.2.2.1 g.2.2.2 z) : dGG E X b d r pc lo st h cs ss z := by
  cases z with
  | inl z => exact go_heap hd h0 hg k
  | inr z => obtain ⟨n, hn⟩ := k; exact ⟨n + 1, by rw [dx_heap hx hd h0 hg]; exact hn⟩
theorem gg_call (hX : xApart E X) {y : dV} {w : dZ} (hx : dxat E X r pc = none) (hd : decode r.2.1 pc = .ok (i, len)) (h0 : dpure i len pc r.2.2.1 lo st = none) (h1 : dheap E b (d + 1) r i len st h cs ss = none) (hy : dinv E r.2.2.2.2.2.1 i len st h = some y) (hw : dGo E b d y.1 0 (dent y.2.1) [] h 0 0 w) (k : dGG E X b (d + 1) r (pc + 3) lo (w.1.toList ++ y.2.2) w.2.1 (cs + w.2.2.1) (ss + w.2.2.2) z) : dGG E X b (d + 1) r pc lo st h cs ss z := by
  cases z with
  | inl z => exact go_call hd h0 h1 (dinv_ret hy) hy hw k
  | inr z =>
    obtain ⟨n, hn⟩ := hw
    obtain ⟨n2, hn2⟩ := k
    refine ⟨max n n2 + 1, ?_⟩
    rw [dx_call hx hd h0 h1 hy (drun_le (Nat.le_max_left _ _) hn)]
    exact drunX_le hX (Nat.le_max_right _ _) hn2
theorem gg_callx (hX : xApart E X) {idx : Nat} {y : dV} {w : dY} (hx : dxat E X r pc = none) (hd : decode r.2.1 pc = .ok (.invokevirtual idx, 3)) (h1 : dheap E b (d + 1) r (.invokevirtual idx) 3 st h cs ss = none) (hy : dinv E r.2.2.2.2.2.1 (.invokevirtual idx) 3 st h = some y) (hw : dGoX E X b d y.1 0 (dent y.2.1) [] h 0 0 w) : dGG E X b (d + 1) r pc lo st h cs ss (.inr (w.1, w.2.1, cs + w.2.2.1, ss + w.2.2.2)) := by
  obtain ⟨n, hn⟩ := hw
  exact ⟨n + 1, dx_callx hx hd h1 hy (drunX_not hX _ _ _ _ _ _ _ _ _ _ hn _) hn⟩
theorem gg_thr {cls : String} (hx : dxat E X r pc = some cls) (h8 : 8 ≤ d) (hc : (st.map fun v => v.category).sum ≤ 8) : dGG E X b d r pc lo st h cs ss (.inr (cls, (none, h.2), cs + 1, ss + 6)) := ⟨1, by rw [drunX, hx]; dsimp only; rw [if_pos ⟨h8, hc⟩]⟩
end DG2
theorem dXX_apart (sa : Nat → Nat) (TL : List (Nat × Nat × List Int32)) : xApart (dEE sa TL) dXX := by
  intro o i cls h
  have key : ∀ q ∈ osA, ∀ y ∈ tX1 q, (tNW q).lookup y.1 = none := by decide +kernel
  have h : (tX1 o).lookup i = some cls := h
  show (tNW o).lookup i = none
  have hm := d_lk h
  by_cases e : o ∈ osA
  · exact key o e _ hm
  · have e2 : tX1 o = [] := by
      unfold tX1
      split <;> first | rfl | exact absurd (by decide) e
    rw [e2] at hm
    cases hm
/-! runs with more room for calls -/
theorem drunX_up {E : dE} {X : dX} (hX : xApart E X) {b : Nat} : ∀ (n d : Nat) (r : dM) (pc : Nat) (lo : dL0) (st : List Value) (h : dH) (cs ss : Nat) (z : dY), drunX E X b n d r pc lo st h cs ss = some z → drunX E X b n (d + 1) r pc lo st h cs ss = some z := by
  intro n
  induction n with
  | zero => intro d r pc lo st h cs ss z hh; cases hh
  | succ n ih =>
    intro d r pc lo st h cs ss z hh
    rw [drunX] at hh
    cases hxa : dxat E X r pc with
    | some cls =>
      rw [hxa] at hh
      dsimp only at hh
      by_cases e9 : 8 ≤ d ∧ (st.map fun v => v.category).sum ≤ 8
      · rw [if_pos e9] at hh
        rw [drunX, hxa]
        dsimp only
        rw [if_pos ⟨Nat.le_succ_of_le e9.1, e9.2⟩]
        exact hh
      · rw [if_neg e9] at hh; cases hh
    | none =>
      rw [hxa] at hh
      dsimp only at hh
      cases hd : decode r.2.1 pc with
      | error x => rw [hd] at hh; cases hh
      | ok x =>
        obtain ⟨i, len⟩ := x
        rw [hd] at hh
        dsimp only at hh
        cases h1 : dpure i len pc r.2.2.1 lo st with
        | some w => rw [h1] at hh; rw [dx_pure hxa hd h1]; exact ih _ _ _ _ _ _ _ _ _ hh
        | none =>
          rw [h1] at hh
          dsimp only at hh
          cases h2 : dheap E b d r i len st h cs ss with
          | some g =>
            rw [h2] at hh
            have h2' : dheap E b (d + 1) r i len st h cs ss = some g := by
              cases d with
              | zero => exact dheap_up0 h2
              | succ d => rw [← dheap_up]; exact h2
            rw [dx_heap hxa hd h1 h2']; exact ih _ _ _ _ _ _ _ _ _ hh
          | none =>
            rw [h2] at hh
            dsimp only at hh
            cases d with
            | zero => cases hh
            | succ d =>
              dsimp only at hh
              have h2' : dheap E b (d + 2) r i len st h cs ss = none := by rw [← dheap_up]; exact h2
              cases h4 : dinv E r.2.2.2.2.2.1 i len st h with
              | none => rw [h4] at hh; cases hh
              | some y =>
                rw [h4] at hh
                dsimp only at hh
                cases h5 : drun E b n d y.1 0 (dent y.2.1) [] h 0 0 with
                | some w => rw [h5] at hh; rw [dx_call hxa hd h1 h2' h4 (drun_up _ _ _ _ _ _ _ _ _ _ h5)]; exact ih _ _ _ _ _ _ _ _ _ hh
                | none =>
                  rw [h5] at hh
                  dsimp only at hh
                  cases i with
                  | invokevirtual idx =>
                    dsimp only at hh
                    cases hz : drunX E X b n d y.1 0 (dent y.2.1) [] h 0 0 with
                    | none => rw [hz] at hh; cases hh
                    | some z2 =>
                      rw [hz] at hh
                      have hl : len = 3 := by
                        have h4 : dinvV E r.2.2.2.2.2.1 len idx st h = some y := h4
                        unfold dinvV at h4
                        split at h4
                        · split at h4
                          · split at h4
                            · split at h4
                              next e9 => exact e9.1
                              · cases h4
                            · cases h4
                          · cases h4
                        · cases h4
                      subst hl
                      rw [dx_callx hxa hd h2' h4 (drunX_not hX _ _ _ _ _ _ _ _ _ _ (ih _ _ _ _ _ _ _ _ _ hz) _) (ih _ _ _ _ _ _ _ _ _ hz)]
                      exact hh
                  | _ => cases hh
theorem gox_up {E : dE} {X : dX} (hX : xApart E X) {b d d' : Nat} {r : dM} {pc : Nat} {lo : dL0} {st : List Value} {h : dH} {cs ss : Nat} {z : dY} (hle : d ≤ d') (hh : dGoX E X b d r pc lo st h cs ss z) : dGoX E X b d' r pc lo st h cs ss z := by
  induction d' with
  | zero => obtain rfl : d = 0 := by omega
            exact hh
  | succ m ih =>
    by_cases e : d = m + 1
    · subst e; exact hh
    · obtain ⟨n, hn⟩ := ih (by omega)
      exact ⟨n, drunX_up hX _ _ _ _ _ _ _ _ _ _ hn⟩

end
