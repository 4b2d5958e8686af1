set_option maxHeartbeats 1600000
/-! the reference: independent, given -/
theorem i23 {a : Int32} (h : a = 23 ∨ a = 25) : (0 ≤ a ∧ a < 30 ∧ 0 ≤ a + 1 ∧ a + 1 < 30 ∧ (19 : Int32) ≠ a ∧ (21 : Int32) ≠ a ∧ (20 : Int32) ≠ a + 1 ∧ (22 : Int32) ≠ a + 1 ∧ 4 ≤ a ∧ 4 ≤ a + 1 ∧ a ≠ a + 1) ∧ (a + 1).toNatClampNeg = a.toNatClampNeg + 1 ∧ (a.toNatClampNeg = 23 ∨ a.toNatClampNeg = 25) := by
  rcases h with e | e <;> rw [e] <;> decide
theorem nms {k x : Nat} (h : k ≠ x) : k ∉ [x] := fun z => h (List.mem_singleton.mp z)
theorem product_c {C : rCx} (hC : cOK C)  {σ : rS} {a1 : Int32} {a2 : Int32} {a3 : Int32} {Q : rS → Prop} (hp : a1 = 19 ∧ a2 = 21 ∧ (a3 = 23 ∨ a3 = 25) ∧ numO σ 19 ∧ numO σ 20 ∧ numO σ 21 ∧ numO σ 22 ∧ 0 < nV σ 20 ∧ 0 < nV σ 22 ∧ nL σ 19 + nL σ 21 + 1 < 40000 ∧ nL σ 20 + nL σ 22 + 1 < 40000) (h : ∀ (σ' : rS), (frN [0, 1, 2, 3, a3.toNatClampNeg, a3.toNatClampNeg + 1] σ σ' ∧ numO σ' a3.toNatClampNeg ∧ numO σ' (a3.toNatClampNeg + 1)) → Q σ') : cV C 4 m_product [.ref (co C), .int a1, .int a2, .int a3] σ Q := by
  refine m_product_run hC ?_
  unfold w_product_0
  obtain ⟨e1, e2, h3, o19, o20, o21, o22, p20', p22, l1, l2⟩ := hp
  have i := i23 h3
  rw [e1, e2, show (19 : Int32) + 1 = 20 from rfl, show (21 : Int32) + 1 = 22 from rfl]
  refine times_c hC  ?_ (fun σ_1 q2 => ?_)
  · clear h; simp only [kn2]
    exact ⟨i.1.1, i.1.2.1, by decide, by decide, by decide, by decide, i.1.2.2.2.2.1, i.1.2.2.2.2.2.1, o19, o21, by omega⟩
  simp only [kn2] at q2
  have g20 := nV_fr q2.1 (k := 20) (nms (by have := i.2.2; omega)) o20
  have g22 := nV_fr q2.1 (k := 22) (nms (by have := i.2.2; omega)) o22
  refine times_c hC  ?_ (fun σ_3 q4 => ?_)
  · clear h; simp only [kn2]
    exact ⟨i.1.2.2.1, i.1.2.2.2.1, by decide, by decide, by decide, by decide, i.1.2.2.2.2.2.2.1, i.1.2.2.2.2.2.2.2.1, g20.1, g22.1, by have := g20.2.2; have := g22.2.2; omega⟩
  simp only [kn2] at q4
  rw [i.2.1] at q4
  have h3' := nV_fr q4.1 (k := a3.toNatClampNeg) (nms (by omega)) q2.2.1
  refine reduce_c hC  ?_ (fun σ_5 q6 => ?_)
  · clear h; rw [i.2.1]
    exact ⟨i.1.2.2.2.2.2.2.2.2.1, i.1.2.1, i.1.2.2.2.2.2.2.2.2.2.1, i.1.2.2.2.1, i.1.2.2.2.2.2.2.2.2.2.2, h3'.1, q4.2.1, by rw [q4.2.2.1, g20.2.1, g22.2.1]; exact Nat.mul_pos p20' p22, by have := h3'.2.2; have := q2.2.2.2; omega, by have := q4.2.2.2; have := g20.2.2; have := g22.2.2; omega⟩
  refine h _ ?_
  · clear h; rw [i.2.1] at q6
    exact ⟨frN_tr (frN_mono q2.1 (fun k hk => List.mem_append_right [0, 1, 2, 3] (by rw [List.mem_singleton.mp hk]; exact List.mem_cons_self))) (frN_tr (frN_mono q4.1 (fun k hk => List.mem_append_right [0, 1, 2, 3] (by rw [List.mem_singleton.mp hk]; exact List.mem_cons_of_mem _ List.mem_cons_self))) q6.1), q6.2.1, q6.2.2.1⟩

theorem isPairFree_c {C : rCx} (hC : cOK C) (s : Nat) {σ : rS} {a1 : Int32} {a2 : Int32} {a3 : Int32} {a4 : Int32} {a5 : Int32} {a6 : Int32} {Q : Int32 → rS → Prop} (hp : pOK σ ∧ s = (σ.1 70).toNatClampNeg ∧ (∀ k, k < s → vOK σ k) ∧ (a1 = -1 ∨ (0 ≤ a1 ∧ a1 < 34)) ∧ (a3 = -1 ∨ (0 ≤ a3 ∧ a3 < 34)) ∧ (a5 = -1 ∨ (0 ≤ a5 ∧ a5 < 34))) (h : ∀ (v : Int32) (σ' : rS), (frS [0, 1, 2, 3, 4, 5, 6, 7, 8, 9, 10, 19, 20, 21, 22, 23, 24, 25, 26] σ σ' ∧ nb v) → Q v σ') : cI C 7 m_isPairFree [.ref (co C), .int a1, .int a2, .int a3, .int a4, .int a5, .int a6] σ Q := by
  refine m_isPairFree_run hC ?_
  unfold w_isPairFree_0
  obtain ⟨hO, hs, hv, h1, h3, h5⟩ := hp
  have s1000 : s ≤ 1000 := by rw [hs]; exact cn_le (y := 1000) rfl hO.1.1.2
  refine weigh_c hC s ?_ (fun σ_1 q2 => ?_)
  · clear h; exact ⟨hO, hs, hv, h1, h3, h5, Or.inl rfl⟩  -- p1
  simp only [kn2, Nat.reduceAdd] at q2
  have F1 : frS [0, 1, 2, 3, 4, 5, 6, 7, 8, 9, 10, 19, 20, 21, 22, 23, 24, 25, 26] σ σ_1 := frS_mono q2.1 (sub_of rfl)
  refine weigh_c hC s ?_ (fun σ_3 q4 => ?_)
  · clear h; exact ⟨pOK_S hO F1, by rw [F1.1 70 (by decide)]; exact hs, fun k hk => vOK_f (F1.2.2.1 102 (by decide) (by decide)) (hv k hk), Or.inl rfl, Or.inl rfl, h5, Or.inr rfl⟩  -- p2
  simp only [kn2, Nat.reduceAdd] at q4
  have F3 := frS_tr F1 (frS_mono q4.1 (sub_of rfl))
  have g19 := nV_frS q4.1 (k := 19) (by decide) q2.2.1
  have g20 := nV_frS q4.1 (k := 20) (by decide) q2.2.2.1
  refine product_c hC  ?_ (fun σ_5 q6 => ?_)
  · clear h; exact ⟨rfl, rfl, Or.inl rfl, g19.1, g20.1, q4.2.1, q4.2.2.1, by rw [g20.2.1]; exact q2.2.2.2.1, q4.2.2.2.1, by have := g19.2.2; have := q2.2.2.2.2.1; have := q4.2.2.2.2.1; omega, by have := g20.2.2; have := q2.2.2.2.2.2; have := q4.2.2.2.2.2; omega⟩  -- p3
  simp only [kn2, Nat.reduceAdd] at q6
  have F5 := frS_tr F3 (frS_mono (frS_of q6.1) (sub_of rfl))
  refine weigh_c hC s ?_ (fun σ_7 q8 => ?_)
  · clear h; exact ⟨pOK_S hO F5, by rw [F5.1 70 (by decide)]; exact hs, fun k hk => vOK_f (F5.2.2.1 102 (by decide) (by decide)) (hv k hk), h1, Or.inl rfl, h5, Or.inl rfl⟩  -- p4
  simp only [kn2, Nat.reduceAdd] at q8
  have F7 := frS_tr F5 (frS_mono q8.1 (sub_of rfl))
  refine weigh_c hC s ?_ (fun σ_9 q10 => ?_)
  · clear h; exact ⟨pOK_S hO F7, by rw [F7.1 70 (by decide)]; exact hs, fun k hk => vOK_f (F7.2.2.1 102 (by decide) (by decide)) (hv k hk), Or.inl rfl, h3, h5, Or.inr rfl⟩  -- p5
  simp only [kn2, Nat.reduceAdd] at q10
  have F9 := frS_tr F7 (frS_mono q10.1 (sub_of rfl))
  have k19 := nV_frS q10.1 (k := 19) (by decide) q8.2.1
  have k20 := nV_frS q10.1 (k := 20) (by decide) q8.2.2.1
  refine product_c hC  ?_ (fun σ_11 q12 => ?_)
  · clear h; exact ⟨rfl, rfl, Or.inr rfl, k19.1, k20.1, q10.2.1, q10.2.2.1, by rw [k20.2.1]; exact q8.2.2.2.1, q10.2.2.2.1, by have := k19.2.2; have := q8.2.2.2.2.1; have := q10.2.2.2.2.1; omega, by have := k20.2.2; have := q8.2.2.2.2.2; have := q10.2.2.2.2.2; omega⟩  -- p6
  simp only [kn2, Nat.reduceAdd] at q12
  have F11 := frS_tr F9 (frS_mono (frS_of q12.1) (sub_of rfl))
  have m23 := nV_fr q12.1 (k := 23) (by decide) (nV_frS q10.1 (k := 23) (by decide) (nV_frS q8.1 (k := 23) (by decide) q6.2.1).1).1
  have m24 := nV_fr q12.1 (k := 24) (by decide) (nV_frS q10.1 (k := 24) (by decide) (nV_frS q8.1 (k := 24) (by decide) q6.2.2).1).1
  refine compare_c hC  ?_ (fun r13 q15 => ?_)
  · clear h; simp only [kn2]; exact ⟨by decide, by decide, by decide, by decide, m23.1, q12.2.1⟩  -- p7
  refine ⟨fun c16 => ?_, fun c16 => ?_⟩
  · skip
    refine h _ _ ?_
    · clear h; exact ⟨F11, nb_0⟩  -- q8
  · skip
    refine compare_c hC  ?_ (fun r17 q19 => ?_)
    · clear h; simp only [kn2]; exact ⟨by decide, by decide, by decide, by decide, m24.1, q12.2.2⟩  -- p9
    refine ⟨fun c20 => ?_, fun c20 => ?_⟩
    · skip
      refine h _ _ ?_
      · clear h; exact ⟨F11, nb_0⟩  -- q10
    · skip
      refine h _ _ ?_
      · clear h; exact ⟨F11, nb_1⟩  -- q11

/-- only fields of F, rows of R and numbers of l differ -/
def frU (F R l : List Nat) (σ τ : rS) : Prop := (∀ k, k ∉ F → τ.1 k = σ.1 k) ∧ τ.2.1 = σ.2.1 ∧ (∀ k, k ≠ 90 → k ≠ 91 → k ∉ R → τ.2.2.1 k = σ.2.2.1 k) ∧ τ.2.2.2 = σ.2.2.2 ∧ ∀ k, k ∉ l → τ.2.2.1 91 k = σ.2.2.1 91 k ∧ ∀ i, i < 40000 → τ.2.2.1 90 (40000 * k + i) = σ.2.2.1 90 (40000 * k + i)
theorem frU_rf {F R l : List Nat} {σ : rS} : frU F R l σ σ := ⟨fun _ _ => rfl, rfl, fun _ _ _ _ => rfl, rfl, fun _ _ => ⟨rfl, fun _ _ => rfl⟩⟩
theorem frU_tr {F R l : List Nat} {σ τ υ : rS} (h : frU F R l σ τ) (g : frU F R l τ υ) : frU F R l σ υ := ⟨fun k z => (g.1 k z).trans (h.1 k z), g.2.1.trans h.2.1, fun k z1 z2 z3 => (g.2.2.1 k z1 z2 z3).trans (h.2.2.1 k z1 z2 z3), g.2.2.2.1.trans h.2.2.2.1, fun k z => ⟨(g.2.2.2.2 k z).1.trans (h.2.2.2.2 k z).1, fun i hi => ((g.2.2.2.2 k z).2 i hi).trans ((h.2.2.2.2 k z).2 i hi)⟩⟩
theorem frU_S {F R l m : List Nat} {σ τ : rS} (h : frS l σ τ) (hF : 92 ∈ F) (hl : ∀ k, k ∈ l → k ∈ m) : frU F R m σ τ := ⟨fun k z => h.1 k (fun e => z (by rw [e]; exact hF)), h.2.1, fun k z1 z2 _ => h.2.2.1 k z1 z2, h.2.2.2.1, fun k z => h.2.2.2.2 k (fun e => z (hl k e))⟩
theorem frU_0 {F R l : List Nat} {σ : rS} {k : Nat} {x : Int32} (hk : k ∈ F) : frU F R l σ (siU σ k x) := ⟨fun q z => if_neg (fun e => z (by rw [e]; exact hk)), rfl, fun _ _ _ _ => rfl, rfl, fun _ _ => ⟨rfl, fun _ _ => rfl⟩⟩
theorem frU_X {F R S l : List Nat} {σ τ : rS} (h : frX S σ τ) (hS : ∀ k, k ∈ S → k ∈ R) (h0 : 90 ∉ S) (h1 : 91 ∉ S) : frU F R l σ τ := ⟨fun k _ => by rw [h.1], h.2.1, fun k _ _ z => h.2.2.1 k (fun e => z (hS k e)), h.2.2.2, fun k _ => ⟨by rw [h.2.2.1 91 h1], fun i _ => by rw [h.2.2.1 90 h0]⟩⟩
theorem frU_w {F G R S l m : List Nat} {σ τ : rS} (h : frU F R l σ τ) (hF : ∀ k, k ∈ F → k ∈ G) (hR : ∀ k, k ∈ R → k ∈ S) (hl : ∀ k, k ∈ l → k ∈ m) : frU G S m σ τ := ⟨fun k z => h.1 k (fun e => z (hF k e)), h.2.1, fun k z1 z2 z3 => h.2.2.1 k z1 z2 (fun e => z3 (hR k e)), h.2.2.2.1, fun k z => h.2.2.2.2 k (fun e => z (hl k e))⟩
abbrev ifF : List Nat := [0, 92, 124, 125]
abbrev ifR : List Nat := [120, 121, 122, 123]
abbrev ifL : List Nat := [0, 1, 2, 3, 4, 5, 6, 7, 8, 9, 10, 19, 20, 21, 22, 23, 24, 25, 26]
theorem pOK_U {σ τ : rS} (h : pOK σ) (f : frU ifF ifR ifL σ τ) : pOK τ := pOK_o h (fun k hk => f.1 k (by rcases hk with z | z | z <;> rw [z] <;> decide)) (fun k hk => f.2.2.1 k (by omega) (by omega) (by rcases hk with z | z | z | z | z | z | z <;> rw [z] <;> decide))
theorem vOK_U {σ τ : rS} {k : Nat} (h : vOK σ k) (f : frU ifF ifR ifL σ τ) : vOK τ k := vOK_f (f.2.2.1 102 (by decide) (by decide) (by decide)) h
theorem isFree_c {C : rCx} (hC : cOK C) (s : Nat) {σ : rS} {a1 : Int32} {a2 : Int32} {a3 : Int32} {a4 : Int32} {Q : Int32 → rS → Prop} (hp : pOK σ ∧ s = (σ.1 70).toNatClampNeg ∧ (∀ k, k < s → vOK σ k) ∧ 0 ≤ a1 ∧ a1 < 34 ∧ 0 ≤ a2 ∧ a2 < 34 ∧ (a3 = -1 ∨ (0 ≤ a3 ∧ a3 < 34))) (h : ∀ (v : Int32) (σ' : rS), (frU ifF [121, 122] ifL σ σ' ∧ nb v) → Q v σ') : cI C 8 m_isFree [.ref (co C), .int a1, .int a2, .int a3, .int a4] σ Q := by
  refine m_isFree_run hC ?_
  unfold w_isFree_0
  obtain ⟨hO, hs, hv, p0, p1, p2, p3, p4⟩ := hp
  have n71 := hO.1.2.1.2
  refine list_c hC  ?_ (fun r1 σ_2 q3 => ?_)
  · clear h; exact ⟨Or.inl rfl, hO.1, p0, p1, p4⟩  -- p1
  intro σ_4 hσ_4
  have U4 : frU ifF [121, 122] ifL σ σ_4 := by rw [hσ_4]; exact frU_tr (frU_X q3.1 (sub_of rfl) (by decide) (by decide)) (frU_0 (by decide))
  have O4 := pOK_U hO (frU_w U4 (fun k hk => hk) (sub_of rfl) (fun k hk => hk))
  refine list_c hC  ?_ (fun r5 σ_6 q7 => ?_)
  · clear h; exact ⟨Or.inr (Or.inl rfl), O4.1, p2, p3, p4⟩  -- p2
  intro σ_8 hσ_8
  have U8 : frU ifF [121, 122] ifL σ σ_8 := by rw [hσ_8]; exact frU_tr U4 (frU_tr (frU_X q7.1 (sub_of rfl) (by decide) (by decide)) (frU_0 (by decide)))
  have W8 : frU ifF ifR ifL σ σ_8 := frU_w U8 (fun k hk => hk) (sub_of rfl) (fun k hk => hk)
  have e71 : σ_8.1 71 = σ.1 71 := U8.1 71 (by decide)
  have e125 : σ_8.1 125 = r5 := by rw [hσ_8]; rfl
  have e124 : σ_8.1 124 = r1 := by rw [hσ_8, show (siU σ_6 125 r5).1 124 = σ_6.1 124 from rfl, q7.1.1, hσ_4]; rfl
  have r1k : r1 ≤ 1000 := Int32.le_trans q3.2.2 n71
  have r5k : r5 ≤ 1000 := Int32.le_trans q7.2.2 (by rw [U4.1 71 (by decide)]; exact n71)
  unfold w_isFree_35
  refine ⟨fun n l1 l2 l3 l4 l5 τ => n = (r1 - l5).toNatClampNeg ∧ (l1 = a1 ∧ l2 = a2 ∧ l3 = a3 ∧ l4 = a4 ∧ τ = σ_8 ∧ 0 ≤ l5 ∧ l5 ≤ r1), ⟨_, rfl, ?_⟩, ?_⟩
  · clear h; exact ⟨rfl, rfl, rfl, rfl, rfl, by decide, q3.2.1⟩  -- j3
  rintro n35 x35_1 x35_2 x35_3 x35_4 x35_5 σ35 ⟨hn35, i35⟩
  obtain ⟨e1, e2, e3, e4, e5, a0, a1'⟩ := i35
  rw [e5, e124]
  refine ⟨fun c9 => ?_, fun c9 => ?_⟩
  · skip
    unfold w_isFree_172
    refine ⟨fun n l1 l2 l3 l4 l5 τ => n = (r1 - l5).toNatClampNeg ∧ (l1 = a1 ∧ l2 = a2 ∧ l3 = a3 ∧ l4 = a4 ∧ frS ifL σ_8 τ ∧ 0 ≤ l5 ∧ l5 ≤ r1), ⟨_, rfl, ?_⟩, ?_⟩
    · clear h; exact ⟨e1, e2, e3, e4, frS_rf, by decide, q3.2.1⟩  -- j4
    rintro n172 x172_1 x172_2 x172_3 x172_4 x172_5 σ172 ⟨hn172, i172⟩
    obtain ⟨f1, f2, f3, f4, G, b0, b1⟩ := i172
    rw [G.1 124 (by decide), e124]
    refine ⟨fun c10 => ?_, fun c10 => ?_⟩
    · skip
      refine h _ _ ?_
      · clear h; exact ⟨frU_tr U8 (frU_S G (by decide) (fun k hk => hk)), nb_1⟩  -- q5
    · skip
      refine ⟨fun c11 => ?_, fun c11 => ?_⟩
      · skip
        refine h _ _ ?_
        · clear h; exact ⟨frU_tr U8 (frU_S G (by decide) (fun k hk => hk)), nb_1⟩  -- q6
      · skip
        have u := uk b0 c10 r1k
        unfold w_isFree_191
        refine ⟨fun n l1 l2 l3 l4 l5 l6 τ => n = (r5 - l6).toNatClampNeg ∧ (l1 = a1 ∧ l2 = a2 ∧ l3 = a3 ∧ l4 = a4 ∧ l5 = x172_5 ∧ frS ifL σ_8 τ ∧ 0 ≤ l6 ∧ l6 ≤ r5), ⟨_, rfl, ?_⟩, ?_⟩
        · clear h; exact ⟨f1, f2, f3, f4, rfl, G, by decide, q7.2.1⟩  -- j7
        rintro n191 x191_1 x191_2 x191_3 x191_4 x191_5 x191_6 σ191 ⟨hn191, i191⟩
        obtain ⟨g1, g2, g3, g4, g5, H, d0, d1⟩ := i191
        rw [H.1 125 (by decide), e125, g5]
        refine ⟨fun c12 => ?_, fun c12 => ?_⟩
        · skip
          intro x13 hx13
          refine ⟨_, cn_lt2 hn172 ?_ ?_, rfl, ?_⟩
          · clear h; rw [hx13]; exact u.1  -- d8
          · clear h; rw [hx13]; exact u.2.1  -- d9
          · clear h; rw [hx13]; exact ⟨g1, g2, g3, g4, H, u.2.2.1, u.2.2.2.1⟩  -- i10
        · skip
          have w := uk d0 c12 r5k
          have U191 := frU_tr W8 (frU_S H (by decide) (fun k hk => hk))
          refine ⟨ib_1000.mpr ?_, ?_⟩
          · clear h; exact ⟨b0, u.2.2.2.2.2⟩  -- b11
          refine ⟨ib_1000.mpr ?_, ?_⟩
          · clear h; exact ⟨d0, w.2.2.2.2.2⟩  -- b12
          refine isPairFree_c hC s ?_ (fun r14 σ_15 q16 => ?_)
          · clear h; rw [g1, g2, g3]
            exact ⟨pOK_U hO U191, by rw [U191.1 70 (by decide)]; exact hs, fun k hk => vOK_U (hv k hk) U191, Or.inr ⟨p0, p1⟩, Or.inr ⟨p2, p3⟩, p4⟩
          refine ⟨fun c17 => ?_, fun c17 => ?_⟩
          · skip
            intro x18 hx18
            refine ⟨_, cn_lt2 hn191 ?_ ?_, rfl, ?_⟩
            · clear h; rw [hx18]; exact w.1  -- d14
            · clear h; rw [hx18]; exact w.2.1  -- d15
            · clear h; rw [hx18]; exact ⟨g1, g2, g3, g4, rfl, frS_tr H q16.1, w.2.2.1, w.2.2.2.1⟩  -- i16
          · skip
            refine h _ _ ?_
            · clear h; exact ⟨frU_tr U8 (frU_S (frS_tr H q16.1) (by decide) (fun k hk => hk)), nb_0⟩  -- q17
  · skip
    have u := uk a0 c9 r1k
    unfold w_isFree_47
    refine ⟨fun n l1 l2 l3 l4 l5 l6 τ => n = (r5 - l6).toNatClampNeg ∧ (l1 = a1 ∧ l2 = a2 ∧ l3 = a3 ∧ l4 = a4 ∧ l5 = x35_5 ∧ τ = σ_8 ∧ 0 ≤ l6 ∧ l6 ≤ r5), ⟨_, rfl, ?_⟩, ?_⟩
    · clear h; exact ⟨e1, e2, e3, e4, rfl, rfl, by decide, q7.2.1⟩  -- j18
    rintro n47 x47_1 x47_2 x47_3 x47_4 x47_5 x47_6 σ47 ⟨hn47, i47⟩
    have hj150 : ∀ (l1 : Int32) (l2 : Int32) (l3 : Int32) (l4 : Int32) (l5 : Int32) (l6 : Int32) (l7 : Int32) (τ : rS), (l1 = a1 ∧ l2 = a2 ∧ l3 = a3 ∧ l4 = a4 ∧ l5 = x35_5 ∧ l6 = x47_6 ∧ τ = σ_8 ∧ ¬ r5 ≤ x47_6) → w_isFree_150 C Q (fun l1' l2' l3' l4' l5' τ => ∃ k < n35, (fun n l1 l2 l3 l4 l5 τ => n = (r1 - l5).toNatClampNeg ∧ (l1 = a1 ∧ l2 = a2 ∧ l3 = a3 ∧ l4 = a4 ∧ τ = σ_8 ∧ 0 ≤ l5 ∧ l5 ≤ r1)) k l1' l2' l3' l4' l5' τ) (fun l1' l2' l3' l4' l5' l6' τ => ∃ k < n47, (fun n l1 l2 l3 l4 l5 l6 τ => n = (r5 - l6).toNatClampNeg ∧ (l1 = a1 ∧ l2 = a2 ∧ l3 = a3 ∧ l4 = a4 ∧ l5 = x35_5 ∧ τ = σ_8 ∧ 0 ≤ l6 ∧ l6 ≤ r5)) k l1' l2' l3' l4' l5' l6' τ) l1 l2 l3 l4 l5 l6 l7 τ := by
      rintro y150_1 y150_2 y150_3 y150_4 y150_5 y150_6 y150_7 τ150 j150
      unfold w_isFree_150
      obtain ⟨g1, g2, g3, g4, g5, g6, d0, d1⟩ := i47
      obtain ⟨y1, y2, y3, y4, y5, y6, y7, y8⟩ := j150
      have w := uk d0 y8 r5k
      rw [y7]
      refine ⟨fun c19 => ?_, fun c19 => ?_⟩
      · skip
        intro x20 hx20
        refine ⟨_, cn_lt2 hn47 ?_ ?_, rfl, ?_⟩
        · clear h; rw [hx20, y6]; exact w.1  -- d19
        · clear h; rw [hx20, y6]; exact w.2.1  -- d20
        · clear h; rw [hx20, y6]; exact ⟨y1, y2, y3, y4, y5, rfl, w.2.2.1, w.2.2.2.1⟩  -- i21
      · skip
        refine h _ _ ?_
        · clear h; exact ⟨U8, nb_0⟩  -- q22
    obtain ⟨g1, g2, g3, g4, g5, g6, d0, d1⟩ := i47
    rw [g6, e125, g5]
    refine ⟨fun c21 => ?_, fun c21 => ?_⟩
    · skip
      intro x22 hx22
      refine ⟨_, cn_lt2 hn35 ?_ ?_, rfl, ?_⟩
      · clear h; rw [hx22]; exact u.1  -- d23
      · clear h; rw [hx22]; exact u.2.1  -- d24
      · clear h; rw [hx22]; exact ⟨g1, g2, g3, g4, rfl, u.2.2.1, u.2.2.2.1⟩  -- i25
    · skip
      have w := uk d0 c21 r5k
      unfold w_isFree_62
      refine ⟨fun n l1 l2 l3 l4 l5 l6 l7 l8 τ => n = (σ.1 71 - l8).toNatClampNeg ∧ (l1 = a1 ∧ l2 = a2 ∧ l3 = a3 ∧ l4 = a4 ∧ l5 = x35_5 ∧ l6 = x47_6 ∧ τ = σ_8 ∧ 0 ≤ l8 ∧ l8 ≤ σ.1 71), ⟨_, rfl, ?_⟩, ?_⟩
      · clear h; exact ⟨g1, g2, g3, g4, rfl, rfl, rfl, by decide, hO.1.2.1.1⟩  -- j26
      rintro n62 x62_1 x62_2 x62_3 x62_4 x62_5 x62_6 x62_7 x62_8 σ62 ⟨hn62, i62⟩
      have hj142 : ∀ (l1 : Int32) (l2 : Int32) (l3 : Int32) (l4 : Int32) (l5 : Int32) (l6 : Int32) (l8 : Int32) (s0 : Int32) (τ : rS), (l1 = a1 ∧ l2 = a2 ∧ l3 = a3 ∧ l4 = a4 ∧ l5 = x35_5 ∧ l6 = x47_6 ∧ τ = σ_8 ∧ l8 = x62_8 ∧ ¬ σ.1 71 ≤ x62_8) → w_isFree_142 C Q (fun l1' l2' l3' l4' l5' τ => ∃ k < n35, (fun n l1 l2 l3 l4 l5 τ => n = (r1 - l5).toNatClampNeg ∧ (l1 = a1 ∧ l2 = a2 ∧ l3 = a3 ∧ l4 = a4 ∧ τ = σ_8 ∧ 0 ≤ l5 ∧ l5 ≤ r1)) k l1' l2' l3' l4' l5' τ) (fun l1' l2' l3' l4' l5' l6' τ => ∃ k < n47, (fun n l1 l2 l3 l4 l5 l6 τ => n = (r5 - l6).toNatClampNeg ∧ (l1 = a1 ∧ l2 = a2 ∧ l3 = a3 ∧ l4 = a4 ∧ l5 = x35_5 ∧ τ = σ_8 ∧ 0 ≤ l6 ∧ l6 ≤ r5)) k l1' l2' l3' l4' l5' l6' τ) (fun l1' l2' l3' l4' l5' l6' l7' l8' τ => ∃ k < n62, (fun n l1 l2 l3 l4 l5 l6 l7 l8 τ => n = (σ.1 71 - l8).toNatClampNeg ∧ (l1 = a1 ∧ l2 = a2 ∧ l3 = a3 ∧ l4 = a4 ∧ l5 = x35_5 ∧ l6 = x47_6 ∧ τ = σ_8 ∧ 0 ≤ l8 ∧ l8 ≤ σ.1 71)) k l1' l2' l3' l4' l5' l6' l7' l8' τ) l1 l2 l3 l4 l5 l6 l8 s0 τ := by
        rintro y142_1 y142_2 y142_3 y142_4 y142_5 y142_6 y142_8 y142_s0 τ142 j142
        unfold w_isFree_142
        intro x23 hx23
        obtain ⟨t1, t2, t3, t4, t5, t6, t7, t8, t9⟩ := i62
        obtain ⟨y1, y2, y3, y4, y5, y6, y7, y8, y9⟩ := j142
        have z := uk t8 y9 n71
        refine ⟨_, cn_lt2 hn62 ?_ ?_, rfl, ?_⟩
        · clear h; rw [hx23, y8]; exact z.1  -- d27
        · clear h; rw [hx23, y8]; exact z.2.1  -- d28
        · clear h; rw [hx23, y8]; exact ⟨y1, y2, y3, y4, y5, y6, y7, z.2.2.1, z.2.2.2.1⟩  -- i29
      obtain ⟨t1, t2, t3, t4, t5, t6, t7, t8, t9⟩ := i62
      rw [t7, e71, t5, t6]
      refine ⟨fun c24 => ?_, fun c24 => ?_⟩
      · skip
        refine hj150 _ _ _ _ _ _ _ _ ?_
        · clear h; exact ⟨t1, t2, t3, t4, rfl, rfl, rfl, c21⟩  -- k30
      · skip
        refine ⟨fun c25 => ?_, fun c25 => ?_⟩
        · skip
          refine hj150 _ _ _ _ _ _ _ _ ?_
          · clear h; exact ⟨t1, t2, t3, t4, rfl, rfl, rfl, c21⟩  -- k31
        · skip
          have z := uk t8 c24 n71
          refine ⟨ib_1000.mpr ?_, ?_⟩
          · clear h; exact ⟨t8, z.2.2.2.2.2⟩  -- b32
          refine ⟨fun c26 => ?_, fun c26 => ?_⟩
          · skip
            refine hj142 _ _ _ _ _ _ _ _ _ ?_
            · clear h; exact ⟨t1, t2, t3, t4, rfl, rfl, rfl, rfl, c24⟩  -- k33
          · skip
            refine told_c hC  ?_ (fun r27 q29 => ?_)
            · clear h; rw [t1]; exact ⟨t8, z.2.2.2.2.2, p0, p1⟩  -- p34
            refine ⟨ib_1000.mpr ?_, ?_⟩
            · clear h; exact ⟨a0, u.2.2.2.2.2⟩  -- b35
            refine ⟨fun c30 => ?_, fun c30 => ?_⟩
            · skip
              refine hj142 _ _ _ _ _ _ _ _ _ ?_
              · clear h; exact ⟨t1, t2, t3, t4, rfl, rfl, rfl, rfl, c24⟩  -- k36
            · skip
              refine told_c hC  ?_ (fun r31 q33 => ?_)
              · clear h; rw [t2]; exact ⟨t8, z.2.2.2.2.2, p2, p3⟩  -- p37
              refine ⟨ib_1000.mpr ?_, ?_⟩
              · clear h; exact ⟨d0, w.2.2.2.2.2⟩  -- b38
              refine ⟨fun c34 => ?_, fun c34 => ?_⟩
              · skip
                refine hj142 _ _ _ _ _ _ _ _ _ ?_
                · clear h; exact ⟨t1, t2, t3, t4, rfl, rfl, rfl, rfl, c24⟩  -- k39
              · skip
                refine ⟨fun c35 => ?_, fun c35 => ?_⟩
                · skip
                  refine hj142 _ _ _ _ _ _ _ _ _ ?_
                  · clear h; exact ⟨t1, t2, t3, t4, rfl, rfl, rfl, rfl, c24⟩  -- k40
                · skip
                  refine told_c hC  ?_ (fun r36 q38 => ?_)
                  · clear h; rw [t3] at c35 ⊢
                    have q := p4.resolve_left c35
                    exact ⟨t8, z.2.2.2.2.2, q.1, q.2⟩
                  refine ⟨fun c39 => ?_, fun c39 => ?_⟩
                  · skip
                    refine hj142 _ _ _ _ _ _ _ _ _ ?_
                    · clear h; exact ⟨t1, t2, t3, t4, rfl, rfl, rfl, rfl, c24⟩  -- k42
                  · skip
                    refine hj142 _ _ _ _ _ _ _ _ _ ?_
                    · clear h; exact ⟨t1, t2, t3, t4, rfl, rfl, rfl, rfl, c24⟩  -- k43

theorem independent_c {C : rCx} (hC : cOK C) (s : Nat) {σ : rS} {a1 : Int32} {a2 : Int32} {Q : Int32 → rS → Prop} (hp : pOK σ ∧ s = (σ.1 70).toNatClampNeg ∧ (σ.1 94 ≠ 0 → ∀ k, k < s → vOK σ k) ∧ σ.1 15 + σ.1 17 ≤ 34) (h : ∀ (v : Int32) (σ' : rS), (frU ifF ifR ifL σ σ') → Q v σ') : cI C 9 m_independent [.ref (co C), .int a1, .int a2] σ Q := by
  refine m_independent_run hC ?_
  unfold w_independent_0
  obtain ⟨hO, hs, hv, h34⟩ := hp
  have hj33 : ∀ (l1 : Int32) (l2 : Int32) (s1 : Int32) (τ : rS), (l1 = a1 ∧ l2 = a2 ∧ τ = σ ∧ (s1 ≤ 0 → σ.1 94 ≠ 0 ∧ (0 ≤ a1 ∧ a1 < σ.1 15 + σ.1 17) ∧ (0 ≤ a2 ∧ a2 < σ.1 15 + σ.1 17))) → w_independent_33 C Q  l1 l2 s1 τ := by
    rintro y33_1 y33_2 y33_s1 τ33 j33
    unfold w_independent_33
    intro σ_1 hσ_1
    obtain ⟨y1, y2, y3, y4⟩ := j33
    have U1 : frU ifF ifR ifL σ σ_1 := by rw [hσ_1, y3]; exact frU_0 (by decide)
    have e0 : σ_1.1 0 = y33_s1 := by rw [hσ_1]; rfl
    rw [y1, y2]
    refine ⟨fun c2 => ?_, fun c2 => ?_⟩
    · skip
      refine findHeavy_c hC  ?_ (fun σ_3 q4 => ?_)
      · clear h; exact pOK_U hO U1  -- p1
      refine isFree_c hC s ?_ (fun r5 σ_6 q7 => ?_)
      · clear h; have c := y4 (by rw [← e0]; exact c2)
        have U3 := frU_tr U1 (frU_X q4 (sub_of rfl) (by decide) (by decide))
        exact ⟨pOK_U hO U3, by rw [U3.1 70 (by decide)]; exact hs, fun k hk => vOK_U (hv c.1 k hk) U3, c.2.1.1, Int32.lt_of_lt_of_le c.2.1.2 h34, c.2.2.1, Int32.lt_of_lt_of_le c.2.2.2 h34, Or.inl rfl⟩
      refine ⟨?_, h _ _ ?_⟩
      · clear h; exact q7.2  -- b3
      · clear h; exact frU_tr (frU_tr U1 (frU_X q4 (sub_of rfl) (by decide) (by decide))) (frU_w q7.1 (fun k hk => hk) (sub_of rfl) (fun k hk => hk))  -- q4
    · skip
      refine h _ _ ?_
      · clear h; exact U1  -- q5
  refine ⟨fun c8 => ?_, fun c8 => ?_⟩
  · skip
    refine isGlobal_c hC  (fun r9 q11 => ?_)
    refine ⟨fun c12 => ?_, fun c12 => ?_⟩
    · skip
      refine hj33 _ _ _ _ ?_
      · clear h; exact ⟨rfl, rfl, rfl, fun z => absurd z (by decide)⟩  -- k6
    · skip
      refine isGlobal_c hC  (fun r13 q15 => ?_)
      refine ⟨fun c16 => ?_, fun c16 => ?_⟩
      · skip
        refine hj33 _ _ _ _ ?_
        · clear h; exact ⟨rfl, rfl, rfl, fun _ => ⟨c8, q11.2.mp c12, q15.2.mp c16⟩⟩  -- k7
      · skip
        refine hj33 _ _ _ _ ?_
        · clear h; exact ⟨rfl, rfl, rfl, fun z => absurd z (by decide)⟩  -- k8
  · skip
    refine hj33 _ _ _ _ ?_
    · clear h; exact ⟨rfl, rfl, rfl, fun z => absurd z (by decide)⟩  -- k9

theorem given_c {C : rCx} (hC : cOK C) (s : Nat) {σ : rS} {a1 : Int32} {a2 : Int32} {a3 : Int32} {Q : Int32 → rS → Prop} (hp : pOK σ ∧ s = (σ.1 70).toNatClampNeg ∧ (σ.1 94 ≠ 0 → ∀ k, k < s → vOK σ k) ∧ σ.1 15 + σ.1 17 ≤ 34) (h : ∀ (v : Int32) (σ' : rS), (frU ifF ifR ifL σ σ') → Q v σ') : cI C 9 m_given [.ref (co C), .int a1, .int a2, .int a3] σ Q := by
  refine m_given_run hC ?_
  unfold w_given_0
  obtain ⟨hO, hs, hv, h34⟩ := hp
  have n71 := hO.1.2.1.2
  have hj41 : ∀ (l1 : Int32) (l2 : Int32) (l3 : Int32) (s1 : Int32) (τ : rS), (l1 = a1 ∧ l2 = a2 ∧ l3 = a3 ∧ τ = σ ∧ (s1 ≤ 0 → σ.1 94 ≠ 0 ∧ (0 ≤ a1 ∧ a1 < σ.1 15 + σ.1 17) ∧ (0 ≤ a2 ∧ a2 < σ.1 15 + σ.1 17) ∧ (0 ≤ a3 ∧ a3 < σ.1 15 + σ.1 17))) → w_given_41 C Q  l1 l2 l3 s1 τ := by
    rintro y41_1 y41_2 y41_3 y41_s1 τ41 j41
    unfold w_given_41
    intro σ_1 hσ_1
    obtain ⟨y1, y2, y3, y4, y5⟩ := j41
    have U1 : frU ifF ifR ifL σ σ_1 := by rw [hσ_1, y4]; exact frU_0 (by decide)
    have e0 : σ_1.1 0 = y41_s1 := by rw [hσ_1]; rfl
    rw [y1, y2, y3]
    refine ⟨fun c2 => ?_, fun c2 => ?_⟩
    · skip
      refine findHeavy_c hC  ?_ (fun σ_3 q4 => ?_)
      · clear h; exact pOK_U hO U1  -- p1
      have c := y5 (by rw [← e0]; exact c2)
      have U3 := frU_tr U1 (frU_X q4 (sub_of rfl) (by decide) (by decide))
      refine list_c hC  ?_ (fun r5 σ_6 q7 => ?_)
      · clear h; exact ⟨Or.inr (Or.inr rfl), (pOK_U hO U3).1, c.2.2.2.1, Int32.lt_of_lt_of_le c.2.2.2.2 h34, Or.inl rfl⟩  -- p2
      have U6 := frU_tr U3 (frU_X q7.1 (sub_of rfl) (by decide) (by decide))
      have r5k : r5 ≤ 1000 := Int32.le_trans q7.2.2 (by rw [U3.1 71 (by decide)]; exact n71)
      unfold w_given_76
      refine ⟨fun n l1 l2 l3 l4 l5 l6 τ => n = (r5 - l6).toNatClampNeg ∧ (l1 = a1 ∧ l2 = a2 ∧ l3 = a3 ∧ frU ifF ifR ifL σ τ ∧ l4 = r5 ∧ nb l5 ∧ 0 ≤ l6 ∧ l6 ≤ r5), ⟨_, rfl, ?_⟩, ?_⟩
      · clear h; exact ⟨rfl, rfl, rfl, U6, rfl, nb_1, by decide, q7.2.1⟩  -- j3
      rintro n76 x76_1 x76_2 x76_3 x76_4 x76_5 x76_6 σ76 ⟨hn76, i76⟩
      obtain ⟨g1, g2, g3, H, g4, g5, d0, d1⟩ := i76
      rw [g4]
      refine ⟨fun c8 => ?_, fun c8 => ?_⟩
      · skip
        refine ⟨?_, h _ _ ?_⟩
        · clear h; exact g5  -- b4
        · clear h; exact H  -- q5
      · skip
        refine ⟨fun c9 => ?_, fun c9 => ?_⟩
        · skip
          refine ⟨?_, h _ _ ?_⟩
          · clear h; exact g5  -- b6
          · clear h; exact H  -- q7
        · skip
          have w := uk d0 c8 r5k
          refine ⟨ib_1000.mpr ?_, ?_⟩
          · clear h; exact ⟨d0, w.2.2.2.2.2⟩  -- b8
          refine isFree_c hC s ?_ (fun r10 σ_11 q12 => ?_)
          · clear h; rw [g1, g2, g3]
            exact ⟨pOK_U hO H, by rw [H.1 70 (by decide)]; exact hs, fun k hk => vOK_U (hv c.1 k hk) H, c.2.1.1, Int32.lt_of_lt_of_le c.2.1.2 h34, c.2.2.1.1, Int32.lt_of_lt_of_le c.2.2.1.2 h34, Or.inr ⟨c.2.2.2.1, Int32.lt_of_lt_of_le c.2.2.2.2 h34⟩⟩
          intro x13 hx13
          refine ⟨_, cn_lt2 hn76 ?_ ?_, rfl, ?_⟩
          · clear h; rw [hx13]; exact w.1  -- d10
          · clear h; rw [hx13]; exact w.2.1  -- d11
          · clear h; rw [hx13]; exact ⟨g1, g2, g3, frU_tr H (frU_w q12.1 (fun k hk => hk) (sub_of rfl) (fun k hk => hk)), rfl, q12.2, w.2.2.1, w.2.2.2.1⟩  -- i12
    · skip
      refine h _ _ ?_
      · clear h; exact U1  -- q13
  refine ⟨fun c14 => ?_, fun c14 => ?_⟩
  · skip
    refine isGlobal_c hC  (fun r15 q17 => ?_)
    refine ⟨fun c18 => ?_, fun c18 => ?_⟩
    · skip
      refine hj41 _ _ _ _ _ ?_
      · clear h; exact ⟨rfl, rfl, rfl, rfl, fun z => absurd z (by decide)⟩  -- k14
    · skip
      refine isGlobal_c hC  (fun r19 q21 => ?_)
      refine ⟨fun c22 => ?_, fun c22 => ?_⟩
      · skip
        refine hj41 _ _ _ _ _ ?_
        · clear h; exact ⟨rfl, rfl, rfl, rfl, fun z => absurd z (by decide)⟩  -- k15
      · skip
        refine isGlobal_c hC  (fun r23 q25 => ?_)
        refine ⟨fun c26 => ?_, fun c26 => ?_⟩
        · skip
          refine hj41 _ _ _ _ _ ?_
          · clear h; exact ⟨rfl, rfl, rfl, rfl, fun _ => ⟨c14, q17.2.mp c18, q21.2.mp c22, q25.2.mp c26⟩⟩  -- k16
        · skip
          refine hj41 _ _ _ _ _ ?_
          · clear h; exact ⟨rfl, rfl, rfl, rfl, fun z => absurd z (by decide)⟩  -- k17
  · skip
    refine hj41 _ _ _ _ _ ?_
    · clear h; exact ⟨rfl, rfl, rfl, rfl, fun z => absurd z (by decide)⟩  -- k18
