set_option maxHeartbeats 1600000
/-! the reference: weigh -/
theorem i19 {a : Int32} (h : a = 19 ∨ a = 21) : (0 ≤ a ∧ a < 30 ∧ 0 ≤ a + 1 ∧ a + 1 < 30 ∧ a ≠ 4 ∧ a + 1 ≠ 5) ∧ (a + 1).toNatClampNeg = a.toNatClampNeg + 1 ∧ (a.toNatClampNeg = 19 ∨ a.toNatClampNeg = 21) := by
  rcases h with e | e <;> rw [e] <;> decide
theorem weigh_c {C : rCx} (hC : cOK C) (s : Nat) {σ : rS} {a1 : Int32} {a2 : Int32} {a3 : Int32} {a4 : Int32} {a5 : Int32} {a6 : Int32} {a7 : Int32} {Q : rS → Prop} (hp : pOK σ ∧ s = (σ.1 70).toNatClampNeg ∧ (∀ k, k < s → vOK σ k) ∧ (a1 = -1 ∨ (0 ≤ a1 ∧ a1 < 34)) ∧ (a3 = -1 ∨ (0 ≤ a3 ∧ a3 < 34)) ∧ (a5 = -1 ∨ (0 ≤ a5 ∧ a5 < 34)) ∧ (a7 = 19 ∨ a7 = 21)) (h : ∀ (σ' : rS), (frS [0, 1, 2, 3, 4, 5, 6, 7, 8, 9, 10, a7.toNatClampNeg, a7.toNatClampNeg + 1] σ σ' ∧ numO σ' a7.toNatClampNeg ∧ numO σ' (a7.toNatClampNeg + 1) ∧ 0 < nV σ' (a7.toNatClampNeg + 1) ∧ nL σ' a7.toNatClampNeg ≤ 18 * s + 21 ∧ nL σ' (a7.toNatClampNeg + 1) ≤ 18 * s + 1) → Q σ') : cV C 6 m_weigh [.ref (co C), .int a1, .int a2, .int a3, .int a4, .int a5, .int a6, .int a7] σ Q := by
  refine m_weigh_run hC ?_
  unfold w_weigh_0
  obtain ⟨hO, hs, hv, h1, h3, h5, h7⟩ := hp
  refine clearSum_c hC  (fun σ_1 q2 => ?_)
  unfold w_weigh_7
  refine ⟨fun n l1 l2 l3 l4 l5 l6 l7 l8 τ => n = (σ.1 70 - l8).toNatClampNeg ∧ (l1 = a1 ∧ l2 = a2 ∧ l3 = a3 ∧ l4 = a4 ∧ l5 = a5 ∧ l6 = a6 ∧ l7 = a7 ∧ frS [0, 1, 2, 3, 4, 5, 6, 7, 8, 9, 10] σ τ ∧ 0 ≤ l8 ∧ l8 ≤ σ.1 70 ∧ ∃ d S, d ≤ 20000 ∧ (l8 < σ.1 70 → d ≤ loN σ l8.toNatClampNeg) ∧ siS σ τ s d S), ⟨_, rfl, ?_⟩, ?_⟩
  · clear h; exact ⟨rfl, rfl, rfl, rfl, rfl, rfl, rfl, frS_mono q2.1 (sub_of rfl), by decide, hO.1.1.1, 0, 0, by decide, fun _ => Nat.zero_le _, siS_0 q2.2⟩  -- j1
  rintro n7 x7_1 x7_2 x7_3 x7_4 x7_5 x7_6 x7_7 x7_8 σ7 ⟨hn7, i7⟩
  obtain ⟨e1, e2, e3, e4, e5, e6, e7, F, a0, a1', d, S0, d1, d2, J⟩ := i7
  have e70 := F.1 70 (by decide)
  have e76 := F.2.2.1 76 (by decide) (by decide)
  have L := siS_L hO hs hv (by omega) J
  have i9 := i19 h7
  rw [e70, e76, e7]
  refine ⟨fun c3 => ?_, fun c3 => ?_⟩
  · skip
    refine copy_v hC  ?_ (fun σ_4 q5 => ?_)
    · clear h; exact ⟨i9.1.1, i9.1.2.1, by decide, by decide, i9.1.2.2.2.2.1, L.1⟩  -- p2
    have g5 := nV_fr q5.1 (k := 5) (fun z => by have := List.mem_singleton.mp z; have := i9.2.2; omega) L.2.1
    refine copy_v hC  ?_ (fun σ_6 q7 => ?_)
    · clear h; exact ⟨i9.1.2.2.1, i9.1.2.2.2.1, by decide, by decide, i9.1.2.2.2.2.2, g5.1⟩  -- p3
    rw [i9.2.1] at q7
    have g7 := nV_fr q7.1 (k := a7.toNatClampNeg) (fun z => by have := List.mem_singleton.mp z; omega) q5.2.1
    refine h _ ?_
    · clear h; refine ⟨frS_tr (frS_mono F (fun k hk => List.mem_append_left [a7.toNatClampNeg, a7.toNatClampNeg + 1] hk)) (frS_tr (frS_mono (frS_of q5.1) (fun k hk => List.mem_append_right [0, 1, 2, 3, 4, 5, 6, 7, 8, 9, 10] (by rw [List.mem_singleton.mp hk]; exact List.mem_cons_self))) (frS_mono (frS_of q7.1) (fun k hk => List.mem_append_right [0, 1, 2, 3, 4, 5, 6, 7, 8, 9, 10] (by rw [List.mem_singleton.mp hk]; exact List.mem_cons_of_mem _ List.mem_cons_self)))), g7.1, q7.2.1, ?_, ?_, ?_⟩
      · rw [q7.2.2.1]
        have z : nV σ_4 5 = nV σ7 5 := g5.2.1
        show 0 < nV σ_4 5
        rw [z]; exact L.2.2.1
      · have z : nL σ_4 a7.toNatClampNeg = nL σ7 4 := q5.2.2.2
        have := L.2.2.2.2.1
        have := g7.2.2
        omega
      · have z : nL σ_6 (a7.toNatClampNeg + 1) = nL σ_4 5 := q7.2.2.2
        have := L.2.2.2.1
        have := g5.2.2
        omega
  · skip
    have u := uk a0 c3 hO.1.1.2
    have st := ex_st hO.1 a0 u.2.2.2.2.1
    have as := cn_succ a0 (Int32.lt_trans u.2.2.2.2.2 (by decide))
    have ks : x7_8.toNatClampNeg < s := by rw [hs]; exact cn_lt a0 u.2.2.2.2.1
    have hi2 := Int32.le_trans st.2.2.1 hO.1.2.2.1.2
    refine ⟨ib_1001.mpr ?_, ?_⟩
    · clear h; exact ⟨a0, Int32.lt_trans u.2.2.2.2.2 (by decide)⟩  -- b5
    intro x8 hx8
    unfold w_weigh_25
    refine ⟨fun n l1 l2 l3 l4 l5 l6 l7 l8 l9 τ => n = (σ.2.2.1 76 (x7_8.toNatClampNeg + 1) - l9).toNatClampNeg ∧ (l1 = a1 ∧ l2 = a2 ∧ l3 = a3 ∧ l4 = a4 ∧ l5 = a5 ∧ l6 = a6 ∧ l7 = a7 ∧ l8 = x7_8 ∧ frS [0, 1, 2, 3, 4, 5, 6, 7, 8, 9, 10] σ τ ∧ σ.2.2.1 76 x7_8.toNatClampNeg ≤ l9 ∧ l9 ≤ σ.2.2.1 76 (x7_8.toNatClampNeg + 1) ∧ ∃ S, siS σ τ s l9.toNatClampNeg S), ⟨_, rfl, ?_⟩, ?_⟩
    · clear h; rw [hx8]
      exact ⟨e1, e2, e3, e4, e5, e6, rfl, rfl, F, Int32.le_refl _, st.2.1, S0, siS_mono J (d2 u.2.2.2.2.1)⟩
    rintro n25 x25_1 x25_2 x25_3 x25_4 x25_5 x25_6 x25_7 x25_8 x25_9 σ25 ⟨hn25, i25⟩
    have hj132 : ∀ (l1 : Int32) (l2 : Int32) (l3 : Int32) (l4 : Int32) (l5 : Int32) (l6 : Int32) (l7 : Int32) (l8 : Int32) (l9 : Int32) (τ : rS), (l1 = a1 ∧ l2 = a2 ∧ l3 = a3 ∧ l4 = a4 ∧ l5 = a5 ∧ l6 = a6 ∧ l7 = a7 ∧ l8 = x7_8 ∧ l9 = x25_9 ∧ ¬ σ.2.2.1 76 (x7_8.toNatClampNeg + 1) ≤ x25_9 ∧ τ = σ25 ∧ (σ.2.2.1 81 x7_8.toNatClampNeg = 0 ∨ x25_9 = σ.2.2.1 76 x7_8.toNatClampNeg + σ.2.2.1 83 x7_8.toNatClampNeg)) → w_weigh_132 C Q (fun l1' l2' l3' l4' l5' l6' l7' l8' τ => ∃ k < n7, (fun n l1 l2 l3 l4 l5 l6 l7 l8 τ => n = (σ.1 70 - l8).toNatClampNeg ∧ (l1 = a1 ∧ l2 = a2 ∧ l3 = a3 ∧ l4 = a4 ∧ l5 = a5 ∧ l6 = a6 ∧ l7 = a7 ∧ frS [0, 1, 2, 3, 4, 5, 6, 7, 8, 9, 10] σ τ ∧ 0 ≤ l8 ∧ l8 ≤ σ.1 70 ∧ ∃ d S, d ≤ 20000 ∧ (l8 < σ.1 70 → d ≤ loN σ l8.toNatClampNeg) ∧ siS σ τ s d S)) k l1' l2' l3' l4' l5' l6' l7' l8' τ) (fun l1' l2' l3' l4' l5' l6' l7' l8' l9' τ => ∃ k < n25, (fun n l1 l2 l3 l4 l5 l6 l7 l8 l9 τ => n = (σ.2.2.1 76 (x7_8.toNatClampNeg + 1) - l9).toNatClampNeg ∧ (l1 = a1 ∧ l2 = a2 ∧ l3 = a3 ∧ l4 = a4 ∧ l5 = a5 ∧ l6 = a6 ∧ l7 = a7 ∧ l8 = x7_8 ∧ frS [0, 1, 2, 3, 4, 5, 6, 7, 8, 9, 10] σ τ ∧ σ.2.2.1 76 x7_8.toNatClampNeg ≤ l9 ∧ l9 ≤ σ.2.2.1 76 (x7_8.toNatClampNeg + 1) ∧ ∃ S, siS σ τ s l9.toNatClampNeg S)) k l1' l2' l3' l4' l5' l6' l7' l8' l9' τ) l1 l2 l3 l4 l5 l6 l7 l8 l9 τ := by
      rintro y132_1 y132_2 y132_3 y132_4 y132_5 y132_6 y132_7 y132_8 y132_9 τ132 j132
      unfold w_weigh_132
      obtain ⟨f1, f2, f3, f4, f5, f6, f7, f8, G, w1, w2, S, J2⟩ := i25
      obtain ⟨y1, y2, y3, y4, y5, y6, y7, y8, y9, yn, yt, ytk⟩ := j132
      have i0 := Int32.le_trans st.1.1 w1
      have z := u2 i0 yn hi2
      have is := cn_succ i0 (Int32.lt_trans z.2.2.2.2.2.2 (by decide))
      have hi20 : x25_9.toNatClampNeg ≤ 20000 := cn_le (y := 20000) rfl (Int32.le_trans w2 hi2)
      rw [y8, y9, yt]
      refine addWeight_c hC s x25_9.toNatClampNeg S ?_ (fun σ_9 q10 => ?_)
      · clear h; rw [G.1 70 (by decide), G.2.2.1 76 (by decide) (by decide), G.2.2.1 81 (by decide) (by decide), G.2.2.1 83 (by decide) (by decide)]
        exact ⟨pOK_S hO G, hs, fun k hk => vOK_f (G.2.2.1 102 (by decide) (by decide)) (hv k hk), a0, u.2.2.2.2.1, w1, z.2.2.2.2.2.1, ytk, one_64, siS_g G J2, by omega⟩
      intro x11 hx11
      refine ⟨_, cn_lt2 hn25 ?_ ?_, rfl, ?_⟩
      · clear h; rw [hx11]; exact z.1  -- d8
      · clear h; rw [hx11]; exact z.2.1  -- d9
      · clear h; rw [hx11]
        exact ⟨y1, y2, y3, y4, y5, y6, y7, rfl, frS_tr G q10.1, Int32.le_trans w1 z.2.2.2.1, z.2.2.2.2.1, _, by rw [is]; exact siS_gr G q10.2⟩
    have hj113 : ∀ (l1 : Int32) (l2 : Int32) (l3 : Int32) (l4 : Int32) (l5 : Int32) (l6 : Int32) (l7 : Int32) (l8 : Int32) (l9 : Int32) (l10 : Int32) (τ : rS), (l1 = a1 ∧ l2 = a2 ∧ l3 = a3 ∧ l4 = a4 ∧ l5 = a5 ∧ l6 = a6 ∧ l7 = a7 ∧ l8 = x7_8 ∧ l9 = x25_9 ∧ 0 ≤ l10 ∧ l10 < 1000 ∧ ¬ σ.2.2.1 76 (x7_8.toNatClampNeg + 1) ≤ x25_9 ∧ τ = σ25 ∧ (σ.2.2.1 81 x7_8.toNatClampNeg = 0 ∨ x25_9 = σ.2.2.1 76 x7_8.toNatClampNeg + σ.2.2.1 83 x7_8.toNatClampNeg)) → w_weigh_113 C Q (fun l1' l2' l3' l4' l5' l6' l7' l8' τ => ∃ k < n7, (fun n l1 l2 l3 l4 l5 l6 l7 l8 τ => n = (σ.1 70 - l8).toNatClampNeg ∧ (l1 = a1 ∧ l2 = a2 ∧ l3 = a3 ∧ l4 = a4 ∧ l5 = a5 ∧ l6 = a6 ∧ l7 = a7 ∧ frS [0, 1, 2, 3, 4, 5, 6, 7, 8, 9, 10] σ τ ∧ 0 ≤ l8 ∧ l8 ≤ σ.1 70 ∧ ∃ d S, d ≤ 20000 ∧ (l8 < σ.1 70 → d ≤ loN σ l8.toNatClampNeg) ∧ siS σ τ s d S)) k l1' l2' l3' l4' l5' l6' l7' l8' τ) (fun l1' l2' l3' l4' l5' l6' l7' l8' l9' τ => ∃ k < n25, (fun n l1 l2 l3 l4 l5 l6 l7 l8 l9 τ => n = (σ.2.2.1 76 (x7_8.toNatClampNeg + 1) - l9).toNatClampNeg ∧ (l1 = a1 ∧ l2 = a2 ∧ l3 = a3 ∧ l4 = a4 ∧ l5 = a5 ∧ l6 = a6 ∧ l7 = a7 ∧ l8 = x7_8 ∧ frS [0, 1, 2, 3, 4, 5, 6, 7, 8, 9, 10] σ τ ∧ σ.2.2.1 76 x7_8.toNatClampNeg ≤ l9 ∧ l9 ≤ σ.2.2.1 76 (x7_8.toNatClampNeg + 1) ∧ ∃ S, siS σ τ s l9.toNatClampNeg S)) k l1' l2' l3' l4' l5' l6' l7' l8' l9' τ) l1 l2 l3 l4 l5 l6 l7 l8 l9 l10 τ := by
      rintro y113_1 y113_2 y113_3 y113_4 y113_5 y113_6 y113_7 y113_8 y113_9 y113_10 τ113 j113
      unfold w_weigh_113
      obtain ⟨f1, f2, f3, f4, f5, f6, f7, f8, G, w1, w2, S, J2⟩ := i25
      obtain ⟨y1, y2, y3, y4, y5, y6, y7, y8, y9, ye0, ye1, yn, yt, ytk⟩ := j113
      have i0 := Int32.le_trans st.1.1 w1
      have z := u2 i0 yn hi2
      have is := cn_succ i0 (Int32.lt_trans z.2.2.2.2.2.2 (by decide))
      rw [y8, y9, yt]
      refine ⟨fun c12 => ?_, fun c12 => ?_⟩
      · skip
        refine hj132 _ _ _ _ _ _ _ _ _ _ ?_
        · clear h; exact ⟨y1, y2, y3, y4, y5, y6, y7, rfl, rfl, yn, rfl, ytk⟩  -- k11
      · skip
        refine told_c hC  ?_ (fun r13 q15 => ?_)
        · clear h; rw [y5] at c12 ⊢
          have q := h5.resolve_left c12
          exact ⟨ye0, ye1, q.1, q.2⟩
        refine ⟨fun c16 => ?_, fun c16 => ?_⟩
        · skip
          intro x17 hx17
          refine ⟨_, cn_lt2 hn25 ?_ ?_, rfl, ?_⟩
          · clear h; rw [hx17]; exact z.1  -- d13
          · clear h; rw [hx17]; exact z.2.1  -- d14
          · clear h; rw [hx17]; exact ⟨y1, y2, y3, y4, y5, y6, y7, rfl, G, Int32.le_trans w1 z.2.2.2.1, z.2.2.2.2.1, S, siS_mono J2 (by rw [is]; omega)⟩  -- i15
        · skip
          refine hj132 _ _ _ _ _ _ _ _ _ _ ?_
          · clear h; exact ⟨y1, y2, y3, y4, y5, y6, y7, rfl, rfl, yn, rfl, ytk⟩  -- k16
    have hj96 : ∀ (l1 : Int32) (l2 : Int32) (l3 : Int32) (l4 : Int32) (l5 : Int32) (l6 : Int32) (l7 : Int32) (l8 : Int32) (l9 : Int32) (l10 : Int32) (τ : rS), (l1 = a1 ∧ l2 = a2 ∧ l3 = a3 ∧ l4 = a4 ∧ l5 = a5 ∧ l6 = a6 ∧ l7 = a7 ∧ l8 = x7_8 ∧ l9 = x25_9 ∧ 0 ≤ l10 ∧ l10 < 1000 ∧ ¬ σ.2.2.1 76 (x7_8.toNatClampNeg + 1) ≤ x25_9 ∧ τ = σ25 ∧ (σ.2.2.1 81 x7_8.toNatClampNeg = 0 ∨ x25_9 = σ.2.2.1 76 x7_8.toNatClampNeg + σ.2.2.1 83 x7_8.toNatClampNeg)) → w_weigh_96 C Q (fun l1' l2' l3' l4' l5' l6' l7' l8' τ => ∃ k < n7, (fun n l1 l2 l3 l4 l5 l6 l7 l8 τ => n = (σ.1 70 - l8).toNatClampNeg ∧ (l1 = a1 ∧ l2 = a2 ∧ l3 = a3 ∧ l4 = a4 ∧ l5 = a5 ∧ l6 = a6 ∧ l7 = a7 ∧ frS [0, 1, 2, 3, 4, 5, 6, 7, 8, 9, 10] σ τ ∧ 0 ≤ l8 ∧ l8 ≤ σ.1 70 ∧ ∃ d S, d ≤ 20000 ∧ (l8 < σ.1 70 → d ≤ loN σ l8.toNatClampNeg) ∧ siS σ τ s d S)) k l1' l2' l3' l4' l5' l6' l7' l8' τ) (fun l1' l2' l3' l4' l5' l6' l7' l8' l9' τ => ∃ k < n25, (fun n l1 l2 l3 l4 l5 l6 l7 l8 l9 τ => n = (σ.2.2.1 76 (x7_8.toNatClampNeg + 1) - l9).toNatClampNeg ∧ (l1 = a1 ∧ l2 = a2 ∧ l3 = a3 ∧ l4 = a4 ∧ l5 = a5 ∧ l6 = a6 ∧ l7 = a7 ∧ l8 = x7_8 ∧ frS [0, 1, 2, 3, 4, 5, 6, 7, 8, 9, 10] σ τ ∧ σ.2.2.1 76 x7_8.toNatClampNeg ≤ l9 ∧ l9 ≤ σ.2.2.1 76 (x7_8.toNatClampNeg + 1) ∧ ∃ S, siS σ τ s l9.toNatClampNeg S)) k l1' l2' l3' l4' l5' l6' l7' l8' l9' τ) l1 l2 l3 l4 l5 l6 l7 l8 l9 l10 τ := by
      rintro y96_1 y96_2 y96_3 y96_4 y96_5 y96_6 y96_7 y96_8 y96_9 y96_10 τ96 j96
      unfold w_weigh_96
      obtain ⟨f1, f2, f3, f4, f5, f6, f7, f8, G, w1, w2, S, J2⟩ := i25
      obtain ⟨y1, y2, y3, y4, y5, y6, y7, y8, y9, ye0, ye1, yn, yt, ytk⟩ := j96
      have i0 := Int32.le_trans st.1.1 w1
      have z := u2 i0 yn hi2
      have is := cn_succ i0 (Int32.lt_trans z.2.2.2.2.2.2 (by decide))
      rw [y8, y9, yt]
      refine ⟨fun c18 => ?_, fun c18 => ?_⟩
      · skip
        refine hj113 _ _ _ _ _ _ _ _ _ _ _ ?_
        · clear h; exact ⟨y1, y2, y3, y4, y5, y6, y7, rfl, rfl, ye0, ye1, yn, rfl, ytk⟩  -- k17
      · skip
        refine told_c hC  ?_ (fun r19 q21 => ?_)
        · clear h; rw [y3] at c18 ⊢
          have q := h3.resolve_left c18
          exact ⟨ye0, ye1, q.1, q.2⟩
        refine ⟨fun c22 => ?_, fun c22 => ?_⟩
        · skip
          intro x23 hx23
          refine ⟨_, cn_lt2 hn25 ?_ ?_, rfl, ?_⟩
          · clear h; rw [hx23]; exact z.1  -- d19
          · clear h; rw [hx23]; exact z.2.1  -- d20
          · clear h; rw [hx23]; exact ⟨y1, y2, y3, y4, y5, y6, y7, rfl, G, Int32.le_trans w1 z.2.2.2.1, z.2.2.2.2.1, S, siS_mono J2 (by rw [is]; omega)⟩  -- i21
        · skip
          refine hj113 _ _ _ _ _ _ _ _ _ _ _ ?_
          · clear h; exact ⟨y1, y2, y3, y4, y5, y6, y7, rfl, rfl, ye0, ye1, yn, rfl, ytk⟩  -- k22
    obtain ⟨f1, f2, f3, f4, f5, f6, f7, f8, G, w1, w2, S, J2⟩ := i25
    have i0 := Int32.le_trans st.1.1 w1
    have g76 := G.2.2.1 76 (by decide) (by decide)
    have g77 := G.2.2.1 77 (by decide) (by decide)
    have g78 := G.2.2.1 78 (by decide) (by decide)
    have hi20 : x25_9.toNatClampNeg ≤ 20000 := cn_le (y := 20000) rfl (Int32.le_trans w2 hi2)
    rw [f8]
    refine isVisited_c hC  ?_ (fun r24 q26 => ?_)
    · clear h; exact ⟨a0, u.2.2.2.2.2⟩  -- p23
    rw [g76, g77, g78, st.2.2.2.1]
    refine ⟨fun c27 => ?_, fun c27 => ?_⟩
    · skip
      intro x28 hx28
      refine ⟨_, cn_lt2 hn7 ?_ ?_, rfl, ?_⟩
      · clear h; rw [hx28]; exact u.1  -- d24
      · clear h; rw [hx28]; exact u.2.1  -- d25
      · clear h; rw [hx28]
        exact ⟨f1, f2, f3, f4, f5, f6, f7, G, u.2.2.1, u.2.2.2.1, x25_9.toNatClampNeg, S, hi20, fun _ => by rw [as]; unfold loN; exact cn_l w2 i0, J2⟩
    · skip
      refine ⟨ib_1001.mpr ?_, ?_⟩
      · clear h; exact ⟨st.2.2.2.2.2.1, st.2.2.2.2.2.2⟩  -- b27
      refine ⟨fun c29 => ?_, fun c29 => ?_⟩
      · skip
        intro x30 hx30
        refine ⟨_, cn_lt2 hn7 ?_ ?_, rfl, ?_⟩
        · clear h; rw [hx30]; exact u.1  -- d28
        · clear h; rw [hx30]; exact u.2.1  -- d29
        · clear h; rw [hx30]
          exact ⟨f1, f2, f3, f4, f5, f6, f7, G, u.2.2.1, u.2.2.2.1, x25_9.toNatClampNeg, S, hi20, fun _ => by rw [as]; unfold loN; exact cn_l w2 i0, J2⟩
      · skip
        have z := u2 i0 c29 hi2
        have is := cn_succ i0 (Int32.lt_trans z.2.2.2.2.2.2 (by decide))
        have l72 := Int32.lt_of_lt_of_le z.2.2.2.2.2.1 st.2.2.1
        refine ⟨ib_20000.mpr ?_, ?_⟩
        · clear h; exact ⟨i0, z.2.2.2.2.2.2⟩  -- b31
        intro x31 hx31
        refine ⟨ib_20000.mpr ?_, ?_⟩
        · clear h; exact ⟨i0, z.2.2.2.2.2.2⟩  -- b32
        refine ⟨fun c32 => ?_, fun c32 => ?_⟩
        · skip
          intro x33 hx33
          refine ⟨_, cn_lt2 hn25 ?_ ?_, rfl, ?_⟩
          · clear h; rw [hx33]; exact z.1  -- d33
          · clear h; rw [hx33]; exact z.2.1  -- d34
          · clear h; rw [hx33]; exact ⟨f1, f2, f3, f4, f5, f6, f7, rfl, G, Int32.le_trans w1 z.2.2.2.1, z.2.2.2.2.1, S, siS_mono J2 (by rw [is]; omega)⟩  -- i35
        · skip
          refine isTaken_c hC  ?_ (fun r34 q36 => ?_)
          · clear h; exact ⟨a0, u.2.2.2.2.2⟩  -- p36
          have tk := q36.2
          rw [rd, rd, rd, G.2.2.1 81 (by decide) (by decide), g76, G.2.2.1 83 (by decide) (by decide)] at tk
          have q := (hO.1.2.2.2.2 _ (cn_lt i0 l72)).2.2 c32
          have q1 := Int32.lt_of_lt_of_le q.2 hO.1.2.1.2
          refine ⟨fun c37 => ?_, fun c37 => ?_⟩
          · skip
            intro x38 hx38
            refine ⟨_, cn_lt2 hn25 ?_ ?_, rfl, ?_⟩
            · clear h; rw [hx38]; exact z.1  -- d37
            · clear h; rw [hx38]; exact z.2.1  -- d38
            · clear h; rw [hx38]; exact ⟨f1, f2, f3, f4, f5, f6, f7, rfl, G, Int32.le_trans w1 z.2.2.2.1, z.2.2.2.2.1, S, siS_mono J2 (by rw [is]; omega)⟩  -- i39
          · skip
            refine ⟨fun c39 => ?_, fun c39 => ?_⟩
            · skip
              refine hj96 _ _ _ _ _ _ _ _ _ _ _ ?_
              · clear h; rw [hx31]; exact ⟨f1, f2, f3, f4, f5, f6, f7, rfl, rfl, q.1, q1, c29, rfl, (tk.mp c37).resolve_left (by decide)⟩  -- k40
            · skip
              refine told_c hC  ?_ (fun r40 q42 => ?_)
              · clear h; rw [hx31, f1]
                rw [f1] at c39
                have r := h1.resolve_left c39
                exact ⟨q.1, q1, r.1, r.2⟩
              refine ⟨fun c43 => ?_, fun c43 => ?_⟩
              · skip
                intro x44 hx44
                refine ⟨_, cn_lt2 hn25 ?_ ?_, rfl, ?_⟩
                · clear h; rw [hx44]; exact z.1  -- d42
                · clear h; rw [hx44]; exact z.2.1  -- d43
                · clear h; rw [hx44]; exact ⟨f1, f2, f3, f4, f5, f6, f7, rfl, G, Int32.le_trans w1 z.2.2.2.1, z.2.2.2.2.1, S, siS_mono J2 (by rw [is]; omega)⟩  -- i44
              · skip
                refine hj96 _ _ _ _ _ _ _ _ _ _ _ ?_
                · clear h; rw [hx31]; exact ⟨f1, f2, f3, f4, f5, f6, f7, rfl, rfl, q.1, q1, c29, rfl, (tk.mp c37).resolve_left (by decide)⟩  -- k45
