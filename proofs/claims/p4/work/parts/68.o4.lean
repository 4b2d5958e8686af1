set_option maxHeartbeats 1600000
/-! the reference: a step of a program that runs -/
/-- how a step came out: moved, ended, failed, cut, drawing, choosing -/
def acQ (v : Int32) (σ : rS) : Prop := (v = 0 ∧ csF σ) ∨ v = 1 ∨ v = 2 ∨ v = 3 ∨ (v = 4 ∧ csF σ ∧ plV (σ.1 67) ∧ oW σ) ∨ (v = 5 ∧ csF σ ∧ plV (σ.1 67) ∧ 1 ≤ σ.1 63 ∧ σ.1 63 ≤ 8 ∧ ∀ i, i < (σ.1 63).toNatClampNeg → σ.2.2.1 65 i = 1)
theorem ac_mv {v : Int32} {σ : rS} (h : (v = 0 ∧ csF σ) ∨ v = 1) : acQ v σ := by
  rcases h with h | h
  · exact Or.inl h
  · exact Or.inr (Or.inl h)
theorem st_x {S N R : Nat → Int32} {B T k b x : Int32} (h : stK S N R B T k b x) (h3 : ¬ k = 3) (h4 : ¬ k = 4) (h5 : ¬ k = 5) : xO S N R B T x := by
  rcases h with ⟨-, -, -, -, -, -, q⟩ | ⟨-, -, q⟩ | ⟨q, -⟩ | ⟨q, -⟩ | ⟨q, -⟩ | ⟨-, q⟩
  · exact q
  · exact q
  · exact absurd q h3
  · exact absurd q h4
  · exact absurd q h5
  · exact q
theorem lk_b {σ : rS} {B T s : Int32} {k : Nat} (h : rI σ B T) (s0 : 0 ≤ s) (s1 : s < σ.1 19) (hk : k = 33 ∨ k = 34) (hn : rd σ k s ≠ -1) : 0 ≤ rd σ k s ∧ rd σ k s < σ.1 19 := by
  have l := (h.2.2.2.2.2.2.1 s s0 s1).2.2
  have t := h.1.2.2.2.1
  rcases hk with rfl | rfl
  · exact ⟨m1_0 (t.2.1 _).1 hn, l.1⟩
  · exact ⟨m1_0 (t.2.2.1 _).1 hn, l.2.1⟩
/-- where an expression of the step stands ready -/
def acI (σ τ : rS) (B T s k : Int32) : Prop := frG rnF rnR σ τ ∧ m1 τ B T ∧ csF τ ∧ s = rd τ 59 (τ.1 58 - 1) ∧ k = rd τ 30 s ∧ ¬ k = 5 ∧ (¬ 4 < k → plV (τ.1 67))
theorem st_12 {S N R : Nat → Int32} {B T k b x : Int32} (h : stK S N R B T k b x) (h3 : ¬ k = 3) (h4 : ¬ k = 4) (h5 : ¬ k = 5) (hk : k.toInt < 6 ∨ 10 < k.toInt) : ¬ 4 < k := by
  rcases h with ⟨q, -⟩ | ⟨q, -⟩ | ⟨q, -⟩ | ⟨q, -⟩ | ⟨q, -⟩ | ⟨q, -⟩
  · rw [q]; decide
  · rw [q]; decide
  · exact absurd q h3
  · exact absurd q h4
  · exact absurd q h5
  · rcases q with rfl | rfl | rfl | rfl | rfl <;> exact absurd hk (by decide)
theorem act_c {C : rCx} (hC : cOK C) (B T : Int32) {σ : rS}  {Q : Int32 → rS → Prop} (hp : rI σ B T ∧ csF σ) (h : ∀ (v : Int32) (σ' : rS), (frG rnF rnR σ σ' ∧ acQ v σ') → Q v σ') : cI C 9 m_act [.ref (co C)] σ Q := by
  refine m_act_run hC ?_
  unfold w_act_0
  obtain ⟨hI, hc⟩ := hp
  have hj81 : ∀ (l1 : Int32) (l2 : Int32) (τ : rS), (acI σ τ B T l1 l2) → w_act_81 C Q  l1 l2 τ := by
    rintro y81_1 y81_2 τ81 j81
    unfold w_act_81
    obtain ⟨y1, y2, y3, y4, y5, y6, y7⟩ := j81
    have s0 : 0 ≤ y81_1 := by rw [y4]; exact y3.2.2.1
    have s1 : y81_1 < τ81.1 19 := by rw [y4]; exact y3.2.2.2
    have bb : 0 ≤ y81_1 ∧ y81_1 < 150 := ⟨s0, s150 y2.1 s1⟩
    refine ⟨fun c1 => ?_, fun c1 => ?_⟩
    · skip
      refine ⟨fun c2 => ?_, fun c2 => ?_⟩
      · skip
        refine ⟨ib_150.mpr ?_, ?_⟩
        · clear h; exact bb  -- b1
        refine work_c hC B T ?_ (fun r3 σ_4 q5 => ?_)
        · clear h; exact ⟨y2, xO_w (st_x (m1_st y2 s0 s1) (by rw [← y5]; exact c1) (by rw [← y5]; exact c2) (by rw [← y5]; exact y6))⟩  -- p2
        have f4 : frG rnF rnR τ81 σ_4 := xR_n q5.1
        have F4 : frG rnF rnR σ σ_4 := frG_tr y1 f4
        have I4 : rI σ_4 B T := rI_fr y2.1 f4
        have c4 : csF σ_4 := csF_o y3 (q5.1.2.2.1 59 (by decide)) (q5.1.2.2.1 30 (by decide)) (q5.1.1 19 (by decide)) (q5.1.1 58 (by decide))
        have s4 : y81_1 < σ_4.1 19 := by rw [q5.1.1 19 (by decide)]; exact s1
        have mv : ∀ a : Int32, (a ≠ -1 → 0 ≤ a ∧ a < σ_4.1 19) → rI σ_4 B T ∧ 1 ≤ σ_4.1 58 ∧ σ_4.1 58 ≤ 12 ∧ csL σ_4 (σ_4.1 58 - 1) ∧ (a ≠ -1 → 0 ≤ a ∧ a < σ_4.1 19) := fun a ha => ⟨I4, c4.1.1, c4.1.2, c4.2.1, ha⟩
        have fin : ∀ (v : Int32) (υ : rS), frG [58, 61] [57, 59, 60] σ_4 υ ∧ ((v = 0 ∧ csF υ) ∨ v = 1) → frG rnF rnR σ υ ∧ acQ v υ := fun v υ q => ⟨frG_tr F4 (frG_mono q.1 (by decide) (by decide)), ac_mv q.2⟩
        refine ⟨fun c6 => ?_, fun c6 => ?_⟩
        · skip
          refine ⟨fun c7 => ?_, fun c7 => ?_, fun c7 => ?_, fun c7 => ?_, fun c7 => ?_, fun c7 => ?_⟩
          · skip
            refine store_c hC  ?_ (fun σ_8 q9 => ?_)
            · clear h; rw [q5.1.1 67 (by decide)]
              exact pl_st (y7 (by rw [y5]; exact st_12 (m1_st y2 s0 s1) (by rw [← y5]; exact c1) (by rw [← y5]; exact c2) (by rw [← y5]; exact y6) (by rw [← y5]; exact c7))) c4.1.1 c4.1.2
            refine ⟨ib_150.mpr ?_, ?_⟩
            · clear h; exact bb  -- b4
            have f8 : frG rnF rnR σ_4 σ_8 := frG_S q9 (by decide) (by decide)
            have I8 : rI σ_8 B T := rI_fr I4 f8
            have c8 : csF σ_8 := csF_o c4 (q9.2.2.1 59 (by decide) (by decide)) (q9.2.2.1 30 (by decide) (by decide)) (q9.1 19) (q9.1 58)
            refine moveTo_c hC B T ?_ (fun r10 σ_11 q12 => ?_)
            · clear h; exact ⟨I8, c8.1.1, c8.1.2, c8.2.1, fun z => fl_b I8 s0 (by rw [q9.1 19]; exact s4) z⟩  -- p5
            refine h _ _ ?_
            · clear h; exact ⟨frG_tr F4 (frG_tr f8 (frG_mono q12.1 (by decide) (by decide))), ac_mv q12.2⟩  -- q6
          · skip
            refine ⟨fun c13 => ?_, fun c13 => ?_⟩
            · skip
              refine ⟨ib_150.mpr ?_, ?_⟩
              · clear h; exact bb  -- b7
              refine ⟨fun c14 => ?_, fun c14 => ?_⟩
              · skip
                refine ⟨ib_150.mpr ?_, ?_⟩
                · clear h; exact bb  -- b8
                refine moveTo_c hC B T ?_ (fun r15 σ_16 q17 => ?_)
                · clear h; exact mv _ (fun z => fl_b I4 s0 s4 z)  -- p9
                refine h _ _ ?_
                · clear h; exact fin _ _ q17  -- q10
              · skip
                refine ⟨ib_150.mpr ?_, ?_⟩
                · clear h; exact bb  -- b11
                refine moveTo_c hC B T ?_ (fun r18 σ_19 q20 => ?_)
                · clear h; exact mv _ (fun z => lk_b I4 s0 s4 (Or.inr rfl) z)  -- p12
                refine h _ _ ?_
                · clear h; exact fin _ _ q20  -- q13
            · skip
              refine ⟨ib_150.mpr ?_, ?_⟩
              · clear h; exact bb  -- b14
              refine ⟨fun c21 => ?_, fun c21 => ?_⟩
              · skip
                refine ⟨ib_150.mpr ?_, ?_⟩
                · clear h; exact bb  -- b15
                refine moveTo_c hC B T ?_ (fun r22 σ_23 q24 => ?_)
                · clear h; exact mv _ (fun z => fl_b I4 s0 s4 z)  -- p16
                refine h _ _ ?_
                · clear h; exact fin _ _ q24  -- q17
              · skip
                refine ⟨ib_150.mpr ?_, ?_⟩
                · clear h; exact bb  -- b18
                refine moveTo_c hC B T ?_ (fun r25 σ_26 q27 => ?_)
                · clear h; exact mv _ (fun z => lk_b I4 s0 s4 (Or.inl rfl) z)  -- p19
                refine h _ _ ?_
                · clear h; exact fin _ _ q27  -- q20
          · skip
            refine ⟨fun c28 => ?_, fun c28 => ?_⟩
            · skip
              refine ⟨ib_150.mpr ?_, ?_⟩
              · clear h; exact bb  -- b21
              refine ⟨fun c29 => ?_, fun c29 => ?_⟩
              · skip
                refine moveTo_c hC B T ?_ (fun r30 σ_31 q32 => ?_)
                · clear h; exact mv _ (fun _ => ⟨s0, s4⟩)  -- p22
                refine h _ _ ?_
                · clear h; exact fin _ _ q32  -- q23
              · skip
                refine ⟨ib_150.mpr ?_, ?_⟩
                · clear h; exact bb  -- b24
                refine moveTo_c hC B T ?_ (fun r33 σ_34 q35 => ?_)
                · clear h; exact mv _ (fun z => lk_b I4 s0 s4 (Or.inl rfl) z)  -- p25
                refine h _ _ ?_
                · clear h; exact fin _ _ q35  -- q26
            · skip
              refine ⟨ib_150.mpr ?_, ?_⟩
              · clear h; exact bb  -- b27
              refine moveTo_c hC B T ?_ (fun r36 σ_37 q38 => ?_)
              · clear h; exact mv _ (fun z => fl_b I4 s0 s4 z)  -- p28
              refine h _ _ ?_
              · clear h; exact fin _ _ q38  -- q29
          · skip
            refine leave_c hC B T ?_ (fun r39 σ_40 q41 => ?_)
            · clear h; exact ⟨I4, c4.1.1, c4.1.2, c4.2.1⟩  -- p30
            refine h _ _ ?_
            · clear h; exact fin _ _ q41  -- q31
          · skip
            refine ⟨fun c42 => ?_, fun c42 => ?_⟩
            · skip
              refine ⟨ib_150.mpr ?_, ?_⟩
              · clear h; exact bb  -- b32
              refine moveTo_c hC B T ?_ (fun r43 σ_44 q45 => ?_)
              · clear h; exact mv _ (fun z => fl_b I4 s0 s4 z)  -- p33
              refine h _ _ ?_
              · clear h; exact fin _ _ q45  -- q34
            · skip
              refine h _ _ ?_
              · clear h; exact ⟨F4, Or.inr (Or.inr (Or.inr (Or.inl rfl)))⟩  -- q35
          · skip
            intro σ_46 hσ_46
            refine ⟨ib_150.mpr ?_, ?_⟩
            · clear h; exact bb  -- b36
            have f46 : frG rnF rnR σ_4 σ_46 := by rw [hσ_46]; exact frG_0 (by decide)
            have I46 : rI σ_46 B T := rI_fr I4 f46
            have e46 : ∀ k, k ≠ 62 → σ_46.1 k = σ_4.1 k := fun k hk => by rw [hσ_46, si1, if_neg hk]
            have c46 : csF σ_46 := csF_o c4 (by rw [hσ_46, si2]) (by rw [hσ_46, si2]) (e46 19 (by decide)) (e46 58 (by decide))
            refine moveTo_c hC B T ?_ (fun r47 σ_48 q49 => ?_)
            · clear h; exact ⟨I46, c46.1.1, c46.1.2, c46.2.1, fun z => fl_b I46 s0 (by rw [e46 19 (by decide)]; exact s4) z⟩  -- p37
            refine h _ _ ?_
            · clear h; exact ⟨frG_tr F4 (frG_tr f46 (frG_mono q49.1 (by decide) (by decide))), ac_mv q49.2⟩  -- q38
        · skip
          refine fail_c hC  (fun r50 σ_51 q52 => ?_)
          refine h _ _ ?_
          · clear h; exact ⟨frG_tr F4 (frG_61 q52.1 (by decide)), Or.inr (Or.inr (Or.inl q52.2))⟩  -- q39
      · skip
        refine choose_c hC B T ?_ (fun r53 σ_54 q55 => ?_)
        · clear h; exact ⟨y2, s0, s1, by rw [← y5]; exact c2⟩  -- p40
        refine h _ _ ?_
        · clear h; refine ⟨frG_tr y1 (frG_mono q55.1 (by decide) (by decide)), ?_⟩
          rcases q55.2 with z | ⟨z, z1, z2, z3⟩
          · exact Or.inr (Or.inr (Or.inl z))
          · exact Or.inr (Or.inr (Or.inr (Or.inr (Or.inr ⟨z, csF_o y3 (q55.1.2.2.1 59 (by decide)) (q55.1.2.2.1 30 (by decide)) (q55.1.1 19 (by decide)) (q55.1.1 58 (by decide)), by rw [q55.1.1 67 (by decide)]; exact y7 (by rw [c2]; decide), z1, z2, z3⟩))))
    · skip
      refine draw_c hC B T ?_ (fun r56 σ_57 q58 => ?_)
      · clear h; exact ⟨y2, s0, s1, by rw [← y5]; exact c1⟩  -- p42
      refine h _ _ ?_
      · clear h; refine ⟨frG_tr y1 (frG_mono q58.1 (by decide) (by decide)), ?_⟩
        rcases q58.2 with z | ⟨z, z1⟩
        · exact Or.inr (Or.inr (Or.inl z))
        · exact Or.inr (Or.inr (Or.inr (Or.inr (Or.inl ⟨z, csF_o y3 (q58.1.2.2.1 59 (by decide)) (q58.1.2.2.1 30 (by decide)) (q58.1.1 19 (by decide)) (q58.1.1 58 (by decide)), by rw [q58.1.1 67 (by decide)]; exact y7 (by rw [c1]; decide), z1⟩))))
  refine ⟨ib_12.mpr ?_, ?_⟩
  · clear h; exact c_m1 hc.1.1 hc.1.2  -- b44
  intro x59 hx59
  intro σ_60 hσ_60
  intro σ_61 hσ_61
  intro σ_62 hσ_62
  intro σ_63 hσ_63
  intro σ_64 hσ_64
  have s64 : σ_64.2 = σ.2 := by rw [hσ_64, si2, hσ_63, si2, hσ_62, si2, hσ_61, si2, hσ_60, si2]
  have e64 : ∀ k, k ≠ 11 → k ≠ 13 → k ≠ 47 → k ≠ 46 → k ≠ 62 → σ_64.1 k = σ.1 k := fun k z1 z2 z3 z4 z5 => by rw [hσ_64, si1, if_neg z5, hσ_63, si1, if_neg z4, hσ_62, si1, if_neg z3, hσ_61, si1, if_neg z2, hσ_60, si1, if_neg z1]
  have f64 : frG rnF rnR σ σ_64 := ⟨fun k z => e64 k (fun e => z (by rw [e]; decide)) (fun e => z (by rw [e]; decide)) (fun e => z (by rw [e]; decide)) (fun e => z (by rw [e]; decide)) (fun e => z (by rw [e]; decide)), fun k => by rw [s64], fun k _ => by rw [s64], fun k j => by rw [s64]⟩
  have v11 : σ_64.1 11 = 0 := by rw [hσ_64, si1, if_neg (by decide), hσ_63, si1, if_neg (by decide), hσ_62, si1, if_neg (by decide), hσ_61, si1, if_neg (by decide), hσ_60, si1, if_pos rfl]
  have v13 : σ_64.1 13 = 0 := by rw [hσ_64, si1, if_neg (by decide), hσ_63, si1, if_neg (by decide), hσ_62, si1, if_neg (by decide), hσ_61, si1, if_pos rfl]
  have v47 : σ_64.1 47 = 0 := by rw [hσ_64, si1, if_neg (by decide), hσ_63, si1, if_neg (by decide), hσ_62, si1, if_pos rfl]
  have v46 : σ_64.1 46 = 1 := by rw [hσ_64, si1, if_neg (by decide), hσ_63, si1, if_pos rfl]
  have e58 := e64 58 (by decide) (by decide) (by decide) (by decide) (by decide)
  have e19 := e64 19 (by decide) (by decide) (by decide) (by decide) (by decide)
  have m64 : m1 σ_64 B T := ⟨rI_fr hI f64, v46, by rw [e58]; exact hc.1, v11, v47, v13⟩
  have c64 : csF σ_64 := csF_o hc (by rw [s64]) (by rw [s64]) e19 e58
  have x64 : x59 = rd σ_64 59 (σ_64.1 58 - 1) := by rw [hx59, rd, s64, e58]
  have s0 : 0 ≤ x59 := by rw [x64]; exact c64.2.2.1
  have s1 : x59 < σ_64.1 19 := by rw [x64]; exact c64.2.2.2
  refine ⟨ib_150.mpr ?_, ?_⟩
  · clear h; exact ⟨s0, s150 m64.1 s1⟩  -- b45
  intro x65 hx65
  refine ⟨fun c66 => ?_, fun c66 => ?_⟩
  · skip
    refine ⟨fun c67 => ?_, fun c67 => ?_⟩
    · skip
      refine hj81 _ _ _ ?_
      · clear h; exact ⟨f64, m64, c64, x64, hx65, c66, fun z => absurd c67 z⟩  -- k46
    · skip
      refine findPlace_c hC B T ?_ (fun σ_68 q69 => ?_)
      · clear h; exact ⟨m64, s0, s1, by rw [rd, ← hx65]; exact c66, by rw [rd, ← hx65]; exact c67⟩  -- p47
      refine ⟨fun c70 => ?_, fun c70 => ?_⟩
      · skip
        refine hj81 _ _ _ ?_
        · clear h; obtain ⟨w1, w2⟩ := q69.2.2 (le0 c70 q69.2.1)
          exact ⟨frG_tr f64 (frG_mono q69.1 (by decide) (by decide)), w1, csF_o c64 (q69.1.2.2.1 59 (by decide)) (q69.1.2.2.1 30 (by decide)) (q69.1.1 19 (by decide)) (q69.1.1 58 (by decide)), by rw [rd, q69.1.2.2.1 59 (by decide), q69.1.1 58 (by decide)]; exact x64, by rw [rd, q69.1.2.2.1 30 (by decide)]; exact hx65, c66, fun _ => w2⟩
      · skip
        refine fail_c hC  (fun r71 σ_72 q73 => ?_)
        refine h _ _ ?_
        · clear h; exact ⟨frG_tr f64 (frG_tr (frG_mono q69.1 (by decide) (by decide)) (frG_61 q73.1 (by decide))), Or.inr (Or.inr (Or.inl q73.2))⟩  -- q49
  · skip
    refine call_c hC B T ?_ (fun r74 σ_75 q76 => ?_)
    · clear h; exact ⟨m64, c64, x64, by rw [rd, ← hx65]; exact c66⟩  -- p50
    refine h _ _ ?_
    · clear h; refine ⟨frG_tr f64 (frG_mono q76.1 (by decide) (by decide)), ?_⟩
      rcases q76.2 with z | z | z
      · exact Or.inl z
      · exact Or.inr (Or.inl z)
      · exact Or.inr (Or.inr (Or.inl z))
