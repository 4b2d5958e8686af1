set_option maxHeartbeats 1600000
/-! the reference: a statement that begins with a name -/
/-- a statement was read whole -/
def sT (σ σ' : rS) (B T : Int32) : Prop := ∃ s, mSR9 σ σ' s B T ∧ (σ'.1 11 = 0 → σ.1 10 < σ'.1 10 ∧ σ'.1 13 = σ.1 13 ∧ stK (σ.2.2.1 5) (σ.2.2.1 7) (σ'.2.2.1 39) B (σ'.1 10) (rd σ' 30 s) (σ.1 10) (rd σ' 32 s))
/-- its name was looked up -/
def tN3 (σ τ : rS) (s c B : Int32) : Prop := τ.1 11 = 0 → σ.1 10 < τ.1 10 ∧ τ.1 13 = σ.1 13 ∧ rd τ 30 s = 2 ∧ tgO (σ.2.2.1 5) (σ.2.2.1 7) (τ.2.2.1 39) B (τ.1 10) (σ.1 10) ∧ (c = 0 → validV (rd τ 39 (σ.1 10)))
theorem lt_T {a T : Int32} (h : a ≤ T) (hne : ¬ a = T) (hT : T < 131074) : a < 131073 := by grind
theorem tellNamed_c {C : rCx} (hC : cOK C) (B T : Int32) {σ : rS}  {Q : rS → Prop} (hp : p0 σ B T ∧ tS σ ∧ 1 ≤ σ.1 42 ∧ σ.1 42 ≤ 64 ∧ 0 ≤ σ.1 13 ∧ σ.1 13 ≤ 40 ∧ rd σ 5 (σ.1 10) = 1) (h : ∀ (σ' : rS), (sT σ σ' B T) → Q σ') : cV C 8 m_tellNamed [.ref (co C)] σ Q := by
  refine m_tellNamed_run hC ?_
  unfold w_tellNamed_0
  obtain ⟨hP, hS, hb1, hb2, ho1, ho2, hn⟩ := hp
  have hA := aI_at (aI_refl hP)
  have hj295 : ∀  (τ : rS), (∃ s c, mSR9 σ τ s B T ∧ tN3 σ τ s c B ∧ (τ.1 11 = 0 → rd τ 32 s = τ.1 10)) → w_tellNamed_295 C Q   τ := by
    rintro  τ295 j295
    unfold w_tellNamed_295
    obtain ⟨s, c, m, n, x⟩ := j295
    refine expr0_c hC B T ?_ (fun r1 σ_2 q3 => ?_)
    · clear h; exact ⟨m.2.1, fun f => by rw [(n f).2.1]; exact ⟨ho1, ho2⟩⟩  -- p1
    refine sign_c hC B T ?_ (fun σ_4 q5 => ?_)
    · clear h; exact q3.2.1.1  -- p2
    refine h _ ?_
    · clear h; have b1 := mS_expr m q3
      have b2 := mS_sign b1.1 q5
      refine ⟨s, b2.1, fun f => ?_⟩
      obtain ⟨f1, l1, e1, o1, -⟩ := b2.2.2 f
      obtain ⟨f0, l0, o0, z0⟩ := b1.2.2.2.2 f1
      obtain ⟨n1, n2, n3, n4, n5⟩ := n f0
      have k30 : rd σ_4 30 s = 2 := by rw [rd, b2.2.1]; exact b1.2.2.1.trans n3
      have k32 : rd σ_4 32 s = τ295.1 10 := by rw [rd, b2.2.1]; exact b1.2.2.2.1.trans (x f0)
      rw [k30, k32, b2.2.1]
      have lP := Int32.le_trans l0 (Int32.le_of_lt l1)
      exact ⟨Int32.lt_of_lt_of_le n1 lP, by rw [o1, o0]; exact n2, Or.inr (Or.inl ⟨rfl, tgO_up hP.1.1 n4 b1.2.1 lP, (mS_rows m).2.2.1.2.2.2.2.1, σ_2.1 10, z0, l0, l1⟩)⟩
  have hj244 : ∀ (l1 : Int32) (l3 : Int32) (τ : rS), (mSR9 σ τ l1 B T ∧ tN3 σ τ l1 l3 B ∧ (τ.1 11 = 0 → rd τ 32 l1 = τ.1 10)) → w_tellNamed_244 C Q  l1 l3 τ := by
    rintro y244_1 y244_3 τ244 j244
    unfold w_tellNamed_244
    refine isRight_c hC  (fun r6 q8 => ?_)
    refine ⟨fun c9 => ?_, fun c9 => ?_⟩
    · skip
      refine hj295 _ ?_
      · clear h; exact ⟨y244_1, y244_3, j244.1, j244.2.1, j244.2.2⟩  -- k4
    · skip
      refine ⟨fun c10 => ?_, fun c10 => ?_⟩
      · skip
        refine hj295 _ ?_
        · clear h; exact ⟨y244_1, y244_3, j244.1, j244.2.1, j244.2.2⟩  -- k5
      · skip
        refine ⟨ib_131074.mpr ?_, ?_⟩
        · clear h; exact (mS_rows j244.1).2.2.2  -- b6
        refine ⟨fun c11 => ?_, fun c11 => ?_⟩
        · skip
          refine hj295 _ ?_
          · clear h; exact ⟨y244_1, y244_3, j244.1, j244.2.1, j244.2.2⟩  -- k7
        · skip
          refine isNext_c hC  ?_ (fun r12 q14 => ?_)
          · clear h; exact ⟨(mS_rows j244.1).2.2.2.1, lt_T j244.1.2.1.1.2.2.2.2.2 (fun e => by have z := j244.1.2.1.1.2.2.2.1.1; rw [← e] at z; exact absurd (c11.symm.trans z) (by decide)) j244.1.2.1.1.2.2.1⟩  -- p8
          refine ⟨fun c15 => ?_, fun c15 => ?_⟩
          · skip
            refine hj295 _ ?_
            · clear h; exact ⟨y244_1, y244_3, j244.1, j244.2.1, j244.2.2⟩  -- k9
          · skip
            refine ⟨ib_150.mpr ?_, ?_⟩
            · clear h; exact ⟨j244.1.2.2.2.2.1, j244.1.2.2.2.2.2.1⟩  -- b10
            intro σ_16 hσ_16
            have m' : mSR9 σ σ_16 y244_1 B T := by rw [hσ_16]; exact mS_ri j244.1 (Or.inl rfl)
            have e16 : ∀ k, σ_16.1 k = τ244.1 k := fun k => by rw [hσ_16, ri1]
            have r16 : ∀ k, k ≠ 30 → σ_16.2.2.1 k = τ244.2.2.1 k := fun k hk => by rw [hσ_16, ri3 hk]
            have v30 : rd σ_16 30 y244_1 = 5 := by rw [rd, hσ_16, ri4, if_pos rfl]
            refine go_c hC B T ?_ (fun σ_17 q18 => ?_)
            · clear h; exact ⟨m'.2.1.1, fun _ => by rw [rd, r16 5 (by decide), e16, c11]; decide⟩  -- p11
            have b1 := mS_go m' q18
            refine arguments_c hC B T ?_ (fun σ_19 q20 => ?_)
            · clear h; exact ⟨b1.1.2.1, fun f => by obtain ⟨f0, l0, e0, o0⟩ := b1.2.2 f; rw [e16] at f0 o0; rw [o0, (j244.2.1 f0).2.1]; exact ⟨ho1, ho2⟩⟩  -- p12
            refine h _ ?_
            · clear h; have m2 := mS_aI b1.1 q20.1 (fun f => Int32.le_of_lt (q20.2 f).2.1)
              refine ⟨y244_1, m2, fun f => ?_⟩
              obtain ⟨f1, l1, o1, s40, n, hg⟩ := q20.2 f
              obtain ⟨f0, l0, e0, o0⟩ := b1.2.2 f1
              rw [e16] at f0 l0 e0 o0
              obtain ⟨n1, n2, n3, n4, n5⟩ := j244.2.1 f0
              have rB := mS_rows b1.1
              have k30 : rd σ_19 30 y244_1 = 5 := by rw [rd, q20.1.1.2.2.1 30 (by decide) (by decide) (by decide) (by decide), b1.2.1]; exact v30
              have k32 : rd σ_19 32 y244_1 = τ244.1 10 := by rw [rd, q20.1.1.2.2.1 32 (by decide) (by decide) (by decide) (by decide), b1.2.1, r16 32 (by decide)]; exact j244.2.2 f0
              have R39 : σ_17.2.2.1 39 = τ244.2.2.1 39 := by rw [b1.2.1, r16 39 (by decide)]
              have lP := Int32.lt_trans l0 l1
              rw [rB.1, rB.2.1, e0] at s40
              rw [rB.1, rB.2.1, e0, up_2] at hg
              rw [k30, k32]
              refine ⟨Int32.lt_trans n1 lP, by rw [o1, o0]; exact n2, Or.inr (Or.inr (Or.inr (Or.inr (Or.inl ⟨rfl, ⟨j244.1.2.1.1.2.2.2.2.1, lP, ?_, s40, n, hg⟩, fun _ => ⟨n4.1, Int32.lt_trans n1 lP, n4.2.2.1, ?_⟩⟩))))⟩
              · rw [← (mS_rows j244.1).1]; exact c11
              · have := q20.1.2.2.1 (σ.1 10) hA.2.2.2.1 (Int32.lt_trans n1 l0)
                rw [this, R39]; exact n5 c10
  have hj175 : ∀ (l1 : Int32) (l3 : Int32) (τ : rS), (mSR9 σ τ l1 B T ∧ tN3 σ τ l1 l3 B) → w_tellNamed_175 C Q  l1 l3 τ := by
    rintro y175_1 y175_3 τ175 j175
    unfold w_tellNamed_175
    refine sign_c hC B T ?_ (fun σ_21 q22 => ?_)
    · clear h; exact j175.1.2.1.1  -- p14
    refine ⟨ib_150.mpr ?_, ?_⟩
    · clear h; exact ⟨j175.1.2.2.2.2.1, j175.1.2.2.2.2.2.1⟩  -- b15
    intro σ_23 hσ_23
    have b1 := mS_sign j175.1 q22
    have m' : mSR9 σ σ_23 y175_1 B T := by rw [hσ_23]; exact mS_ri b1.1 (Or.inr rfl)
    have e23 : ∀ k, σ_23.1 k = σ_21.1 k := fun k => by rw [hσ_23, ri1]
    have r23 : ∀ k, k ≠ 32 → σ_23.2.2.1 k = σ_21.2.2.1 k := fun k hk => by rw [hσ_23, ri3 hk]
    have v32 : rd σ_23 32 y175_1 = σ_23.1 10 := by rw [rd, e23, hσ_23, ri4, if_pos rfl]
    have n' : tN3 σ σ_23 y175_1 y175_3 B := by
      intro f
      rw [e23] at f
      obtain ⟨f0, l0, e0, o0, -⟩ := b1.2.2 f
      obtain ⟨n1, n2, n3, n4, n5⟩ := j175.2 f0
      have R39 : σ_23.2.2.1 39 = τ175.2.2.1 39 := by rw [r23 39 (by decide), b1.2.1]
      have R30 : σ_23.2.2.1 30 = τ175.2.2.1 30 := by rw [r23 30 (by decide), b1.2.1]
      refine ⟨by rw [e23]; exact Int32.lt_trans n1 l0, by rw [e23, o0]; exact n2, by rw [rd, R30]; exact n3, ?_, fun z => by rw [rd, R39]; exact n5 z⟩
      rw [R39, e23]; exact tgO_up hP.1.1 n4 rLo_refl (Int32.le_of_lt l0)
    refine isRight_c hC  (fun r24 q26 => ?_)
    refine ⟨fun c27 => ?_, fun c27 => ?_⟩
    · skip
      refine hj244 _ _ _ ?_
      · clear h; exact ⟨m', n', fun _ => v32⟩  -- k16
    · skip
      refine isWord_c hC  ?_ (fun r28 q30 => ?_)
      · clear h; exact (mS_rows m').2.2.2  -- p17
      refine ⟨fun c31 => ?_, fun c31 => ?_⟩
      · skip
        refine hj244 _ _ _ ?_
        · clear h; exact ⟨m', n', fun _ => v32⟩  -- k18
      · skip
        refine ⟨ib_150.mpr ?_, ?_⟩
        · clear h; exact ⟨j175.1.2.2.2.2.1, j175.1.2.2.2.2.2.1⟩  -- b19
        intro σ_32 hσ_32
        have m2 : mSR9 σ σ_32 y175_1 B T := by rw [hσ_32]; exact mS_ri m' (Or.inl rfl)
        have e32 : ∀ k, σ_32.1 k = σ_23.1 k := fun k => by rw [hσ_32, ri1]
        have r32 : ∀ k, k ≠ 30 → σ_32.2.2.1 k = σ_23.2.2.1 k := fun k hk => by rw [hσ_32, ri3 hk]
        have v30 : rd σ_32 30 y175_1 = 4 := by rw [rd, hσ_32, ri4, if_pos rfl]
        have v32' : rd σ_32 32 y175_1 = σ_23.1 10 := by rw [rd, r32 32 (by decide)]; exact v32
        refine go_c hC B T ?_ (fun σ_33 q34 => ?_)
        · clear h; exact ⟨m2.2.1.1, fun _ => by rw [rd, r32 5 (by decide), e32]; show rd σ_23 5 (σ_23.1 10) ≠ 5; rw [(q30.2.mp c31).1]; decide⟩  -- p20
        refine open_c hC B T ?_ (fun σ_35 q36 => ?_)
        · clear h; exact q34.2.1  -- p21
        have b2 := mS_go m2 q34
        have b3 := mS_open b2.1 q36
        refine expr0_c hC B T ?_ (fun r37 σ_38 q39 => ?_)
        · clear h; exact ⟨b3.1.2.1, fun f => by obtain ⟨f1, l1, e1, o1, s1, o2⟩ := b3.2.2 f; obtain ⟨f0, l0, e0, o0⟩ := b2.2.2 f1; rw [e32] at f0 o0; rw [o0, (n' f0).2.1] at o2 o1; rw [o1]; exact oc_up ho1 ho2 o2⟩  -- p22
        refine close_c hC B T ?_ (fun σ_40 q41 => ?_)
        · clear h; exact q39.2.1.1  -- p23
        refine sign_c hC B T ?_ (fun σ_42 q43 => ?_)
        · clear h; exact q41.2.1  -- p24
        refine h _ ?_
        · clear h; have b4 := mS_expr b3.1 q39
          have b5 := mS_close b4.1 q41
          have b6 := mS_sign b5.1 q43
          refine ⟨y175_1, b6.1, fun f => ?_⟩
          obtain ⟨f5, l5, e5, o5, -⟩ := b6.2.2 f
          obtain ⟨f4, l4, e4, o4, -⟩ := b5.2.2 f5
          obtain ⟨f3, l3, o3, z3⟩ := b4.2.2.2.2 f4
          obtain ⟨f2, l2, e2, o2, s2, ox⟩ := b3.2.2 f3
          obtain ⟨f1, l1, e1, o1⟩ := b2.2.2 f2
          rw [e32] at f1 l1 e1 o1
          obtain ⟨n1, n2, n3, n4, n5⟩ := n' f1
          have k30 : rd σ_42 30 y175_1 = 4 := by
            have : rd σ_42 30 y175_1 = rd σ_38 30 y175_1 := by rw [rd, b6.2.1, b5.2.1]
            rw [this, b4.2.2.1, rd, b3.2.1, b2.2.1]; exact v30
          have k32 : rd σ_42 32 y175_1 = σ_23.1 10 := by
            have : rd σ_42 32 y175_1 = rd σ_38 32 y175_1 := by rw [rd, b6.2.1, b5.2.1]
            rw [this, b4.2.2.2.1, rd, b3.2.1, b2.2.1]; exact v32'
          have R0 : σ_35.2.2.1 39 = σ_23.2.2.1 39 := by rw [b3.2.1, b2.2.1, r32 39 (by decide)]
          have R1 : σ_42.2.2.1 39 = σ_38.2.2.1 39 := by rw [b6.2.1, b5.2.1]
          have hR := b4.2.1
          rw [R0] at hR
          have x2 : σ_35.1 10 = σ_23.1 10 + 2 := by rw [e2, e1]; exact up_2
          have lx : σ_23.1 10 < σ_35.1 10 := Int32.lt_trans l1 l2
          have lP := Int32.lt_trans l4 l5
          have lQ := Int32.lt_of_le_of_lt l3 lP
          rw [k30, k32, R1]
          refine ⟨Int32.lt_trans n1 (Int32.lt_trans lx lQ), by rw [o5, o4, o3, o2, o1, n2]; exact oc_dn, Or.inr (Or.inr (Or.inr (Or.inl ⟨rfl, ?_, m'.2.1.1.2.2.2.2.1, Int32.lt_trans lx lQ, ?_⟩)))⟩
          · exact tgO_up hP.1.1 n4 (fun t ht ht2 => hR t ht (Int32.lt_trans ht2 lx)) (Int32.le_of_lt (Int32.lt_trans lx lQ))
          · rw [← x2]; exact ⟨b3.1.2.1.1.2.2.2.2.1, σ_38.1 10, z3, l3, lP⟩
  have hj133 : ∀ (l1 : Int32) (l3 : Int32) (τ : rS), (mSR9 σ τ l1 B T ∧ tN3 σ τ l1 l3 B) → w_tellNamed_133 C Q  l1 l3 τ := by
    rintro y133_1 y133_3 τ133 j133
    unfold w_tellNamed_133
    refine isRight_c hC  (fun r44 q46 => ?_)
    refine ⟨fun c47 => ?_, fun c47 => ?_⟩
    · skip
      refine hj175 _ _ _ ?_
      · clear h; exact ⟨j133.1, j133.2⟩  -- k26
    · skip
      refine isAt_c hC  ?_ (fun r48 q50 => ?_)
      · clear h; exact (mS_rows j133.1).2.2.2  -- p27
      refine ⟨fun c51 => ?_, fun c51 => ?_⟩
      · skip
        refine hj175 _ _ _ ?_
        · clear h; exact ⟨j133.1, j133.2⟩  -- k28
      · skip
        refine go_c hC B T ?_ (fun σ_52 q53 => ?_)
        · clear h; exact ⟨j133.1.2.1.1, fun _ => by rw [(q50.2.mp c51).1]; decide⟩  -- p29
        refine ⟨ib_150.mpr ?_, ?_⟩
        · clear h; exact ⟨j133.1.2.2.2.2.1, j133.1.2.2.2.2.2.1⟩  -- b30
        intro σ_54 hσ_54
        refine ⟨ib_150.mpr ?_, ?_⟩
        · clear h; exact ⟨j133.1.2.2.2.2.1, j133.1.2.2.2.2.2.1⟩  -- b31
        intro σ_55 hσ_55
        have b1 := mS_go j133.1 q53
        have m2 : mSR9 σ σ_54 y133_1 B T := by rw [hσ_54]; exact mS_ri b1.1 (Or.inl rfl)
        have m3 : mSR9 σ σ_55 y133_1 B T := by rw [hσ_55]; exact mS_ri m2 (Or.inr rfl)
        have e55 : ∀ k, σ_55.1 k = σ_52.1 k := fun k => by rw [hσ_55, ri1, hσ_54, ri1]
        have r55 : ∀ k, k ≠ 30 → k ≠ 32 → σ_55.2.2.1 k = σ_52.2.2.1 k := fun k h1 h2 => by rw [hσ_55, ri3 h2, hσ_54, ri3 h1]
        have v30 : rd σ_55 30 y133_1 = 3 := by rw [rd, hσ_55, ri3 (by decide), hσ_54, ri4, if_pos rfl]
        have v32 : rd σ_55 32 y133_1 = σ_55.1 10 := by rw [rd, e55, hσ_55, ri4, if_pos rfl, hσ_54, ri1]
        refine tellDraw_c hC B T ?_ (fun σ_56 q57 => ?_)
        · clear h; exact ⟨m3.2.1, fun f => by rw [e55] at f; obtain ⟨f0, l0, e0, o0⟩ := b1.2.2 f; rw [e55, o0, (j133.2 f0).2.1]; exact ⟨ho1, ho2⟩⟩  -- p32
        refine h _ ?_
        · clear h; have m4 := mS_aI m3 q57.1 (fun f => Int32.le_of_lt (q57.2 f).2.1)
          refine ⟨y133_1, m4, fun f => ?_⟩
          obtain ⟨f1, l1, o1, hd⟩ := q57.2 f
          have rB := mS_rows m3
          rw [e55] at f1
          obtain ⟨f0, l0, e0, o0⟩ := b1.2.2 f1
          obtain ⟨n1, n2, n3, n4, n5⟩ := j133.2 f0
          have k30 : rd σ_56 30 y133_1 = 3 := by rw [rd, q57.1.1.2.2.1 30 (by decide) (by decide) (by decide) (by decide)]; exact v30
          have k32 : rd σ_56 32 y133_1 = σ_55.1 10 := by rw [rd, q57.1.1.2.2.1 32 (by decide) (by decide) (by decide) (by decide)]; exact v32
          have R0 : σ_55.2.2.1 39 = τ133.2.2.1 39 := by rw [r55 39 (by decide) (by decide), b1.2.1]
          have hR := q57.1.2.2.1
          rw [R0] at hR
          have lx : τ133.1 10 < σ_55.1 10 := by rw [e55]; exact l0
          rw [rB.1, rB.2.1] at hd
          rw [k30, k32]
          refine ⟨Int32.lt_trans n1 (Int32.lt_trans lx l1), by rw [o1, e55, o0]; exact n2, Or.inr (Or.inr (Or.inl ⟨rfl, ?_, m3.2.1.1.2.2.2.2.1, l1, hd⟩))⟩
          exact tgO_up hP.1.1 n4 (fun t ht ht2 => hR t ht (Int32.lt_trans ht2 lx)) (Int32.le_of_lt (Int32.lt_trans lx l1))
  have hj109 : ∀ (l1 : Int32) (l3 : Int32) (s1 : Int32) (s2 : Int32) (τ : rS), (mSR9 σ τ l1 B T ∧ s1 = σ.1 10 ∧ τ.1 11 = 0 ∧ τ.1 10 = σ.1 10 + 1 ∧ τ.1 13 = σ.1 13 ∧ rd τ 30 l1 = 2 ∧ ¬ sg (σ.2.2.1 5) (σ.2.2.1 7) (σ.1 10 + 1) 40 ∧ (l3 = 0 → s2 = -1 ∨ validV s2) ∧ (l3 ≠ 0 → s2 = -1 ∨ validC s2)) → w_tellNamed_109 C Q  l1 l3 s1 s2 τ := by
    rintro y109_1 y109_3 y109_s1 y109_s2 τ109 j109
    unfold w_tellNamed_109
    refine look_c hC  ?_ (fun σ_58 q59 => ?_)
    · clear h; rw [j109.2.1]; exact hA.2.2.2  -- p34
    have qq := q59
    rw [j109.2.1] at qq
    obtain ⟨w1, w2, w3, w4, w5, w6, w7, w8, w9⟩ := j109
    have m' := mS_look w1 hP.1.2.2.2.2.1 hP.1.2.2.2.2.2 hA.2.2.2.1 qq
    have e58 : σ_58.1 10 = σ.1 10 + 1 ∧ σ_58.1 13 = σ.1 13 ∧ rd σ_58 30 y109_1 = 2 := ⟨by rw [qq.1.1 10 (by decide) (by decide)]; exact w4, by rw [qq.1.1 13 (by decide) (by decide)]; exact w5, by rw [rd, qq.1.2.2.1 30 (by decide)]; exact w6⟩
    have ltb : σ.1 10 < σ_58.1 10 := at_up hP.1 m'.2.1.1.2.2.2.2.2 e58.1
    refine ⟨fun c60 => ?_, fun c60 => ?_⟩
    · skip
      refine hj133 _ _ _ ?_
      · clear h; refine ⟨m', fun f => ?_⟩
        have nv : validV (rd σ_58 39 (σ.1 10)) := by
          rw [qq.2.2.1]
          rcases w8 c60 with z | z
          · exact absurd z (qq.2.2.2.1 f).2
          · exact z
        exact ⟨ltb, e58.2.1, e58.2.2, ⟨hP.1.2.2.2.2.1, ltb, w7, Or.inl nv⟩, fun _ => nv⟩
    · skip
      refine open_c hC B T ?_ (fun σ_61 q62 => ?_)
      · clear h; exact m'.2.1.1  -- p36
      have b1 := mS_open m' q62
      refine expr0_c hC B T ?_ (fun r63 σ_64 q65 => ?_)
      · clear h; exact ⟨b1.1.2.1, fun f => by obtain ⟨f1, l1, e1, o1, s1, o2⟩ := b1.2.2 f; rw [e58.2.1] at o2 o1; rw [o1]; exact oc_up ho1 ho2 o2⟩  -- p37
      refine close_c hC B T ?_ (fun σ_66 q67 => ?_)
      · clear h; exact q65.2.1.1  -- p38
      refine hj133 _ _ _ ?_
      · clear h; have b2 := mS_expr b1.1 q65
        have b3 := mS_close b2.1 q67
        refine ⟨b3.1, fun f => ?_⟩
        obtain ⟨f2, l2, e2, o2, -⟩ := b3.2.2 f
        obtain ⟨f1, l1, o1, z1⟩ := b2.2.2.2.2 f2
        obtain ⟨f0, l0, e0, o0, s0, ox⟩ := b1.2.2 f1
        have nv : validC (rd σ_58 39 (σ.1 10)) := by
          rw [qq.2.2.1]
          rcases w9 c60 with z | z
          · exact absurd z (qq.2.2.2.1 f0).2
          · exact z
        have hR := b2.2.1
        rw [b1.2.1] at hR
        have l01 := Int32.lt_trans ltb l0
        have lP := Int32.lt_of_lt_of_le l01 (Int32.le_trans l1 (Int32.le_of_lt l2))
        have k30 : rd σ_66 30 y109_1 = 2 := by
          have : rd σ_66 30 y109_1 = rd σ_64 30 y109_1 := by rw [rd, b3.2.1]
          rw [this, b2.2.2.1, rd, b1.2.1]; exact e58.2.2
        have x2 : σ_61.1 10 = σ.1 10 + 2 := by rw [e0, e58.1]; exact up_2
        rw [b3.2.1]
        refine ⟨lP, by rw [o2, o1, o0, e58.2.1]; exact oc_dn, k30, ⟨hP.1.2.2.2.2.1, lP, w7, Or.inr ⟨?_, ?_⟩⟩, fun z => absurd z c60⟩
        · rw [hR (σ.1 10) hA.2.2.2.1 l01]; exact nv
        · rw [← x2]; exact ⟨b1.1.2.1.1.2.2.2.2.1, σ_64.1 10, z1, l1, l2⟩
  have hj90 : ∀ (l1 : Int32) (l2 : Int32) (l3 : Int32) (τ : rS), (mSR9 σ τ l1 B T ∧ l2 = σ.1 10 ∧ τ.1 11 = 0 ∧ τ.1 10 = σ.1 10 + 1 ∧ τ.1 13 = σ.1 13 ∧ rd τ 30 l1 = 2 ∧ ¬ sg (σ.2.2.1 5) (σ.2.2.1 7) (σ.1 10 + 1) 40) → w_tellNamed_90 C Q  l1 l2 l3 τ := by
    rintro y90_1 y90_2 y90_3 τ90 j90
    unfold w_tellNamed_90
    refine ⟨fun c68 => ?_, fun c68 => ?_⟩
    · skip
      refine variableOf_c hC  ?_ (fun r69 q71 => ?_)
      · clear h; rw [j90.2.1]; exact ⟨j90.1.2.1.2.2.1, j90.1.2.1.2.2.2.1, hA.2.2.2⟩  -- p40
      refine hj109 _ _ _ _ _ ?_
      · clear h; obtain ⟨w1, w2, w3, w4, w5, w6, w7⟩ := j90
        refine ⟨w1, w2, w3, w4, w5, w6, w7, fun _ => ?_, fun z => absurd c68 z⟩
        have t1 := w1.2.1.2.2.1
        have t2 := w1.2.1.2.2.2.1.2.2.2.2.2 (τ90.1 41).toNatClampNeg
        clear w1 hP hS
        grind [validV, tyF]
    · skip
      refine arrayOf_c hC  ?_ (fun r72 q74 => ?_)
      · clear h; rw [j90.2.1]; exact ⟨j90.1.2.1.2.2.1, j90.1.2.1.2.2.2.1, hA.2.2.2⟩  -- p42
      refine hj109 _ _ _ _ _ ?_
      · clear h; obtain ⟨w1, w2, w3, w4, w5, w6, w7⟩ := j90
        refine ⟨w1, w2, w3, w4, w5, w6, w7, fun z => absurd z c68, fun _ => ?_⟩
        have t1 := w1.2.1.2.2.1
        clear w1 hP hS
        grind [validC, tyF]
  refine newStatement_c hC B T ?_ (fun r75 σ_76 q77 => ?_)
  · clear h; exact ⟨hP.1, hP.2.2.1, hS, hb1, hb2, by rw [hn]; decide⟩  -- p44
  intro x78 hx78
  have m0 := mS_new hP q77
  have g5 : rd σ_76 5 (σ_76.1 10) = 1 := by rw [rd, (mS_rows m0.1).1, m0.2.2.1]; exact hn
  refine go_c hC B T ?_ (fun σ_79 q80 => ?_)
  · clear h; exact ⟨m0.1.2.1.1, fun _ => by rw [g5]; decide⟩  -- p45
  have b1 := mS_go m0.1 q80
  have g : σ_79.1 11 = 0 → σ_79.1 10 = σ.1 10 + 1 ∧ σ_79.1 13 = σ.1 13 ∧ rd σ_79 30 r75 = 2 := fun f => by
    obtain ⟨f0, l0, e0, o0⟩ := b1.2.2 f
    exact ⟨by rw [e0, m0.2.2.1], by rw [o0, m0.2.2.2.1], by rw [rd, b1.2.1]; exact m0.2.1 f0⟩
  have gx : x78 = σ.1 10 := by rw [hx78, m0.2.2.1]
  have ga : ∀ v c, (v ≠ 0 ↔ rd σ_79 5 (σ_79.1 10) = 3 ∧ rd σ_79 7 (σ_79.1 10) = c) → σ_79.1 11 = 0 → (v ≠ (0 : Int32) ↔ sg (σ.2.2.1 5) (σ.2.2.1 7) (σ.1 10 + 1) c) := fun v c hv f => by
    rw [hv, rd, rd, (mS_rows b1.1).1, (mS_rows b1.1).2.1, (g f).1]; rfl
  refine isRight_c hC  (fun r81 q83 => ?_)
  refine ⟨fun c84 => ?_, fun c84 => ?_⟩
  · skip
    refine isAt_c hC  ?_ (fun r85 q87 => ?_)
    · clear h; exact (mS_rows b1.1).2.2.2  -- p46
    refine ⟨fun c88 => ?_, fun c88 => ?_⟩
    · skip
      refine isAt_c hC  ?_ (fun r89 q91 => ?_)
      · clear h; exact (mS_rows b1.1).2.2.2  -- p47
      refine ⟨fun c92 => ?_, fun c92 => ?_⟩
      · skip
        refine hj90 _ _ _ _ ?_
        · clear h; have f := q83.2.mp c84
          exact ⟨b1.1, gx, f, (g f).1, (g f).2.1, (g f).2.2, fun z => (ga r85 40 q87.2 f).mpr z c88⟩
      · skip
        refine isAt_c hC  ?_ (fun r93 q95 => ?_)
        · clear h; exact (mS_rows b1.1).2.2.2  -- p49
        refine ⟨fun c96 => ?_, fun c96 => ?_⟩
        · skip
          refine hj90 _ _ _ _ ?_
          · clear h; have f := q83.2.mp c84
            exact ⟨b1.1, gx, f, (g f).1, (g f).2.1, (g f).2.2, fun z => (ga r85 40 q87.2 f).mpr z c88⟩
        · skip
          refine isAt_c hC  ?_ (fun r97 q99 => ?_)
          · clear h; exact (mS_rows b1.1).2.2.2  -- p51
          refine ⟨fun c100 => ?_, fun c100 => ?_⟩
          · skip
            refine hj90 _ _ _ _ ?_
            · clear h; have f := q83.2.mp c84
              exact ⟨b1.1, gx, f, (g f).1, (g f).2.1, (g f).2.2, fun z => (ga r85 40 q87.2 f).mpr z c88⟩
          · skip
            refine flaw_c hC  ?_ (fun σ_101 q102 => ?_)
            · clear h; exact ⟨(mS_rows b1.1).2.2.2.1, (mS_rows b1.1).2.2.2.2, by decide⟩  -- p53
            refine h _ ?_
            · clear h; have b := mS_flaw b1.1 q102
              exact ⟨r75, b.1, fun f => absurd f b.2⟩
    · skip
      refine ⟨ib_150.mpr ?_, ?_⟩
      · clear h; exact ⟨b1.1.2.2.2.2.1, b1.1.2.2.2.2.2.1⟩  -- b55
      intro σ_103 hσ_103
      refine ⟨ib_150.mpr ?_, ?_⟩
      · clear h; exact ⟨b1.1.2.2.2.2.1, b1.1.2.2.2.2.2.1⟩  -- b56
      intro σ_104 hσ_104
      have f := q83.2.mp c84
      have m2 : mSR9 σ σ_103 r75 B T := by rw [hσ_103]; exact mS_ri b1.1 (Or.inl rfl)
      have m3 : mSR9 σ σ_104 r75 B T := by rw [hσ_104]; exact mS_ri m2 (Or.inr rfl)
      have e104 : ∀ k, σ_104.1 k = σ_79.1 k := fun k => by rw [hσ_104, ri1, hσ_103, ri1]
      have v30 : rd σ_104 30 r75 = 5 := by rw [rd, hσ_104, ri3 (by decide), hσ_103, ri4, if_pos rfl]
      have v32 : rd σ_104 32 r75 = σ.1 10 := by rw [rd, hσ_104, ri4, if_pos rfl]; exact gx
      refine arguments_c hC B T ?_ (fun σ_105 q106 => ?_)
      · clear h; exact ⟨m3.2.1, fun _ => by rw [e104, (g f).2.1]; exact ⟨ho1, ho2⟩⟩  -- p57
      refine h _ ?_
      · clear h; have m4 := mS_aI m3 q106.1 (fun f => Int32.le_of_lt (q106.2 f).2.1)
        refine ⟨r75, m4, fun f' => ?_⟩
        obtain ⟨f1, l1, o1, s40, n, hg⟩ := q106.2 f'
        have rB := mS_rows m3
        rw [rB.1, rB.2.1, e104, (g f).1] at s40
        rw [rB.1, rB.2.1, e104, (g f).1, up_2] at hg
        have k30 : rd σ_105 30 r75 = 5 := by rw [rd, q106.1.1.2.2.1 30 (by decide) (by decide) (by decide) (by decide)]; exact v30
        have k32 : rd σ_105 32 r75 = σ.1 10 := by rw [rd, q106.1.1.2.2.1 32 (by decide) (by decide) (by decide) (by decide)]; exact v32
        have lt1 : σ.1 10 < σ_105.1 10 := Int32.lt_trans (at_up hP.1 m3.2.1.1.2.2.2.2.2 (by rw [e104]; exact (g f).1)) l1
        rw [k30, k32]
        exact ⟨lt1, by rw [o1, e104]; exact (g f).2.1, Or.inr (Or.inr (Or.inr (Or.inr (Or.inl ⟨rfl, ⟨hP.1.2.2.2.2.1, lt1, hn, s40, n, hg⟩, fun z => absurd rfl z⟩))))⟩
  · skip
    refine h _ ?_
    · clear h; exact ⟨r75, b1.1, fun f => absurd c84 (q83.2.mpr f)⟩  -- q59
