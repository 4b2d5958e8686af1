section
set_option maxHeartbeats 1600000
/-! the reference: a statement that begins with a name -/
/-- a statement was read whole -/
def sT (σ σ' : rS) (B T : Int32) : Prop := ∃ s, mSR9 σ σ' s B T ∧ (σ'.1 11 = 0 → σ.1 10 < σ'.1 10 ∧ σ'.1 13 = σ.1 13 ∧ stK (σ.2.2.1 5) (σ.2.2.1 7) (σ'.2.2.1 39) B (σ'.1 10) (rd σ' 30 s) (σ.1 10) (rd σ' 32 s))
/-- its name was looked up -/
def tN3 (σ τ : rS) (s c B : Int32) : Prop := τ.1 11 = 0 → σ.1 10 < τ.1 10 ∧ τ.1 13 = σ.1 13 ∧ rd τ 30 s = 2 ∧ tgO (σ.2.2.1 5) (σ.2.2.1 7) (τ.2.2.1 39) B (τ.1 10) (σ.1 10) ∧ (c = 0 → validV (rd τ 39 (σ.1 10)))
theorem lt_T {a T : Int32} (h : a ≤ T) (hne : ¬ a = T) (hT : T < 131074) : a < 131073 := by grind
theorem tellNamed_c {C : rCx} (hC : cOK C) (B T : Int32) {σ : rS}  {Q : rS → Prop} (hp : p0 σ B T ∧ tS σ ∧ 1 ≤ σ.1 42 ∧ σ.1 42 ≤ 64 ∧ 0 ≤ σ.1 13 ∧ σ.1 13 ≤ 40 ∧ rd σ 5 (σ.1 10) = 1) (h : ∀ (σ' : rS), (sT σ σ' B T) → Q σ') : cV C 8 m_tellNamed [.ref (co C)] σ Q := by
  refine m_tellNamed_run hC ?_
  unfold w_tellNamed_0
  obtain ⟨hP, hS, hb1, hb2, ho1, ho2, hn⟩ := hp
  have hA := aI_at (aI_refl hP)
  have hj295 : ∀  (τ : rS), (∃ s c, mSR9 σ τ s B T ∧ tN3 σ τ s c B ∧ (τ.1 11 = 0 → rd τ 32 s = τ.1 10)) → w_tellNamed_295 C Q   τ := by
    rintro  τ295 j295
    unfold w_tellNamed_295
    obtain ⟨s, c, m, n, x⟩ := j295
    refine expr0_c hC B T ?_ (fun r1 σ_2 q3 => ?_)
    · clear h; exact ⟨m.2.1, fun f => by rw [(n f).2.1]; exact ⟨ho1, ho2⟩⟩  -- p1
    refine sign_c hC B T ?_ (fun σ_4 q5 => ?_)
    · clear h; exact q3.2.1.1  -- p2
    refine h _ ?_
    · clear h; have b1 := mS_expr m q3
      have b2 := mS_sign b1.1 q5
      refine ⟨s, b2.1, fun f => ?_⟩
      obtain ⟨f1, l1, e1, o1, -⟩ := b2.2.2 f
      obtain ⟨f0, l0, o0, z0⟩ := b1.2.2.2.2 f1
      obtain ⟨n1, n2, n3, n4, n5⟩ := n f0
      have k30 : rd σ_4 30 s = 2 := by rw [rd, b2.2.1]; exact b1.2.2.1.trans n3
      have k32 : rd σ_4 32 s = τ295.1 10 := by rw [rd, b2.2.1]; exact b1.2.2.2.1.trans (x f0)
      rw [k30, k32, b2.2.1]
      have lP := Int32.le_trans l0 (Int32.le_of_lt l1)
      exact ⟨Int32.lt_of_lt_of_le n1 lP, by rw [o1, o0]; exact n2, Or.inr (Or.inl ⟨rfl, tgO_up hP.1.1 n4 b1.2.1 lP, (mS_rows m).2.2.1.2.2.2.2.1, σ_2.1 10, z0, l0, l1⟩)⟩
  have hj244 : ∀ (l1 : Int32) (l3 : Int32) (τ : rS), (mSR9 σ τ l1 B T ∧ tN3 σ τ l1 l3 B ∧ (τ.1 11 = 0 → rd τ 32 l1 = τ.1 10)) → w_tellNamed_244 C Q  l1 l3 τ := by
    rintro y244_1 y244_3 τ244 j244
    unfold w_tellNamed_244
    refine isRight_c hC  (fun r6 q8 => ?_)
    refine ⟨fun c9 => ?_, fun c9 => ?_⟩
    · skip
      refine hj295 _ ?_
      · clear h; exact ⟨y244_1, y244_3, j244.1, j244.2.1, j244.2.2⟩  -- k4
    · skip
      refine ⟨fun c10 => ?_, fun c10 => ?_⟩
      · skip
        refine hj295 _ ?_
        · clear h; exact ⟨y244_1, y244_3, j244.1, j244.2.1, j244.2.2⟩  -- k5
      · skip
        refine ⟨ib_131074.mpr ?_, ?_⟩
        · clear h; exact (mS_rows j244.1).2.2.2  -- b6
        refine ⟨fun c11 => ?_, fun c11 => ?_⟩
        · skip
          refine hj295 _ ?_
          · clear h; exact ⟨y244_1, y244_3, j244.1, j244.2.1, j244.2.2⟩  -- k7
        · skip
          refine isNext_c hC  ?_ (fun r12 q14 => ?_)
          · clear h; exact ⟨(mS_rows j244.1).2.2.2.1, lt_T j244.1.2.1.1.2.2.2.2.2 (fun e => by have z := j244.1.2.1.1.2.2.2.1.1; rw [← e] at z; exact absurd (c11.symm.trans z) (by decide)) j244.1.2.1.1.2.2.1⟩  -- p8
          refine ⟨fun c15 => ?_, fun c15 => ?_⟩
          · skip
            refine hj295 _ ?_
            · clear h; exact ⟨y244_1, y244_3, j244.1, j244.2.1, j244.2.2⟩  -- k9
          · skip
            refine ⟨ib_150.mpr ?_, ?_⟩
            · clear h; exact ⟨j244.1.2.2.2.2.1, j244.1.2.2.2.2.2.1⟩  -- b10
            intro σ_16 hσ_16
            have m' : mSR9 σ σ_16 y244_1 B T := by rw [hσ_16]; exact mS_ri j244.1 (Or.inl rfl)
            have e16 : ∀ k, σ_16.1 k = τ244.1 k := fun k => by rw [hσ_16, ri1]
            have r16 : ∀ k, k ≠ 30 → σ_16.2.2.1 k = τ244.2.2.1 k := fun k hk => by rw [hσ_16, ri3 hk]
            have v30 : rd σ_16 30 y244_1 = 5 := by rw [rd, hσ_16, ri4, if_pos rfl]
            refine go_c hC B T ?_ (fun σ_17 q18 => ?_)
            · clear h; exact ⟨m'.2.1.1, fun _ => by rw [rd, r16 5 (by decide), e16, c11]; decide⟩  -- p11
            have b1 := mS_go m' q18
            refine arguments_c hC B T ?_ (fun σ_19 q20 => ?_)
            · clear h; exact ⟨b1.1.2.1, fun f => by obtain ⟨f0, l0, e0, o0⟩ := b1.2.2 f; rw [e16] at f0 o0; rw [o0, (j244.2.1 f0).2.1]; exact ⟨ho1, ho2⟩⟩  -- p12
            refine h _ ?_
            · clear h; have m2 := mS_aI b1.1 q20.1 (fun f => Int32.le_of_lt (q20.2 f).2.1)
              refine ⟨y244_1, m2, fun f => ?_⟩
              obtain ⟨f1, l1, o1, s40, n, hg⟩ := q20.2 f
              obtain ⟨f0, l0, e0, o0⟩ := b1.2.2 f1
              rw [e16] at f0 l0 e0 o0
              obtain ⟨n1, n2, n3, n4, n5⟩ := j244.2.1 f0
              have rB := mS_rows b1.1
              have k30 : rd σ_19 30 y244_1 = 5 := by rw [rd, q20.1.1.2.2.1 30 (by decide) (by decide) (by decide) (by decide), b1.2.1]; exact v30
              have k32 : rd σ_19 32 y244_1 = τ244.1 10 := by rw [rd, q20.1.1.2.2.1 32 (by decide) (by decide) (by decide) (by decide), b1.2.1, r16 32 (by decide)]; exact j244.2.2 f0
              have R39 : σ_17.2.2.1 39 = τ244.2.2.1 39 := by rw [b1.2.1, r16 39 (by decide)]
              have lP := Int32.lt_trans l0 l1
              rw [rB.1, rB.2.1, e0] at s40
              rw [rB.1, rB.2.1, e0, up_2] at hg
              rw [k30, k32]
              refine ⟨Int32.lt_trans n1 lP, by rw [o1, o0]; exact n2, Or.inr (Or.inr (Or.inr (Or.inr (Or.inl ⟨rfl, ⟨j244.1.2.1.1.2.2.2.2.1, lP, ?_, s40, n, hg⟩, fun _ => ⟨n4.1, Int32.lt_trans n1 lP, n4.2.2.1, ?_⟩⟩))))⟩
              · rw [← (mS_rows j244.1).1]; exact c11
              · have := q20.1.2.2.1 (σ.1 10) hA.2.2.2.1 (Int32.lt_trans n1 l0)
                rw [this, R39]; exact n5 c10
  have hj175 : ∀ (l1 : Int32) (l3 : Int32) (τ : rS), (mSR9 σ τ l1 B T ∧ tN3 σ τ l1 l3 B) → w_tellNamed_175 C Q  l1 l3 τ := by
    rintro y175_1 y175_3 τ175 j175
    unfold w_tellNamed_175
    refine sign_c hC B T ?_ (fun σ_21 q22 => ?_)
    · clear h; exact j175.1.2.1.1  -- p14
    refine ⟨ib_150.mpr ?_, ?_⟩
    · clear h; exact ⟨j175.1.2.2.2.2.1, j175.1.2.2.2.2.2.1⟩  -- b15
    intro σ_23 hσ_23
    have b1 := mS_sign j175.1 q22
    have m' : mSR9 σ σ_23 y175_1 B T := by rw [hσ_23]; exact mS_ri b1.1 (Or.inr rfl)
    have e23 : ∀ k, σ_23.1 k = σ_21.1 k := fun k => by rw [hσ_23, ri1]
    have r23 : ∀ k, k ≠ 32 → σ_23.2.2.1 k = σ_21.2.2.1 k := fun k hk => by rw [hσ_23, ri3 hk]
    have v32 : rd σ_23 32 y175_1 = σ_23.1 10 := by rw [rd, e23, hσ_23, ri4, if_pos rfl]
    have n' : tN3 σ σ_23 y175_1 y175_3 B := by
      intro f
      rw [e23] at f
      obtain ⟨f0, l0, e0, o0, -⟩ := b1.2.2 f
      obtain ⟨n1, n2, n3, n4, n5⟩ := j175.2 f0
      have R39 : σ_23.2.2.1 39 = τ175.2.2.1 39 := by rw [r23 39 (by decide), b1.2.1]
      have R30 : σ_23.2.2.1 30 = τ175.2.2.1 30 := by rw [r23 30 (by decide), b1.2.1]
      refine ⟨by rw [e23]; exact Int32.lt_trans n1 l0, by rw [e23, o0]; exact n2, by rw [rd, R30]; exact n3, ?_, fun z => by rw [rd, R39]; exact n5 z⟩
      rw [R39, e23]; exact tgO_up hP.1.1 n4 rLo_refl (Int32.le_of_lt l0)
    refine isRight_c hC  (fun r24 q26 => ?_)
    refine ⟨fun c27 => ?_, fun c27 => ?_⟩
    · skip
      refine hj244 _ _ _ ?_
      · clear h; exact ⟨m', n', fun _ => v32⟩  -- k16
    · skip
      refine isWord_c hC  ?_ (fun r28 q30 => ?_)
      · clear h; exact (mS_rows m').2.2.2  -- p17
      refine ⟨fun c31 => ?_, fun c31 => ?_⟩
      · skip
        refine hj244 _ _ _ ?_
        · clear h; exact ⟨m', n', fun _ => v32⟩  -- k18
      · skip
        refine ⟨ib_150.mpr ?_, ?_⟩
        · clear h; exact ⟨j175.1.2.2.2.2.1, j175.1.2.2.2.2.2.1⟩  -- b19
        intro σ_32 hσ_32
        have m2 : mSR9 σ σ_32 y175_1 B T := by rw [hσ_32]; exact mS_ri m' (Or.inl rfl)
        have e32 : ∀ k, σ_32.1 k = σ_23.1 k := fun k => by rw [hσ_32, ri1]
        have r32 : ∀ k, k ≠ 30 → σ_32.2.2.1 k = σ_23.2.2.1 k := fun k hk => by rw [hσ_32, ri3 hk]
        have v30 : rd σ_32 30 y175_1 = 4 := by rw [rd, hσ_32, ri4, if_pos rfl]
        have v32' : rd σ_32 32 y175_1 = σ_23.1 10 := by rw [rd, r32 32 (by decide)]; exact v32
        refine go_c hC B T ?_ (fun σ_33 q34 => ?_)
        · clear h; exact ⟨m2.2.1.1, fun _ => by rw [rd, r32 5 (by decide), e32]; show rd σ_23 5 (σ_23.1 10) ≠ 5; rw [(q30.2.mp c31).1]; decide⟩  -- p20
        refine open_c hC B T ?_ (fun σ_35 q36 => ?_)
        · clear h; exact q34.2.1  -- p21
        have b2 := mS_go m2 q34
        have b3 := mS_open b2.1 q36
        refine expr0_c hC B T ?_ (fun r37 σ_38 q39 => ?_)
        · clear h; exact ⟨b3.1.2.1, fun f => by obtain ⟨f1, l1, e1, o1, s1, o2⟩ := b3.2.2 f; obtain ⟨f0, l0, e0, o0⟩ := b2.2.2 f1; rw [e32] at f0 o0; rw [o0, (n' f0).2.1] at o2 o1; rw [o1]; exact oc_up ho1 ho2 o2⟩  -- p22
        refine close_c hC B T ?_ (fun σ_40 q41 => ?_)
        · clear h; exact q39.2.1.1  -- p23
        refine sign_c hC B T ?_ (fun σ_42 q43 => ?_)
        · clear h; exact q41.2.1  -- p24
        refine h _ ?_
        · clear h; have b4 := mS_expr b3.1 q39
          have b5 := mS_close b4.1 q41
          have b6 := mS_sign b5.1 q43
          refine ⟨y175_1, b6.1, fun f => ?_⟩
          obtain ⟨f5, l5, e5, o5, -⟩ := b6.2.2 f
          obtain ⟨f4, l4, e4, o4, -⟩ := b5.2.2 f5
          obtain ⟨f3, l3, o3, z3⟩ := b4.2.2.2.2 f4
          obtain ⟨f2, l2, e2, o2, s2, ox⟩ := b3.2.2 f3
          obtain ⟨f1, l1, e1, o1⟩ := b2.2.2 f2
          rw [e32] at f1 l1 e1 o1
          obtain ⟨n1, n2, n3, n4, n5⟩ := n' f1
          have k30 : rd σ_42 30 y175_1 = 4 := by
            have : rd σ_42 30 y175_1 = rd σ_38 30 y175_1 := by rw [rd, b6.2.1, b5.2.1]
            rw [this, b4.2.2.1, rd, b3.2.1, b2.2.1]; exact v30
          have k32 : rd σ_42 32 y175_1 = σ_23.1 10 := by
            have : rd σ_42 32 y175_1 = rd σ_38 32 y175_1 := by rw [rd, b6.2.1, b5.2.1]
            rw [this, b4.2.2.2.1, rd, b3.2.1, b2.2.1]; exact v32'
          have R0 : σ_35.2.2.1 39 = σ_23.2.2.1 39 := by rw [b3.2.1, b2.2.1, r32 39 (by decide)]
          have R1 : σ_42.2.2.1 39 = σ_38.2.2.1 39 := by rw [b6.2.1, b5.2.1]
          have hR := b4.2.1
          rw [R0] at hR
          have x2 : σ_35.1 10 = σ_23.1 10 + 2 := by rw [e2, e1]; exact up_2
          have lx : σ_23.1 10 < σ_35.1 10 := Int32.lt_trans l1 l2
          have lP := Int32.lt_trans l4 l5
          have lQ := Int32.lt_of_le_of_lt l3 lP
          rw [k30, k32, R1]
          refine ⟨Int32.lt_trans n1 (Int32.lt_trans lx lQ), by rw [o5, o4, o3, o2, o1, n2]; exact oc_dn, Or.inr (Or.inr (Or.inr (Or.inl ⟨rfl, ?_, m'.2.1.1.2.2.2.2.1, Int32.lt_trans lx lQ, ?_⟩)))⟩
          · exact tgO_up hP.1.1 n4 (fun t ht ht2 => hR t ht (Int32.lt_trans ht2 lx)) (Int32.le_of_lt (Int32.lt_trans lx lQ))
          · rw [← x2]; exact ⟨b3.1.2.1.1.2.2.2.2.1, σ_38.1 10, z3, l3, lP⟩
  have hj133 : ∀ (l1 : Int32) (l3 : Int32) (τ : rS), (mSR9 σ τ l1 B T ∧ tN3 σ τ l1 l3 B) → w_tellNamed_133 C Q  l1 l3 τ := by
    rintro y133_1 y133_3 τ133 j133
    unfold w_tellNamed_133
    refine isRight_c hC  (fun r44 q46 => ?_)
    refine ⟨fun c47 => ?_, fun c47 => ?_⟩
    · skip
      refine hj175 _ _ _ ?_
      · clear h; exact ⟨j133.1, j133.2⟩  -- k26
    · skip
      refine isAt_c hC  ?_ (fun r48 q50 => ?_)
      · clear h; exact (mS_rows j133.1).2.2.2  -- p27
      refine ⟨fun c51 => ?_, fun c51 => ?_⟩
      · skip
        refine hj175 _ _ _ ?_
        · clear h; exact ⟨j133.1, j133.2⟩  -- k28
      · skip
        refine go_c hC B T ?_ (fun σ_52 q53 => ?_)
        · clear h; exact ⟨j133.1.2.1.1, fun _ => by rw [(q50.2.mp c51).1]; decide⟩  -- p29
        refine ⟨ib_150.mpr ?_, ?_⟩
        · clear h; exact ⟨j133.1.2.2.2.2.1, j133.1.2.2.2.2.2.1⟩  -- b30
        intro σ_54 hσ_54
        refine ⟨ib_150.mpr ?_, ?_⟩
        · clear h; exact ⟨j133.1.2.2.2.2.1, j133.1.2.2.2.2.2.1⟩  -- b31
        intro σ_55 hσ_55
        have b1 := mS_go j133.1 q53
        have m2 : mSR9 σ σ_54 y133_1 B T := by rw [hσ_54]; exact mS_ri b1.1 (Or.inl rfl)
        have m3 : mSR9 σ σ_55 y133_1 B T := by rw [hσ_55]; exact mS_ri m2 (Or.inr rfl)
        have e55 : ∀ k, σ_55.1 k = σ_52.1 k := fun k => by rw [hσ_55, ri1, hσ_54, ri1]
        have r55 : ∀ k, k ≠ 30 → k ≠ 32 → σ_55.2.2.1 k = σ_52.2.2.1 k := fun k h1 h2 => by rw [hσ_55, ri3 h2, hσ_54, ri3 h1]
        have v30 : rd σ_55 30 y133_1 = 3 := by rw [rd, hσ_55, ri3 (by decide), hσ_54, ri4, if_pos rfl]
        have v32 : rd σ_55 32 y133_1 = σ_55.1 10 := by rw [rd, e55, hσ_55, ri4, if_pos rfl, hσ_54, ri1]
        refine tellDraw_c hC B T ?_ (fun σ_56 q57 => ?_)
        · clear h; exact ⟨m3.2.1, fun f => by rw [e55] at f; obtain ⟨f0, l0, e0, o0⟩ := b1.2.2 f; rw [e55, o0, (j133.2 f0).2.1]; exact ⟨ho1, ho2⟩⟩  -- p32
        refine h _ ?_
        · clear h; have m4 := mS_aI m3 q57.1 (fun f => Int32.le_of_lt (q57.2 f).2.1)
          refine ⟨y133_1, m4, fun f => ?_⟩
          obtain ⟨f1, l1, o1, hd⟩ := q57.2 f
          have rB := mS_rows m3
          rw [e55] at f1
          obtain ⟨f0, l0, e0, o0⟩ := b1.2.2 f1
          obtain ⟨n1, n2, n3, n4, n5⟩ := j133.2 f0
          have k30 : rd σ_56 30 y133_1 = 3 := by rw [rd, q57.1.1.2.2.1 30 (by decide) (by decide) (by decide) (by decide)]; exact v30
          have k32 : rd σ_56 32 y133_1 = σ_55.1 10 := by rw [rd, q57.1.1.2.2.1 32 (by decide) (by decide) (by decide) (by decide)]; exact v32
          have R0 : σ_55.2.2.1 39 = τ133.2.2.1 39 := by rw [r55 39 (by decide) (by decide), b1.2.1]
          have hR := q57.1.2.2.1
          rw [R0] at hR
          have lx : τ133.1 10 < σ_55.1 10 := by rw [e55]; exact l0
          rw [rB.1, rB.2.1] at hd
          rw [k30, k32]
          refine ⟨Int32.lt_trans n1 (Int32.lt_trans lx l1), by rw [o1, e55, o0]; exact n2, Or.inr (Or.inr (Or.inl ⟨rfl, ?_, m3.2.1.1.2.2.2.2.1, l1, hd⟩))⟩
          exact tgO_up hP.1.1 n4 (fun t ht ht2 => hR t ht (Int32.lt_trans ht2 lx)) (Int32.le_of_lt (Int32.lt_trans lx l1))
  have hj109 : ∀ (l1 : Int32) (l3 : Int32) (s1 : Int32) (s2 : Int32) (τ : rS), (mSR9 σ τ l1 B T ∧ s1 = σ.1 10 ∧ τ.1 11 = 0 ∧ τ.1 10 = σ.1 10 + 1 ∧ τ.1 13 = σ.1 13 ∧ rd τ 30 l1 = 2 ∧ ¬ sg (σ.2.2.1 5) (σ.2.2.1 7) (σ.1 10 + 1) 40 ∧ (l3 = 0 → s2 = -1 ∨ validV s2) ∧ (l3 ≠ 0 → s2 = -1 ∨ validC s2)) → w_tellNamed_109 C Q  l1 l3 s1 s2 τ := by
    rintro y109_1 y109_3 y109_s1 y109_s2 τ109 j109
    unfold w_tellNamed_109
    refine look_c hC  ?_ (fun σ_58 q59 => ?_)
    · clear h; rw [j109.2.1]; exact hA.2.2.2  -- p34
    have qq := q59
    rw [j109.2.1] at qq
    obtain ⟨w1, w2, w3, w4, w5, w6, w7, w8, w9⟩ := j109
    have m' := mS_look w1 hP.1.2.2.2.2.1 hP.1.2.2.2.2.2 hA.2.2.2.1 qq
    have e58 : σ_58.1 10 = σ.1 10 + 1 ∧ σ_58.1 13 = σ.1 13 ∧ rd σ_58 30 y109_1 = 2 := ⟨by rw [qq.1.1 10 (by decide) (by decide)]; exact w4, by rw [qq.1.1 13 (by decide) (by decide)]; exact w5, by rw [rd, qq.1.2.2.1 30 (by decide)]; exact w6⟩
    have ltb : σ.1 10 < σ_58.1 10 := at_up hP.1 m'.2.1.1.2.2.2.2.2 e58.1
    refine ⟨fun c60 => ?_, fun c60 => ?_⟩
    · skip
      refine hj133 _ _ _ ?_
      · clear h; refine ⟨m', fun f => ?_⟩
        have nv : validV (rd σ_58 39 (σ.1 10)) := by
          rw [qq.2.2.1]
          rcases w8 c60 with z | z
          · exact absurd z (qq.2.2.2.1 f).2
          · exact z
        exact ⟨ltb, e58.2.1, e58.2.2, ⟨hP.1.2.2.2.2.1, ltb, w7, Or.inl nv⟩, fun _ => nv⟩
    · skip
      refine open_c hC B T ?_ (fun σ_61 q62 => ?_)
      · clear h; exact m'.2.1.1  -- p36
      have b1 := mS_open m' q62
      refine expr0_c hC B T ?_ (fun r63 σ_64 q65 => ?_)
      · clear h; exact ⟨b1.1.2.1, fun f => by obtain ⟨f1, l1, e1, o1, s1, o2⟩ := b1.2.2 f; rw [e58.2.1] at o2 o1; rw [o1]; exact oc_up ho1 ho2 o2⟩  -- p37
      refine close_c hC B T ?_ (fun σ_66 q67 => ?_)
      · clear h; exact q65.2.1.1  -- p38
      refine hj133 _ _ _ ?_
      · clear h; have b2 := mS_expr b1.1 q65
        have b3 := mS_close b2.1 q67
        refine ⟨b3.1, fun f => ?_⟩
        obtain ⟨f2, l2, e2, o2, -⟩ := b3.2.2 f
        obtain ⟨f1, l1, o1, z1⟩ := b2.2.2.2.2 f2
        obtain ⟨f0, l0, e0, o0, s0, ox⟩ := b1.2.2 f1
        have nv : validC (rd σ_58 39 (σ.1 10)) := by
          rw [qq.2.2.1]
          rcases w9 c60 with z | z
          · exact absurd z (qq.2.2.2.1 f0).2
          · exact z
        have hR := b2.2.1
        rw [b1.2.1] at hR
        have l01 := Int32.lt_trans ltb l0
        have lP := Int32.lt_of_lt_of_le l01 (Int32.le_trans l1 (Int32.le_of_lt l2))
        have k30 : rd σ_66 30 y109_1 = 2 := by
          have : rd σ_66 30 y109_1 = rd σ_64 30 y109_1 := by rw [rd, b3.2.1]
          rw [this, b2.2.2.1, rd, b1.2.1]; exact e58.2.2
        have x2 : σ_61.1 10 = σ.1 10 + 2 := by rw [e0, e58.1]; exact up_2
        rw [b3.2.1]
        refine ⟨lP, by rw [o2, o1, o0, e58.2.1]; exact oc_dn, k30, ⟨hP.1.2.2.2.2.1, lP, w7, Or.inr ⟨?_, ?_⟩⟩, fun z => absurd z c60⟩
        · rw [hR (σ.1 10) hA.2.2.2.1 l01]; exact nv
        · rw [← x2]; exact ⟨b1.1.2.1.1.2.2.2.2.1, σ_64.1 10, z1, l1, l2⟩
  have hj90 : ∀ (l1 : Int32) (l2 : Int32) (l3 : Int32) (τ : rS), (mSR9 σ τ l1 B T ∧ l2 = σ.1 10 ∧ τ.1 11 = 0 ∧ τ.1 10 = σ.1 10 + 1 ∧ τ.1 13 = σ.1 13 ∧ rd τ 30 l1 = 2 ∧ ¬ sg (σ.2.2.1 5) (σ.2.2.1 7) (σ.1 10 + 1) 40) → w_tellNamed_90 C Q  l1 l2 l3 τ := by
    rintro y90_1 y90_2 y90_3 τ90 j90
    unfold w_tellNamed_90
    refine ⟨fun c68 => ?_, fun c68 => ?_⟩
    · skip
      refine variableOf_c hC  ?_ (fun r69 q71 => ?_)
      · clear h; rw [j90.2.1]; exact ⟨j90.1.2.1.2.2.1, j90.1.2.1.2.2.2.1, hA.2.2.2⟩  -- p40
      refine hj109 _ _ _ _ _ ?_
      · clear h; obtain ⟨w1, w2, w3, w4, w5, w6, w7⟩ := j90
        refine ⟨w1, w2, w3, w4, w5, w6, w7, fun _ => ?_, fun z => absurd c68 z⟩
        have t1 := w1.2.1.2.2.1
        have t2 := w1.2.1.2.2.2.1.2.2.2.2.2 (τ90.1 41).toNatClampNeg
        clear w1 hP hS
        grind [validV, tyF]
    · skip
      refine arrayOf_c hC  ?_ (fun r72 q74 => ?_)
      · clear h; rw [j90.2.1]; exact ⟨j90.1.2.1.2.2.1, j90.1.2.1.2.2.2.1, hA.2.2.2⟩  -- p42
      refine hj109 _ _ _ _ _ ?_
      · clear h; obtain ⟨w1, w2, w3, w4, w5, w6, w7⟩ := j90
        refine ⟨w1, w2, w3, w4, w5, w6, w7, fun z => absurd z c68, fun _ => ?_⟩
        have t1 := w1.2.1.2.2.1
        clear w1 hP hS
        grind [validC, tyF]
  refine newStatement_c hC B T ?_ (fun r75 σ_76 q77 => ?_)
  · clear h; exact ⟨hP.1, hP.2.2.1, hS, hb1, hb2, by rw [hn]; decide⟩  -- p44
  intro x78 hx78
  have m0 := mS_new hP q77
  have g5 : rd σ_76 5 (σ_76.1 10) = 1 := by rw [rd, (mS_rows m0.1).1, m0.2.2.1]; exact hn
  refine go_c hC B T ?_ (fun σ_79 q80 => ?_)
  · clear h; exact ⟨m0.1.2.1.1, fun _ => by rw [g5]; decide⟩  -- p45
  have b1 := mS_go m0.1 q80
  have g : σ_79.1 11 = 0 → σ_79.1 10 = σ.1 10 + 1 ∧ σ_79.1 13 = σ.1 13 ∧ rd σ_79 30 r75 = 2 := fun f => by
    obtain ⟨f0, l0, e0, o0⟩ := b1.2.2 f
    exact ⟨by rw [e0, m0.2.2.1], by rw [o0, m0.2.2.2.1], by rw [rd, b1.2.1]; exact m0.2.1 f0⟩
  have gx : x78 = σ.1 10 := by rw [hx78, m0.2.2.1]
  have ga : ∀ v c, (v ≠ 0 ↔ rd σ_79 5 (σ_79.1 10) = 3 ∧ rd σ_79 7 (σ_79.1 10) = c) → σ_79.1 11 = 0 → (v ≠ (0 : Int32) ↔ sg (σ.2.2.1 5) (σ.2.2.1 7) (σ.1 10 + 1) c) := fun v c hv f => by
    rw [hv, rd, rd, (mS_rows b1.1).1, (mS_rows b1.1).2.1, (g f).1]; rfl
  refine isRight_c hC  (fun r81 q83 => ?_)
  refine ⟨fun c84 => ?_, fun c84 => ?_⟩
  · skip
    refine isAt_c hC  ?_ (fun r85 q87 => ?_)
    · clear h; exact (mS_rows b1.1).2.2.2  -- p46
    refine ⟨fun c88 => ?_, fun c88 => ?_⟩
    · skip
      refine isAt_c hC  ?_ (fun r89 q91 => ?_)
      · clear h; exact (mS_rows b1.1).2.2.2  -- p47
      refine ⟨fun c92 => ?_, fun c92 => ?_⟩
      · skip
        refine hj90 _ _ _ _ ?_
        · clear h; have f := q83.2.mp c84
          exact ⟨b1.1, gx, f, (g f).1, (g f).2.1, (g f).2.2, fun z => (ga r85 40 q87.2 f).mpr z c88⟩
      · skip
        refine isAt_c hC  ?_ (fun r93 q95 => ?_)
        · clear h; exact (mS_rows b1.1).2.2.2  -- p49
        refine ⟨fun c96 => ?_, fun c96 => ?_⟩
        · skip
          refine hj90 _ _ _ _ ?_
          · clear h; have f := q83.2.mp c84
            exact ⟨b1.1, gx, f, (g f).1, (g f).2.1, (g f).2.2, fun z => (ga r85 40 q87.2 f).mpr z c88⟩
        · skip
          refine isAt_c hC  ?_ (fun r97 q99 => ?_)
          · clear h; exact (mS_rows b1.1).2.2.2  -- p51
          refine ⟨fun c100 => ?_, fun c100 => ?_⟩
          · skip
            refine hj90 _ _ _ _ ?_
            · clear h; have f := q83.2.mp c84
              exact ⟨b1.1, gx, f, (g f).1, (g f).2.1, (g f).2.2, fun z => (ga r85 40 q87.2 f).mpr z c88⟩
          · skip
            refine flaw_c hC  ?_ (fun σ_101 q102 => ?_)
            · clear h; exact ⟨(mS_rows b1.1).2.2.2.1, (mS_rows b1.1).2.2.2.2, by decide⟩  -- p53
            refine h _ ?_
            · clear h; have b := mS_flaw b1.1 q102
              exact ⟨r75, b.1, fun f => absurd f b.2⟩
    · skip
      refine ⟨ib_150.mpr ?_, ?_⟩
      · clear h; exact ⟨b1.1.2.2.2.2.1, b1.1.2.2.2.2.2.1⟩  -- b55
      intro σ_103 hσ_103
      refine ⟨ib_150.mpr ?_, ?_⟩
      · clear h; exact ⟨b1.1.2.2.2.2.1, b1.1.2.2.2.2.2.1⟩  -- b56
      intro σ_104 hσ_104
      have f := q83.2.mp c84
      have m2 : mSR9 σ σ_103 r75 B T := by rw [hσ_103]; exact mS_ri b1.1 (Or.inl rfl)
      have m3 : mSR9 σ σ_104 r75 B T := by rw [hσ_104]; exact mS_ri m2 (Or.inr rfl)
      have e104 : ∀ k, σ_104.1 k = σ_79.1 k := fun k => by rw [hσ_104, ri1, hσ_103, ri1]
      have v30 : rd σ_104 30 r75 = 5 := by rw [rd, hσ_104, ri3 (by decide), hσ_103, ri4, if_pos rfl]
      have v32 : rd σ_104 32 r75 = σ.1 10 := by rw [rd, hσ_104, ri4, if_pos rfl]; exact gx
      refine arguments_c hC B T ?_ (fun σ_105 q106 => ?_)
      · clear h; exact ⟨m3.2.1, fun _ => by rw [e104, (g f).2.1]; exact ⟨ho1, ho2⟩⟩  -- p57
      refine h _ ?_
      · clear h; have m4 := mS_aI m3 q106.1 (fun f => Int32.le_of_lt (q106.2 f).2.1)
        refine ⟨r75, m4, fun f' => ?_⟩
        obtain ⟨f1, l1, o1, s40, n, hg⟩ := q106.2 f'
        have rB := mS_rows m3
        rw [rB.1, rB.2.1, e104, (g f).1] at s40
        rw [rB.1, rB.2.1, e104, (g f).1, up_2] at hg
        have k30 : rd σ_105 30 r75 = 5 := by rw [rd, q106.1.1.2.2.1 30 (by decide) (by decide) (by decide) (by decide)]; exact v30
        have k32 : rd σ_105 32 r75 = σ.1 10 := by rw [rd, q106.1.1.2.2.1 32 (by decide) (by decide) (by decide) (by decide)]; exact v32
        have lt1 : σ.1 10 < σ_105.1 10 := Int32.lt_trans (at_up hP.1 m3.2.1.1.2.2.2.2.2 (by rw [e104]; exact (g f).1)) l1
        rw [k30, k32]
        exact ⟨lt1, by rw [o1, e104]; exact (g f).2.1, Or.inr (Or.inr (Or.inr (Or.inr (Or.inl ⟨rfl, ⟨hP.1.2.2.2.2.1, lt1, hn, s40, n, hg⟩, fun z => absurd rfl z⟩))))⟩
  · skip
    refine h _ ?_
    · clear h; exact ⟨r75, b1.1, fun f => absurd c84 (q83.2.mpr f)⟩  -- q59

end
section
set_option maxHeartbeats 1600000
/-! the reference: a statement, what stays and what it adds -/
/-- between a statement's beginning and its end, with what may change in names and blocks -/
def sU (σ τ : rS) (B T : Int32) : Prop :=
  ((∀ k, k ≠ 10 → k ≠ 11 → k ≠ 12 → k ≠ 13 → k ≠ 19 → k ≠ 42 → k ≠ 48 → k ≠ 49 → τ.1 k = σ.1 k) ∧ (∀ k,  τ.2.1 k = σ.2.1 k) ∧ (∀ k, k ≠ 27 → k ≠ 28 → k ≠ 29 → k ≠ 30 → k ≠ 31 → k ≠ 32 → k ≠ 33 → k ≠ 34 → k ≠ 35 → k ≠ 36 → k ≠ 38 → k ≠ 39 → k ≠ 43 → k ≠ 44 → k ≠ 45 → k ≠ 50 → k ≠ 51 → k ≠ 52 → τ.2.2.1 k = σ.2.2.1 k) ∧ (∀ k j, k ≠ 27 → k ≠ 28 → k ≠ 29 → k ≠ 30 → k ≠ 31 → k ≠ 32 → k ≠ 33 → k ≠ 34 → k ≠ 35 → k ≠ 36 → k ≠ 38 → k ≠ 39 → k ≠ 43 → k ≠ 44 → k ≠ 45 → k ≠ 50 → k ≠ 51 → k ≠ 52 → τ.2.2.1 k j = σ.2.2.1 k j) ∧ (∀ k j,  τ.2.2.2 k j = σ.2.2.2 k j)) ∧ p0 τ B T ∧ tS τ ∧ rHi (σ.2.2.1 39) (τ.2.2.1 39) T ∧ rLo (σ.2.2.1 39) (τ.2.2.1 39) B ∧ (σ.1 11 ≠ 0 → τ.1 11 ≠ 0) ∧
  (τ.1 11 = 0 → σ.1 11 = 0 ∧ σ.1 10 < τ.1 10 ∧ rLo (σ.2.2.1 39) (τ.2.2.1 39) (σ.1 10))
/-- one statement more -/
def sN (σ τ : rS) (B : Int32) : Prop := τ.1 19 = σ.1 19 + 1 ∧ rd τ 36 (σ.1 19) = rd σ 43 (σ.1 42 - 1) ∧ (∀ j, j ≠ (σ.1 19).toNatClampNeg → τ.2.2.1 30 j = σ.2.2.1 30 j ∧ τ.2.2.1 31 j = σ.2.2.1 31 j ∧ τ.2.2.1 32 j = σ.2.2.1 32 j ∧ τ.2.2.1 36 j = σ.2.2.1 36 j) ∧ stK (σ.2.2.1 5) (σ.2.2.1 7) (τ.2.2.1 39) B (τ.1 10) (rd τ 30 (σ.1 19)) (rd τ 31 (σ.1 19)) (rd τ 32 (σ.1 19)) ∧ lkN σ τ
theorem sT_U {σ τ : rS} {B T : Int32} (h : sT σ τ B T) : sU σ τ B T ∧ (τ.1 11 = 0 → τ.1 13 = σ.1 13 ∧ τ.1 42 = σ.1 42 ∧ τ.2.2.1 43 = σ.2.2.1 43 ∧ sN σ τ B) := by
  obtain ⟨s, ⟨h1, h2, h3, h4, h5, h6, h7, h8⟩, h9⟩ := h
  refine ⟨⟨by clear h2 h3 h4 h7 h8 h9; grind, h2, h3, h4.1, h4.2, h7, fun f => ⟨Decidable.byContradiction (fun z => h7 z f), (h9 f).1, (h8 f).2.1.2⟩⟩, fun f => ?_⟩
  obtain ⟨m1, m2, m3, m4, m5, m6⟩ := h8 f
  obtain ⟨n1, n2, n3⟩ := h9 f
  subst m1
  exact ⟨n2, h1.1 42 (by decide) (by decide) (by decide) (by decide) (by decide) (by decide) (by decide), h1.2.2.1 43 (by decide) (by decide) (by decide) (by decide) (by decide) (by decide) (by decide) (by decide) (by decide) (by decide) (by decide) (by decide) (by decide) (by decide), m3, m4, m6.1, by rw [m5]; exact n3, m6.2⟩
theorem fn_b {σ : rS} {B T : Int32} (h : p0 σ B T) : 0 ≤ σ.1 41 ∧ σ.1 41 < 10 := by
  have := h.2.2.1
  clear h
  grind [tyF]
theorem vr_b {σ : rS} {B T : Int32} (h : p0 σ B T) (k : Nat) : 0 ≤ σ.2.2.1 27 k ∧ σ.2.2.1 27 k < 9 := h.2.2.2.1.2.2.2.2.2 k
theorem ix_b {f x : Int32} (h0 : 0 ≤ f) (h1 : f < 10) (h2 : 0 ≤ x) (h3 : x < 8) : 0 ≤ 8 * f + x ∧ 8 * f + x < 80 := by grind
theorem v100 {x : Int32} (h0 : 0 ≤ x) (h1 : x < 8) : 100 ≤ 100 + x ∧ 100 + x < 108 := by grind
theorem up9 {x : Int32} (h0 : 0 ≤ x) (h1 : x < 8) : 0 ≤ x + 1 ∧ x + 1 < 9 := by grind
theorem upd_ne {r : Nat → Int32} {i j : Nat} {x : Int32} (h : j ≠ i) : upd r i x j = r j := by unfold upd; rw [if_neg h]
theorem upd_eq {r : Nat → Int32} {i : Nat} {x : Int32} : upd r i x i = x := by unfold upd; rw [if_pos rfl]
theorem tellLocal_c {C : rCx} (hC : cOK C) (B T : Int32) {σ : rS}  {Q : rS → Prop} (hp : p0 σ B T ∧ tS σ ∧ 1 ≤ σ.1 42 ∧ σ.1 42 ≤ 64 ∧ 0 ≤ σ.1 13 ∧ σ.1 13 ≤ 40 ∧ rd σ 5 (σ.1 10) ≠ 5) (h : ∀ (σ' : rS), (sU σ σ' B T ∧ (σ'.1 11 = 0 → σ'.1 13 = σ.1 13 ∧ σ'.1 42 = σ.1 42 ∧ σ'.2.2.1 43 = σ.2.2.1 43 ∧ sN σ σ' B)) → Q σ') : cV C 7 m_tellLocal [.ref (co C)] σ Q := by
  refine m_tellLocal_run hC ?_
  unfold w_tellLocal_0
  obtain ⟨hP, hS, hb1, hb2, ho1, ho2, hn⟩ := hp
  have hA := aI_at (aI_refl hP)
  refine newStatement_c hC B T ?_ (fun r1 σ_2 q3 => ?_)
  · clear h; exact ⟨hP.1, hP.2.2.1, hS, hb1, hb2, hn⟩  -- p1
  have m0 := mS_new hP q3
  refine go_c hC B T ?_ (fun σ_4 q5 => ?_)
  · clear h; exact ⟨m0.1.2.1.1, fun _ => by rw [rd, (mS_rows m0.1).1, m0.2.2.1]; exact hn⟩  -- p2
  have b1 := mS_go m0.1 q5
  refine ⟨ib_10.mpr ?_, ?_⟩
  · clear h; exact fn_b b1.1.2.1  -- b3
  refine fresh_c hC B T ?_ (fun r6 σ_7 q8 => ?_)
  · clear h; exact ⟨b1.1.2.1.1, b1.1.2.1.2.2.1, b1.1.2.1.2.2.2.1⟩  -- p4
  refine sign_c hC B T ?_ (fun σ_9 q10 => ?_)
  · clear h; exact q8.2.1  -- p5
  have b2 : mSR9 σ σ_7 r1 B T := mS_aI b1.1 (aI_fr (aI_refl b1.1.2.1) q8.2.1 ⟨fun k z1 z2 z3 _ => q8.1.1 k z1 z2 z3, q8.1.2⟩ (fun z e => z (q8.2.2.2.2 e).1)) (fun f => Int32.le_of_lt (at_up b1.1.2.1.1 q8.2.1.2.2.2.2.2 (q8.2.2.2.2 f).2.2.2.1))
  have b3 := mS_sign b2 q10
  refine ⟨ib_150.mpr ?_, ?_⟩
  · clear h; exact ⟨b2.2.2.2.2.1, b2.2.2.2.2.2.1⟩  -- b6
  intro σ_11 hσ_11
  have m' : mSR9 σ σ_11 r1 B T := by rw [hσ_11]; exact mS_ri b3.1 (Or.inr rfl)
  have e11 : ∀ k, σ_11.1 k = σ_9.1 k := fun k => by rw [hσ_11, ri1]
  have r11 : ∀ k, k ≠ 32 → σ_11.2.2.1 k = σ_9.2.2.1 k := fun k hk => by rw [hσ_11, ri3 hk]
  have v32 : rd σ_11 32 r1 = σ_11.1 10 := by rw [rd, e11, hσ_11, ri4, if_pos rfl]
  have gf : σ_11.1 11 = 0 → σ_4.1 10 = σ.1 10 + 1 ∧ σ.1 10 < σ_4.1 10 ∧ σ_4.1 10 < σ_11.1 10 ∧ σ_11.1 13 = σ.1 13 ∧ sg (σ.2.2.1 5) (σ.2.2.1 7) (σ.1 10 + 2) 61 ∧ rd σ_4 27 (σ_4.1 41) < 8 ∧ rd σ_2 30 r1 = 1 := fun f => by
    rw [e11] at f
    obtain ⟨f7, l7, e7, o7, s7⟩ := b3.2.2 f
    obtain ⟨f4, s4, lt4, e4, -⟩ := q8.2.2.2.2 f7
    obtain ⟨f2, l2, e2, o2⟩ := b1.2.2 f4
    have l4 := at_up b1.1.2.1.1 q8.2.1.2.2.2.2.2 e4
    rw [m0.2.2.1] at e2 l2
    rw [e4, e2, up_2] at s7
    exact ⟨e2, l2, by rw [e11]; exact Int32.lt_trans l4 l7, by rw [e11, o7, q8.1.1 13 (by decide) (by decide) (by decide), o2, m0.2.2.2.1], s7, lt4, m0.2.1 f2⟩
  refine expr0_c hC B T ?_ (fun r12 σ_13 q14 => ?_)
  · clear h; exact ⟨m'.2.1, fun f => by rw [(gf f).2.2.2.1]; exact ⟨ho1, ho2⟩⟩  -- p7
  refine sign_c hC B T ?_ (fun σ_15 q16 => ?_)
  · clear h; exact q14.2.1.1  -- p8
  have b4 := mS_expr m' q14
  have b5 := mS_sign b4.1 q16
  refine isRight_c hC  (fun r17 q19 => ?_)
  refine ⟨fun c20 => ?_, fun c20 => ?_⟩
  · skip
    refine h _ ?_
    · clear h; exact sT_U ⟨r1, b5.1, fun f => absurd c20 (q19.2.mpr f)⟩  -- q9
  · skip
    have f15 : σ_15.1 11 = 0 := q19.2.mp c20
    obtain ⟨f13, l13, e13, o13, -⟩ := b5.2.2 f15
    obtain ⟨fE, lE, oE, zE⟩ := b4.2.2.2.2 f13
    obtain ⟨g1, g2, g3, g4, g5, g6, g7⟩ := gf fE
    have r27 : σ_15.2.2.1 27 = σ_4.2.2.1 27 := by rw [b5.2.1, q14.1.2.2.1 27 (by decide) (by decide) (by decide) (by decide), r11 27 (by decide), b3.2.1, q8.1.2]
    have e41 : σ_15.1 41 = σ_4.1 41 := by rw [q16.1.1 41 (by decide) (by decide) (by decide), q14.1.1 41 (by decide) (by decide) (by decide) (by decide) (by decide) (by decide), e11, q10.1.1 41 (by decide) (by decide) (by decide), q8.1.1 41 (by decide) (by decide) (by decide)]
    have hv8 : rd σ_15 27 (σ_15.1 41) < 8 := by rw [rd, r27, e41]; exact g6
    have hv0 : 0 ≤ rd σ_15 27 (σ_15.1 41) := (vr_b b5.1.2.1 _).1
    have hfn := fn_b b5.1.2.1
    have h6 : 0 ≤ r6 ∧ r6 < 131074 := by rw [q8.2.2.1]; exact (mS_rows b1.1).2.2.2
    refine ⟨ib_10.mpr ?_, ?_⟩
    · clear h; exact hfn  -- b10
    refine ⟨ib_131074.mpr ?_, ?_⟩
    · clear h; exact h6  -- b11
    intro σ_21 hσ_21
    refine ⟨ib_10.mpr ?_, ?_⟩
    · clear h; rw [hσ_21, ri1]; exact hfn  -- b12
    refine ⟨ib_80.mpr ?_, ?_⟩
    · clear h; rw [hσ_21, ri1, ri3 (by decide)]; exact ix_b hfn.1 hfn.2 hv0 hv8  -- b13
    intro σ_22 hσ_22
    refine ⟨ib_10.mpr ?_, ?_⟩
    · clear h; rw [hσ_22, ri1, hσ_21, ri1]; exact hfn  -- b14
    refine ⟨ib_10.mpr ?_, ?_⟩
    · clear h; rw [hσ_22, ri1, hσ_21, ri1]; exact hfn  -- b15
    intro σ_23 hσ_23
    refine h _ ?_
    · clear h; have ff : ∀ k, σ_23.1 k = σ_15.1 k := fun k => by rw [hσ_23, ri1, hσ_22, ri1, hσ_21, ri1]
      have rr : ∀ k, k ≠ 27 → k ≠ 28 → k ≠ 39 → σ_23.2.2.1 k = σ_15.2.2.1 k := fun k z1 z2 z3 => by rw [hσ_23, ri3 z1, hσ_22, ri3 z2, hσ_21, ri3 z3]
      have R39 : σ_23.2.2.1 39 = upd (σ_15.2.2.1 39) r6.toNatClampNeg (100 + rd σ_15 27 (σ_15.1 41)) := by rw [hσ_23, ri3 (by decide), hσ_22, ri3 (by decide), hσ_21, ri_row]
      have R28 : ∃ i, σ_23.2.2.1 28 = upd (σ_15.2.2.1 28) i r6 := ⟨_, by rw [hσ_23, ri3 (by decide), hσ_22, ri_row, hσ_21, ri3 (by decide)]⟩
      have R27 : ∃ i, σ_23.2.2.1 27 = upd (σ_15.2.2.1 27) i (rd σ_15 27 (σ_15.1 41) + 1) := ⟨_, by rw [hσ_23, ri_row, hσ_22, ri3 (by decide), ri1, hσ_21, ri3 (by decide), ri1]⟩
      have lg1 : ∀ k j, σ_23.2.2.2 k j = σ_15.2.2.2 k j := fun k j => by rw [hσ_23, ri5, hσ_22, ri5, hσ_21, ri5]
      have lg2 : ∀ k, σ_23.2.1 k = σ_15.2.1 k := fun k => by rw [hσ_23, ri2, hσ_22, ri2, hσ_21, ri2]
      have e6 : r6 = σ.1 10 + 1 := q8.2.2.1.trans g1
      have l6 : σ.1 10 < r6 := by rw [q8.2.2.1]; exact g2
      have l6x : r6 < σ_11.1 10 := by rw [q8.2.2.1]; exact g3
      have lxP : σ_11.1 10 < σ_15.1 10 := Int32.lt_of_le_of_lt lE l13
      have lbP : σ.1 10 < σ_15.1 10 := Int32.lt_trans l6 (Int32.lt_trans l6x lxP)
      have h6T : r6 ≤ T := Int32.le_of_lt (Int32.lt_of_lt_of_le (Int32.lt_trans l6x lxP) b5.1.2.1.1.2.2.2.2.2)
      have hB := hP.1.2.2.2.2.1
      have lo : ∀ a, a ≤ r6 → rLo (σ_15.2.2.1 39) (σ_23.2.2.1 39) a := fun a ha t ht ht2 => by rw [R39]; exact upd_ne (cn_ne ht (Int32.lt_of_lt_of_le ht2 ha))
      have hi : rHi (σ_15.2.2.1 39) (σ_23.2.2.1 39) T := fun t ht => by rw [R39]; exact upd_ne (cn_ne h6.1 (Int32.lt_of_le_of_lt h6T ht)).symm
      obtain ⟨w1, w2, w3, w4, w5, w6, w7, w8⟩ := b5.1
      obtain ⟨m1, m2, m3, m4, m5, m6⟩ := w8 f15
      have pP : p0 σ_23 B T := by
        obtain ⟨t1, t2, t3, t4, t5, t6, t7⟩ := w2
        refine ⟨?_, t2, ?_, ?_, ?_, by rw [ff]; exact t6, by rw [ff]; exact t7⟩
        · obtain ⟨u1, u2, u3, u4, u5, u6⟩ := t1
          exact ⟨u1, u2, u3, ⟨by rw [rd, rr 5 (by decide) (by decide) (by decide)]; exact u4.1, by rw [ff]; exact u4.2.1, by rw [ff]; exact u4.2.2⟩, by rw [ff]; exact u5, by rw [ff]; exact u6⟩
        · show tyF _ _ _ _ _ _ _ _
          simp only [ff]; exact t3
        · show tyN _ _ _ _ _ _
          obtain ⟨i1, z1⟩ := R28
          obtain ⟨i2, z2⟩ := R27
          rw [rr 20 (by decide) (by decide) (by decide), rr 22 (by decide) (by decide) (by decide), rr 25 (by decide) (by decide) (by decide), rr 26 (by decide) (by decide) (by decide), z1, z2]
          obtain ⟨u1, u2, u3, u4, u5, u6⟩ := t4
          exact ⟨u1, u2, u3, eB_upd u4 h6.1 h6.2, u5, eB_upd u6 (up9 hv0 hv8).1 (up9 hv0 hv8).2⟩
        · show tyA _ _
          rw [rr 23 (by decide) (by decide) (by decide), rr 24 (by decide) (by decide) (by decide)]; exact t5
      refine ⟨⟨?_, pP, ?_, rHi_tr w4.1 hi, rLo_tr w4.2 (lo B (Int32.le_trans hB (Int32.le_of_lt l6))) (Int32.le_refl _), fun z => by rw [ff]; exact w7 z, fun _ => ⟨Decidable.byContradiction (fun z => w7 z f15), by rw [ff]; exact lbP, rLo_tr m2.2 (lo _ (Int32.le_of_lt l6)) (Int32.le_refl _)⟩⟩, fun _ => ⟨by rw [ff, o13, oE, g4], by rw [ff]; exact w1.1 42 (by decide) (by decide) (by decide) (by decide) (by decide) (by decide) (by decide), ?_, by rw [ff]; exact m3, ?_, fun j hj => ?_, ?_, lkN_o m6.2 (rr 29 (by decide) (by decide) (by decide)) (rr 33 (by decide) (by decide) (by decide)) (rr 34 (by decide) (by decide) (by decide)) (rr 35 (by decide) (by decide) (by decide)) (ff 19)⟩⟩
      · refine ⟨fun k z1 z2 z3 z4 z5 z6 z7 z8 => by rw [ff]; exact w1.1 k z1 z2 z3 z4 z5 z7 z8, fun k => by rw [lg2]; exact w1.2.1 k, ?_, ?_, fun k j => by rw [lg1]; exact w1.2.2.2.2 k j⟩
        · intro k z1 z2 z3 z4 z5 z6 z7 z8 z9 za zb zc zd ze zf zg zh zi
          rw [rr k z1 z2 zc]; exact w1.2.2.1 k z3 z4 z5 z6 z7 z8 z9 za zb zc ze zg zh zi
        · intro k j z1 z2 z3 z4 z5 z6 z7 z8 z9 za zb zc zd ze zf zg zh zi
          rw [rr k z1 z2 zc]; exact w1.2.2.2.1 k j z3 z4 z5 z6 z7 z8 z9 za zb zc ze zg zh zi
      · show tyS _ _ _ _ _ _ _ _
        rw [rr 29 (by decide) (by decide) (by decide), rr 33 (by decide) (by decide) (by decide), rr 34 (by decide) (by decide) (by decide), rr 35 (by decide) (by decide) (by decide), rr 36 (by decide) (by decide) (by decide), rr 38 (by decide) (by decide) (by decide), rr 43 (by decide) (by decide) (by decide), rr 44 (by decide) (by decide) (by decide)]
        exact w3
      · rw [rr 43 (by decide) (by decide) (by decide)]; exact w1.2.2.1 43 (by decide) (by decide) (by decide) (by decide) (by decide) (by decide) (by decide) (by decide) (by decide) (by decide) (by decide) (by decide) (by decide) (by decide)
      · rw [← m1, rd, rr 36 (by decide) (by decide) (by decide)]; exact m4
      · rw [← m1] at hj
        rw [rr 30 (by decide) (by decide) (by decide), rr 31 (by decide) (by decide) (by decide), rr 32 (by decide) (by decide) (by decide), rr 36 (by decide) (by decide) (by decide)]
        exact m6.1 j hj
      · have k30 : rd σ_23 30 (σ.1 19) = 1 := by
          rw [← m1, rd, rr 30 (by decide) (by decide) (by decide), b5.2.1]
          refine b4.2.2.1.trans ?_
          rw [rd, r11 30 (by decide), b3.2.1, q8.1.2, b1.2.1]; exact g7
        have k31 : rd σ_23 31 (σ.1 19) = σ.1 10 := by rw [← m1, rd, rr 31 (by decide) (by decide) (by decide)]; exact m5
        have k32 : rd σ_23 32 (σ.1 19) = σ_11.1 10 := by
          rw [← m1, rd, rr 32 (by decide) (by decide) (by decide), b5.2.1]
          exact b4.2.2.2.1.trans v32
        rw [k30, k31, k32, ff]
        refine Or.inl ⟨rfl, hB, by rw [← e6]; exact l6, by rw [← e6]; exact Int32.lt_trans l6x lxP, fun z => absurd (g5.2.symm.trans z.2) (by decide), ?_, m'.2.1.1.2.2.2.2.1, σ_13.1 10, ?_, lE, l13⟩
        · rw [← e6, R39, upd_eq]
          exact Or.inr (v100 hv0 hv8)
        · refine ePa_R zE (fun t ht ht2 _ => ?_)
          rw [R39, upd_ne (cn_ne h6.1 (Int32.lt_of_lt_of_le l6x ht)).symm, b5.2.1]

end
section
set_option maxHeartbeats 1600000
/-! the reference: a statement; the end of a block -/
theorem mS_U {σ τ : rS} {s B T : Int32} (h : mSR9 σ τ s B T) (h9 : τ.1 11 = 0 → σ.1 10 < τ.1 10 ∧ stK (σ.2.2.1 5) (σ.2.2.1 7) (τ.2.2.1 39) B (τ.1 10) (rd τ 30 s) (σ.1 10) (rd τ 32 s)) : sU σ τ B T ∧ (τ.1 11 = 0 → τ.1 42 = σ.1 42 ∧ τ.2.2.1 43 = σ.2.2.1 43 ∧ s = σ.1 19 ∧ sN σ τ B) := by
  obtain ⟨h1, h2, h3, h4, h5, h6, h7, h8⟩ := h
  refine ⟨⟨by clear h2 h3 h4 h7 h8 h9; grind, h2, h3, h4.1, h4.2, h7, fun f => ⟨Decidable.byContradiction (fun z => h7 z f), (h9 f).1, (h8 f).2.1.2⟩⟩, fun f => ?_⟩
  obtain ⟨m1, m2, m3, m4, m5, m6⟩ := h8 f
  obtain ⟨n1, n3⟩ := h9 f
  subst m1
  exact ⟨h1.1 42 (by decide) (by decide) (by decide) (by decide) (by decide) (by decide) (by decide), h1.2.2.1 43 (by decide) (by decide) (by decide) (by decide) (by decide) (by decide) (by decide) (by decide) (by decide) (by decide) (by decide) (by decide) (by decide) (by decide), rfl, m3, m4, m6.1, by rw [m5]; exact n3, m6.2⟩
/-- a block was opened -/
abbrev obQ (τ υ : rS) (a : Int32) : Prop := ((∀ k, k ≠ 42 → υ.1 k = τ.1 k) ∧ (∀ k,  υ.2.1 k = τ.2.1 k) ∧ (∀ k, k ≠ 43 → k ≠ 44 → k ≠ 45 → υ.2.2.1 k = τ.2.2.1 k) ∧ (∀ k j, k ≠ 43 → k ≠ 44 → k ≠ 45 → υ.2.2.1 k j = τ.2.2.1 k j) ∧ (∀ k j,  υ.2.2.2 k j = τ.2.2.2 k j)) ∧ tS υ ∧ υ.1 42 = τ.1 42 + 1 ∧ rd υ 43 (τ.1 42) = a ∧ (∀ i : Int32, 0 ≤ i → i < τ.1 42 → rd υ 43 i = rd τ 43 i)
theorem p0_ob {τ υ : rS} {B T a : Int32} (h : p0 τ B T) (q : obQ τ υ a) (hb : 0 ≤ τ.1 42) (hb2 : τ.1 42 < 64) : p0 υ B T := by
  obtain ⟨q1, q2, q3, q4, q5⟩ := q
  have e10 : υ.1 10 = τ.1 10 := q1.1 10 (by decide)
  refine p0_gen h ?_ ?_ (fun z hz => q1.2.2.1 z (by omega) (by omega) (by omega)) (q1.1 46 (by decide)) (q1.1 47 (by decide))
  · obtain ⟨t1, t2, t3, t4, t5, t6⟩ := h.1
    rw [← e10] at t5 t6
    exact ⟨t1, t2, t3, ⟨by rw [rd, q1.2.2.1 5 (by decide) (by decide) (by decide)]; exact t4.1, by rw [q1.1 11 (by decide)]; exact t4.2.1, by rw [q1.1 47 (by decide)]; exact t4.2.2⟩, t5, t6⟩
  · have t := h.2.2.1
    show tyF _ _ _ _ _ _ _ _
    rw [q1.1 15 (by decide), q1.1 16 (by decide), q1.1 17 (by decide), q1.1 18 (by decide), q1.1 19 (by decide), q1.1 40 (by decide), q1.1 41 (by decide), q3]
    clear h q1 q2 q4 q5
    grind [tyF]
theorem sU_ob {σ τ υ : rS} {B T a : Int32} (h : sU σ τ B T) (q : obQ τ υ a) (hb : 0 ≤ τ.1 42) (hb2 : τ.1 42 < 64) : sU σ υ B T := by
  have hp := p0_ob h.2.1 q hb hb2
  obtain ⟨h1, h2, h3, h4, h5, h6, h7⟩ := h
  obtain ⟨q1, q2, q3, q4, q5⟩ := q
  have e10 : υ.1 10 = τ.1 10 := q1.1 10 (by decide)
  have e11 : υ.1 11 = τ.1 11 := q1.1 11 (by decide)
  have e39 : υ.2.2.1 39 = τ.2.2.1 39 := q1.2.2.1 39 (by decide) (by decide) (by decide)
  refine ⟨?_, hp, q2, by rw [e39]; exact h4, by rw [e39]; exact h5, fun z => by rw [e11]; exact h6 z, fun f => by rw [e11] at f; rw [e10, e39]; exact h7 f⟩
  refine ⟨fun k z1 z2 z3 z4 z5 z6 z7 z8 => (q1.1 k z6).trans (h1.1 k z1 z2 z3 z4 z5 z6 z7 z8), fun k => (q1.2.1 k).trans (h1.2.1 k), ?_, ?_, fun k j => (q1.2.2.2.2 k j).trans (h1.2.2.2.2 k j)⟩
  · intro k z1 z2 z3 z4 z5 z6 z7 z8 z9 za zb zc zd ze zf zg zh zi
    exact (q1.2.2.1 k zd ze zf).trans (h1.2.2.1 k z1 z2 z3 z4 z5 z6 z7 z8 z9 za zb zc zd ze zf zg zh zi)
  · intro k j z1 z2 z3 z4 z5 z6 z7 z8 z9 za zb zc zd ze zf zg zh zi
    exact (q1.2.2.2.1 k j zd ze zf).trans (h1.2.2.2.1 k j z1 z2 z3 z4 z5 z6 z7 z8 z9 za zb zc zd ze zf zg zh zi)
theorem sN_ob {σ τ υ : rS} {B a : Int32} (h : sN σ τ B) (q : obQ τ υ a) : sN σ υ B := by
  obtain ⟨h1, h2, h3, h4, h5⟩ := h
  obtain ⟨q1, q2, q3, q4, q5⟩ := q
  have rr := q1.2.2.1
  refine ⟨by rw [q1.1 19 (by decide)]; exact h1, by rw [rd, rr 36 (by decide) (by decide) (by decide)]; exact h2, ?_, ?_, lkN_o h5 (rr 29 (by decide) (by decide) (by decide)) (rr 33 (by decide) (by decide) (by decide)) (rr 34 (by decide) (by decide) (by decide)) (rr 35 (by decide) (by decide) (by decide)) (q1.1 19 (by decide))⟩
  · rw [rr 30 (by decide) (by decide) (by decide), rr 31 (by decide) (by decide) (by decide), rr 32 (by decide) (by decide) (by decide), rr 36 (by decide) (by decide) (by decide)]
    exact h3
  · simp only [rd]
    rw [rr 30 (by decide) (by decide) (by decide), rr 31 (by decide) (by decide) (by decide), rr 32 (by decide) (by decide) (by decide), rr 39 (by decide) (by decide) (by decide), q1.1 10 (by decide)]
    exact h4
theorem p0_b42 {σ : rS} {B T x : Int32} (h : p0 σ B T) (h0 : 0 ≤ x) (h1 : x ≤ 64) : p0 (siU σ 42 x) B T := by
  obtain ⟨t1, t2, t3, t4, t5, t6, t7⟩ := h
  refine ⟨t1, t2, ?_, t4, t5, t6, t7⟩
  show tyF (σ.1 15) (σ.1 16) (σ.1 17) (σ.1 18) (σ.1 19) (σ.1 40) (σ.1 41) x
  clear t1 t2 t4 t5 t6 t7
  grind [tyF]
theorem bl_b {x : Int32} (h1 : 2 ≤ x) (h2 : x ≤ 40) : 0 ≤ x - 1 ∧ x - 1 < 64 ∧ x - 1 ≤ 64 ∧ 1 ≤ x - 1 ∧ x - 1 ≤ x ∧ x - 1 + 1 = x ∧ 1 ≤ x := by grind
theorem bl_i {i x : Int32} (h0 : 0 ≤ i) (h1 : i < x) : i = x - 1 ∨ i < x - 1 := by grind
theorem ob_b {x : Int32} (h1 : 1 ≤ x) (h2 : x ≤ 40) : 0 ≤ x ∧ x < 64 ∧ x ≤ 64 ∧ 0 ≤ x - 1 ∧ x - 1 < 64 := by grind
theorem tellStatement_c {C : rCx} (hC : cOK C) (B T : Int32) {σ : rS}  {Q : rS → Prop} (hp : p0 σ B T ∧ tS σ ∧ σ.1 11 = 0 ∧ 1 ≤ σ.1 42 ∧ σ.1 42 ≤ 40 ∧ σ.1 13 = σ.1 42) (h : ∀ (σ' : rS), (sU σ σ' B T ∧ (σ'.1 11 = 0 → sN σ σ' B ∧ σ'.1 13 = σ'.1 42 ∧ ((σ'.1 42 = σ.1 42 ∧ σ'.2.2.1 43 = σ.2.2.1 43) ∨ (σ'.1 42 = σ.1 42 + 1 ∧ σ.1 42 ≠ 40 ∧ rd σ' 43 (σ.1 42) = σ.1 19 ∧ ∀ i : Int32, 0 ≤ i → i < σ.1 42 → rd σ' 43 i = rd σ 43 i)))) → Q σ') : cV C 9 m_tellStatement [.ref (co C)] σ Q := by
  refine m_tellStatement_run hC ?_
  unfold w_tellStatement_0
  obtain ⟨hP, hS, h11, hb1, hb2, ho⟩ := hp
  have hA := aI_at (aI_refl hP)
  have hbb := ob_b hb1 hb2
  have o0 : 0 ≤ σ.1 13 ∧ σ.1 13 ≤ 40 := by rw [ho]; exact ⟨hbb.1, hb2⟩
  have hj164 : ∀ (s1 : Int32) (τ : rS), (σ = τ ∧ (s1 = 8 ∨ s1 = 9 ∨ s1 = 10) ∧ rd σ 5 (σ.1 10) = 6) → w_tellStatement_164 C Q  s1 τ := by
    rintro y164_s1 _ ⟨rfl, j164⟩
    unfold w_tellStatement_164
    refine newStatement_c hC B T ?_ (fun r1 σ_2 q3 => ?_)
    · clear h; exact ⟨hP.1, hP.2.2.1, hS, hb1, hbb.2.2.1, by rw [j164.2]; decide⟩  -- p1
    have m0 := mS_new hP q3
    refine go_c hC B T ?_ (fun σ_4 q5 => ?_)
    · clear h; exact ⟨m0.1.2.1.1, fun _ => by rw [rd, (mS_rows m0.1).1, m0.2.2.1]; show rd σ 5 (σ.1 10) ≠ 5; rw [j164.2]; decide⟩  -- p2
    have b1 := mS_go m0.1 q5
    refine ⟨ib_150.mpr ?_, ?_⟩
    · clear h; exact ⟨b1.1.2.2.2.2.1, b1.1.2.2.2.2.2.1⟩  -- b3
    intro σ_6 hσ_6
    have m' : mSR9 σ σ_6 r1 B T := by rw [hσ_6]; exact mS_ri b1.1 (Or.inr rfl)
    have e6 : ∀ k, σ_6.1 k = σ_4.1 k := fun k => by rw [hσ_6, ri1]
    have r6 : ∀ k, k ≠ 32 → σ_6.2.2.1 k = σ_4.2.2.1 k := fun k hk => by rw [hσ_6, ri3 hk]
    have v32 : rd σ_6 32 r1 = σ_6.1 10 := by rw [rd, e6, hσ_6, ri4, if_pos rfl]
    have gf : σ_6.1 11 = 0 → σ.1 10 < σ_6.1 10 ∧ σ_6.1 13 = σ.1 13 ∧ rd σ_6 30 r1 = y164_s1 := fun f => by
      rw [e6] at f
      obtain ⟨f2, l2, e2, o2⟩ := b1.2.2 f
      rw [m0.2.2.1] at l2
      exact ⟨by rw [e6]; exact l2, by rw [e6, o2, m0.2.2.2.1], by rw [rd, r6 30 (by decide), b1.2.1]; exact m0.2.1 f2⟩
    refine expr0_c hC B T ?_ (fun r7 σ_8 q9 => ?_)
    · clear h; exact ⟨m'.2.1, fun f => by rw [(gf f).2.1]; exact o0⟩  -- p4
    refine sign_c hC B T ?_ (fun σ_10 q11 => ?_)
    · clear h; exact q9.2.1.1  -- p5
    refine h _ ?_
    · clear h; have b4 := mS_expr m' q9
      have b5 := mS_sign b4.1 q11
      have u := mS_U b5.1 (fun f => by
        obtain ⟨f8, l8, e8, o8, -⟩ := b5.2.2 f
        obtain ⟨f6, l6, o6, z6⟩ := b4.2.2.2.2 f8
        have g := gf f6
        have k30 : rd σ_10 30 r1 = y164_s1 := by rw [rd, b5.2.1]; exact b4.2.2.1.trans g.2.2
        have k32 : rd σ_10 32 r1 = σ_6.1 10 := by rw [rd, b5.2.1]; exact b4.2.2.2.1.trans v32
        rw [k30, k32, b5.2.1]
        exact ⟨Int32.lt_of_lt_of_le g.1 (Int32.le_trans l6 (Int32.le_of_lt l8)), Or.inr (Or.inr (Or.inr (Or.inr (Or.inr ⟨Or.inr (Or.inr j164.1), m'.2.1.1.2.2.2.2.1, σ_8.1 10, z6, l6, l8⟩))))⟩)
      refine ⟨u.1, fun f => ⟨(u.2 f).2.2.2, ?_, Or.inl ⟨(u.2 f).1, (u.2 f).2.1⟩⟩⟩
      obtain ⟨f8, l8, e8, o8, -⟩ := b5.2.2 f
      obtain ⟨f6, l6, o6, z6⟩ := b4.2.2.2.2 f8
      rw [o8, o6, (gf f6).2.1, (u.2 f).1]; exact ho
  have hj133 : ∀  (τ : rS), (σ = τ ∧ rd σ 5 (σ.1 10) = 6) → w_tellStatement_133 C Q   τ := by
    rintro  _ ⟨rfl, j133⟩
    unfold w_tellStatement_133
    refine isWord_c hC  ?_ (fun r12 q14 => ?_)
    · clear h; exact hA.2.2.2  -- p7
    refine ⟨fun c15 => ?_, fun c15 => ?_⟩
    · skip
      refine isWord_c hC  ?_ (fun r16 q18 => ?_)
      · clear h; exact hA.2.2.2  -- p8
      refine ⟨fun c19 => ?_, fun c19 => ?_⟩
      · skip
        refine hj164 _ _ ?_
        · clear h; exact ⟨rfl, Or.inr (Or.inr rfl), j133⟩  -- k9
      · skip
        refine hj164 _ _ ?_
        · clear h; exact ⟨rfl, Or.inr (Or.inl rfl), j133⟩  -- k10
    · skip
      refine hj164 _ _ ?_
      · clear h; exact ⟨rfl, Or.inl rfl, j133⟩  -- k11
  have hj68 : ∀ (s1 : Int32) (τ : rS), (σ = τ ∧ (s1 = 6 ∨ s1 = 7) ∧ rd σ 5 (σ.1 10) = 6) → w_tellStatement_68 C Q  s1 τ := by
    rintro y68_s1 _ ⟨rfl, j68⟩
    unfold w_tellStatement_68
    refine newStatement_c hC B T ?_ (fun r20 σ_21 q22 => ?_)
    · clear h; exact ⟨hP.1, hP.2.2.1, hS, hb1, hbb.2.2.1, by rw [j68.2]; decide⟩  -- p12
    have m0 := mS_new hP q22
    refine go_c hC B T ?_ (fun σ_23 q24 => ?_)
    · clear h; exact ⟨m0.1.2.1.1, fun _ => by rw [rd, (mS_rows m0.1).1, m0.2.2.1]; show rd σ 5 (σ.1 10) ≠ 5; rw [j68.2]; decide⟩  -- p13
    have b1 := mS_go m0.1 q24
    refine ⟨ib_150.mpr ?_, ?_⟩
    · clear h; exact ⟨b1.1.2.2.2.2.1, b1.1.2.2.2.2.2.1⟩  -- b14
    intro σ_25 hσ_25
    have m' : mSR9 σ σ_25 r20 B T := by rw [hσ_25]; exact mS_ri b1.1 (Or.inr rfl)
    have e6 : ∀ k, σ_25.1 k = σ_23.1 k := fun k => by rw [hσ_25, ri1]
    have r6 : ∀ k, k ≠ 32 → σ_25.2.2.1 k = σ_23.2.2.1 k := fun k hk => by rw [hσ_25, ri3 hk]
    have v32 : rd σ_25 32 r20 = σ_25.1 10 := by rw [rd, e6, hσ_25, ri4, if_pos rfl]
    have gf : σ_25.1 11 = 0 → σ.1 10 < σ_25.1 10 ∧ σ_25.1 13 = σ.1 13 ∧ rd σ_25 30 r20 = y68_s1 := fun f => by
      rw [e6] at f
      obtain ⟨f2, l2, e2, o2⟩ := b1.2.2 f
      rw [m0.2.2.1] at l2
      exact ⟨by rw [e6]; exact l2, by rw [e6, o2, m0.2.2.2.1], by rw [rd, r6 30 (by decide), b1.2.1]; exact m0.2.1 f2⟩
    refine expr0_c hC B T ?_ (fun r26 σ_27 q28 => ?_)
    · clear h; exact ⟨m'.2.1, fun f => by rw [(gf f).2.1]; exact o0⟩  -- p15
    refine open_c hC B T ?_ (fun σ_29 q30 => ?_)
    · clear h; exact q28.2.1.1  -- p16
    have b4 := mS_expr m' q28
    have b5 := mS_open b4.1 q30
    have e42 : σ_29.1 42 = σ.1 42 := b5.1.1.1 42 (by decide) (by decide) (by decide) (by decide) (by decide) (by decide) (by decide)
    refine openBlock_c hC  ?_ (fun σ_31 q32 => ?_)
    · clear h; exact ⟨by rw [e42]; exact hbb.1, by rw [e42]; exact hbb.2.1, Int32.le_trans (by decide) b5.1.2.2.2.2.1, b5.1.2.2.2.2.2.1, b5.1.2.2.1⟩  -- p17
    refine h _ ?_
    · clear h; have u := mS_U b5.1 (fun f => by
        obtain ⟨f8, l8, e8, o8, -⟩ := b5.2.2 f
        obtain ⟨f6, l6, o6, z6⟩ := b4.2.2.2.2 f8
        have g := gf f6
        have k30 : rd σ_29 30 r20 = y68_s1 := by rw [rd, b5.2.1]; exact b4.2.2.1.trans g.2.2
        have k32 : rd σ_29 32 r20 = σ_25.1 10 := by rw [rd, b5.2.1]; exact b4.2.2.2.1.trans v32
        rw [k30, k32, b5.2.1]
        exact ⟨Int32.lt_of_lt_of_le g.1 (Int32.le_trans l6 (Int32.le_of_lt l8)), Or.inr (Or.inr (Or.inr (Or.inr (Or.inr ⟨by rcases j68.1 with z | z; exact Or.inl z; exact Or.inr (Or.inl z), m'.2.1.1.2.2.2.2.1, σ_27.1 10, z6, l6, l8⟩))))⟩)
      have e11 : σ_31.1 11 = σ_29.1 11 := q32.1.1 11 (by decide)
      refine ⟨sU_ob u.1 q32 (by rw [e42]; exact hbb.1) (by rw [e42]; exact hbb.2.1), fun f => ?_⟩
      rw [e11] at f
      obtain ⟨f8, l8, e8, o8, s8, ox⟩ := b5.2.2 f
      obtain ⟨f6, l6, o6, z6⟩ := b4.2.2.2.2 f8
      have w := u.2 f
      have oc1 : σ_27.1 13 = σ.1 13 := by rw [o6, (gf f6).2.1]
      refine ⟨sN_ob w.2.2.2 q32, ?_, Or.inr ⟨by rw [q32.2.2.1, e42], by rw [← ho, ← oc1]; exact ox, ?_, fun i hi hj => ?_⟩⟩
      · rw [q32.1.1 13 (by decide), o8, oc1, ho, q32.2.2.1, e42]
      · have := q32.2.2.2.1
        rw [e42] at this
        rw [this]; exact w.2.2.1
      · have := q32.2.2.2.2 i hi (by rw [e42]; exact hj)
        rw [this, rd, w.2.1]
  have hj52 : ∀  (τ : rS), (σ = τ ∧ rd σ 5 (σ.1 10) = 6) → w_tellStatement_52 C Q   τ := by
    rintro  _ ⟨rfl, j52⟩
    unfold w_tellStatement_52
    refine isWord_c hC  ?_ (fun r33 q35 => ?_)
    · clear h; exact hA.2.2.2  -- p19
    refine ⟨fun c36 => ?_, fun c36 => ?_⟩
    · skip
      refine hj68 _ _ ?_
      · clear h; exact ⟨rfl, Or.inr rfl, j52⟩  -- k20
    · skip
      refine hj68 _ _ ?_
      · clear h; exact ⟨rfl, Or.inl rfl, j52⟩  -- k21
  refine ⟨ib_131074.mpr ?_, ?_⟩
  · clear h; exact hA.2.2.2  -- b22
  refine ⟨fun c37 => ?_, fun c37 => ?_⟩
  · skip
    refine isWord_c hC  ?_ (fun r38 q40 => ?_)
    · clear h; exact hA.2.2.2  -- p23
    refine ⟨fun c41 => ?_, fun c41 => ?_⟩
    · skip
      refine isWord_c hC  ?_ (fun r42 q44 => ?_)
      · clear h; exact hA.2.2.2  -- p24
      refine ⟨fun c45 => ?_, fun c45 => ?_⟩
      · skip
        refine hj52 _ ?_
        · clear h; exact ⟨rfl, (q44.2.mp c45).1⟩  -- k25
      · skip
        refine isWord_c hC  ?_ (fun r46 q48 => ?_)
        · clear h; exact hA.2.2.2  -- p26
        refine ⟨fun c49 => ?_, fun c49 => ?_⟩
        · skip
          refine isWord_c hC  ?_ (fun r50 q52 => ?_)
          · clear h; exact hA.2.2.2  -- p27
          refine ⟨fun c53 => ?_, fun c53 => ?_⟩
          · skip
            refine hj133 _ ?_
            · clear h; exact ⟨rfl, (q52.2.mp c53).1⟩  -- k28
          · skip
            refine isWord_c hC  ?_ (fun r54 q56 => ?_)
            · clear h; exact hA.2.2.2  -- p29
            refine ⟨fun c57 => ?_, fun c57 => ?_⟩
            · skip
              refine hj133 _ ?_
              · clear h; exact ⟨rfl, (q56.2.mp c57).1⟩  -- k30
            · skip
              refine isWord_c hC  ?_ (fun r58 q60 => ?_)
              · clear h; exact hA.2.2.2  -- p31
              refine ⟨fun c61 => ?_, fun c61 => ?_⟩
              · skip
                refine flaw_c hC  ?_ (fun σ_62 q63 => ?_)
                · clear h; exact ⟨hA.2.2.2.1, hA.2.2.2.2, by decide⟩  -- p32
                refine h _ ?_
                · clear h; have a := aI_flaw (aI_refl hP) q63
                  refine ⟨⟨?_, a.1.2.1, by show tyS _ _ _ _ _ _ _ _; rw [a.2.1]; exact hS, by rw [a.2.1]; exact rHi_refl, by rw [a.2.1]; exact rLo_refl, fun _ => a.2.2, fun f => absurd f a.2.2⟩, fun f => absurd f a.2.2⟩
                  exact ⟨fun k _ z2 z3 _ _ _ _ _ => q63.1.1 k z2 z3, fun k => by rw [a.2.1], fun k _ _ _ _ _ _ _ _ _ _ _ _ _ _ _ _ _ _ => by rw [a.2.1], fun k j _ _ _ _ _ _ _ _ _ _ _ _ _ _ _ _ _ _ => by rw [a.2.1], fun k j => by rw [a.2.1]⟩
              · skip
                refine hj133 _ ?_
                · clear h; exact ⟨rfl, (q60.2.mp c61).1⟩  -- k34
        · skip
          refine hj52 _ ?_
          · clear h; exact ⟨rfl, (q48.2.mp c49).1⟩  -- k35
    · skip
      refine tellLocal_c hC B T ?_ (fun σ_64 q65 => ?_)
      · clear h; exact ⟨hP, hS, hb1, hbb.2.2.1, o0.1, o0.2, by rw [(q40.2.mp c41).1]; decide⟩  -- p36
      refine h _ ?_
      · clear h; refine ⟨q65.1, fun f => ?_⟩
        obtain ⟨a, b, c, d⟩ := q65.2 f
        exact ⟨d, by rw [a, b]; exact ho, Or.inl ⟨b, c⟩⟩
  · skip
    refine tellNamed_c hC B T ?_ (fun σ_66 q67 => ?_)
    · clear h; exact ⟨hP, hS, hb1, hbb.2.2.1, o0.1, o0.2, c37⟩  -- p38
    refine h _ ?_
    · clear h; have u := sT_U q67
      refine ⟨u.1, fun f => ?_⟩
      obtain ⟨a, b, c, d⟩ := u.2 f
      exact ⟨d, by rw [a, b]; exact ho, Or.inl ⟨b, c⟩⟩

theorem endBlock_c {C : rCx} (hC : cOK C) (B T : Int32) {σ : rS}  {Q : rS → Prop} (hp : p0 σ B T ∧ tS σ ∧ σ.1 11 = 0 ∧ 2 ≤ σ.1 42 ∧ σ.1 42 ≤ 40 ∧ σ.1 13 = σ.1 42 ∧ 0 ≤ rd σ 43 (σ.1 42 - 1)) (h : ∀ (σ' : rS), (((∀ k, k ≠ 10 → k ≠ 11 → k ≠ 12 → k ≠ 13 → k ≠ 42 → σ'.1 k = σ.1 k) ∧ (∀ k,  σ'.2.1 k = σ.2.1 k) ∧ (∀ k, k ≠ 43 → k ≠ 44 → k ≠ 45 → σ'.2.2.1 k = σ.2.2.1 k) ∧ (∀ k j, k ≠ 43 → k ≠ 44 → k ≠ 45 → σ'.2.2.1 k j = σ.2.2.1 k j) ∧ (∀ k j,  σ'.2.2.2 k j = σ.2.2.2 k j)) ∧ p0 σ' B T ∧ tS σ' ∧ (σ'.1 11 = 0 → σ.1 10 < σ'.1 10 ∧ σ'.1 13 = σ'.1 42 ∧ 1 ≤ σ'.1 42 ∧ σ'.1 42 ≤ σ.1 42 ∧ ∀ i : Int32, 0 ≤ i → i < σ'.1 42 → rd σ' 43 i = rd σ 43 i)) → Q σ') : cV C 5 m_endBlock [.ref (co C)] σ Q := by
  refine m_endBlock_run hC ?_
  unfold w_endBlock_0
  obtain ⟨hP, hS, h11, hb1, hb2, ho, hw⟩ := hp
  have hA := aI_at (aI_refl hP)
  refine ⟨ib_64.mpr ?_, ?_⟩
  · clear h; exact ⟨(bl_b hb1 hb2).1, (bl_b hb1 hb2).2.1⟩  -- b1
  intro x1 hx1
  refine ⟨ib_64.mpr ?_, ?_⟩
  · clear h; exact ⟨(bl_b hb1 hb2).1, (bl_b hb1 hb2).2.1⟩  -- b2
  intro x2 hx2
  intro σ_3 hσ_3
  have bb := bl_b hb1 hb2
  have pp : p0 σ_3 B T := by rw [hσ_3]; exact p0_b42 hP bb.1 bb.2.2.1
  have e3 : ∀ k, k ≠ 42 → σ_3.1 k = σ.1 k := fun k hk => by rw [hσ_3, si1, if_neg hk]
  have s3 : σ_3.2 = σ.2 := by rw [hσ_3, si2]
  have b3 : σ_3.1 42 = σ.1 42 - 1 := by rw [hσ_3, si1, if_pos rfl]
  refine close_c hC B T ?_ (fun σ_4 q5 => ?_)
  · clear h; exact pp.1  -- p3
  have a1 := aI_close (aI_refl pp) q5
  have s4 : σ_4.2 = σ.2 := a1.2.1.trans s3
  have b4 : σ_4.1 42 = σ.1 42 - 1 := (q5.1.1 42 (by decide) (by decide) (by decide) (by decide)).trans b3
  have fF : ((∀ k, k ≠ 10 → k ≠ 11 → k ≠ 12 → k ≠ 13 → k ≠ 42 → σ_4.1 k = σ.1 k) ∧ (∀ k,  σ_4.2.1 k = σ.2.1 k) ∧ (∀ k, k ≠ 43 → k ≠ 44 → k ≠ 45 → σ_4.2.2.1 k = σ.2.2.1 k) ∧ (∀ k j, k ≠ 43 → k ≠ 44 → k ≠ 45 → σ_4.2.2.1 k j = σ.2.2.1 k j) ∧ (∀ k j,  σ_4.2.2.2 k j = σ.2.2.2 k j)) := ⟨fun k z1 z2 z3 z4 z5 => (q5.1.1 k z1 z2 z3 z4).trans (e3 k z5), fun k => by rw [s4], fun k _ _ _ => by rw [s4], fun k j _ _ _ => by rw [s4], fun k j => by rw [s4]⟩
  have tS4 : tS σ_4 := by show tyS _ _ _ _ _ _ _ _; rw [s4]; exact hS
  have o4 : σ_4.1 11 = 0 → σ.1 10 < σ_4.1 10 ∧ σ_4.1 13 = σ_4.1 42 := fun f => by
    obtain ⟨f0, l0, e0, o0, -⟩ := a1.2.2 f
    rw [e3 10 (by decide)] at l0
    exact ⟨l0, by rw [o0, e3 13 (by decide), ho, b4]⟩
  have fin : ((∀ k, k ≠ 10 → k ≠ 11 → k ≠ 12 → k ≠ 13 → k ≠ 42 → σ_4.1 k = σ.1 k) ∧ (∀ k,  σ_4.2.1 k = σ.2.1 k) ∧ (∀ k, k ≠ 43 → k ≠ 44 → k ≠ 45 → σ_4.2.2.1 k = σ.2.2.1 k) ∧ (∀ k j, k ≠ 43 → k ≠ 44 → k ≠ 45 → σ_4.2.2.1 k j = σ.2.2.1 k j) ∧ (∀ k j,  σ_4.2.2.2 k j = σ.2.2.2 k j)) ∧ p0 σ_4 B T ∧ tS σ_4 ∧ (σ_4.1 11 = 0 → σ.1 10 < σ_4.1 10 ∧ σ_4.1 13 = σ_4.1 42 ∧ 1 ≤ σ_4.1 42 ∧ σ_4.1 42 ≤ σ.1 42 ∧ ∀ i : Int32, 0 ≤ i → i < σ_4.1 42 → rd σ_4 43 i = rd σ 43 i) := ⟨fF, a1.1.2.1, tS4, fun f => ⟨(o4 f).1, (o4 f).2, by rw [b4]; exact bb.2.2.2.1, by rw [b4]; exact bb.2.2.2.2.1, fun i _ _ => by rw [rd, s4]⟩⟩
  refine isRight_c hC  (fun r6 q8 => ?_)
  refine ⟨fun c9 => ?_, fun c9 => ?_⟩
  · skip
    refine h _ ?_
    · clear h; exact fin  -- q4
  · skip
    refine ⟨fun c10 => ?_, fun c10 => ?_⟩
    · skip
      refine h _ ?_
      · clear h; exact fin  -- q5
    · skip
      refine ⟨ib_150.mpr ?_, ?_⟩
      · clear h; exact ⟨by rw [hx1]; exact hw, by rw [hx1]; exact (hS.2.2.2.2.2.2.1 _).2⟩  -- b6
      refine ⟨fun c11 => ?_, fun c11 => ?_⟩
      · skip
        refine h _ ?_
        · clear h; exact fin  -- q7
      · skip
        refine isWord_c hC  ?_ (fun r12 q14 => ?_)
        · clear h; exact (aI_at a1.1).2.2.2  -- p8
        refine ⟨fun c15 => ?_, fun c15 => ?_⟩
        · skip
          refine h _ ?_
          · clear h; exact fin  -- q9
        · skip
          refine go_c hC B T ?_ (fun σ_16 q17 => ?_)
          · clear h; exact ⟨a1.1.2.1.1, fun _ => by rw [(q14.2.mp c15).1]; decide⟩  -- p10
          refine open_c hC B T ?_ (fun σ_18 q19 => ?_)
          · clear h; exact q17.2.1  -- p11
          have a2 := aI_go a1.1 q17
          have a3 := aI_open a2.1 q19
          have b18 : σ_18.1 42 = σ.1 42 - 1 := by rw [q19.1.1 42 (by decide) (by decide) (by decide) (by decide), q17.1.1 42 (by decide) (by decide) (by decide), b4]
          have s18 : σ_18.2 = σ.2 := a3.2.1.trans (a2.2.1.trans s4)
          refine openBlock_c hC  ?_ (fun σ_20 q21 => ?_)
          · clear h; exact ⟨by rw [b18]; exact bb.1, by rw [b18]; exact bb.2.1, by rw [hx1]; exact Int32.le_trans (by decide) hw, by rw [hx1]; exact (hS.2.2.2.2.2.2.1 _).2, by show tyS _ _ _ _ _ _ _ _; rw [s18]; exact hS⟩  -- p12
          refine h _ ?_
          · clear h; have pO := p0_ob a3.1.2.1 q21 (by rw [b18]; exact bb.1) (by rw [b18]; exact bb.2.1)
            refine ⟨⟨fun k z1 z2 z3 z4 z5 => ?_, fun k => ?_, fun k z1 z2 z3 => ?_, fun k j z1 z2 z3 => ?_, fun k j => ?_⟩, pO, q21.2.1, fun f => ?_⟩
            · rw [q21.1.1 k z5, q19.1.1 k z1 z2 z3 z4, q17.1.1 k z1 z2 z3]; exact fF.1 k z1 z2 z3 z4 z5
            · rw [q21.1.2.1 k, s18]
            · rw [q21.1.2.2.1 k z1 z2 z3, s18]
            · rw [q21.1.2.2.2.1 k j z1 z2 z3, s18]
            · rw [q21.1.2.2.2.2 k j, s18]
            · rw [q21.1.1 11 (by decide)] at f
              obtain ⟨f2, l2, e2, o2, -, -⟩ := a3.2.2 f
              obtain ⟨f1, l1, e1, o1⟩ := a2.2.2 f2
              have w := o4 f1
              have b20 : σ_20.1 42 = σ.1 42 := by rw [q21.2.2.1, b18]; exact bb.2.2.2.2.2.1
              refine ⟨by rw [q21.1.1 10 (by decide)]; exact Int32.lt_trans w.1 (Int32.lt_trans l1 l2), ?_, by rw [b20]; exact bb.2.2.2.2.2.2, by rw [b20]; exact Int32.le_refl _, fun i hi hj => ?_⟩
              · rw [q21.1.1 13 (by decide), o2, o1, w.2, b4, b20]; exact bb.2.2.2.2.2.1
              · rw [b20] at hj
                rcases bl_i hi hj with e | e
                · subst e
                  have := q21.2.2.2.1
                  rw [b18] at this
                  rw [this, hx1]
                · have := q21.2.2.2.2 i hi (by rw [b18]; exact e)
                  rw [this, rd, s18]

end
section
set_option maxHeartbeats 1600000
/-! the reference: the statements of a function -/
def frB (σ τ : rS) : Prop := (∀ k, k ≠ 10 → k ≠ 11 → k ≠ 12 → k ≠ 13 → k ≠ 19 → k ≠ 42 → k ≠ 48 → k ≠ 49 → τ.1 k = σ.1 k) ∧ (∀ k,  τ.2.1 k = σ.2.1 k) ∧ (∀ k, k ≠ 27 → k ≠ 28 → k ≠ 29 → k ≠ 30 → k ≠ 31 → k ≠ 32 → k ≠ 33 → k ≠ 34 → k ≠ 35 → k ≠ 36 → k ≠ 38 → k ≠ 39 → k ≠ 43 → k ≠ 44 → k ≠ 45 → k ≠ 50 → k ≠ 51 → k ≠ 52 → τ.2.2.1 k = σ.2.2.1 k) ∧ (∀ k j, k ≠ 27 → k ≠ 28 → k ≠ 29 → k ≠ 30 → k ≠ 31 → k ≠ 32 → k ≠ 33 → k ≠ 34 → k ≠ 35 → k ≠ 36 → k ≠ 38 → k ≠ 39 → k ≠ 43 → k ≠ 44 → k ≠ 45 → k ≠ 50 → k ≠ 51 → k ≠ 52 → τ.2.2.1 k j = σ.2.2.1 k j) ∧ (∀ k j,  τ.2.2.2 k j = σ.2.2.2 k j)
theorem frB_tr {σ τ υ : rS} (h : frB σ τ) (g : frB τ υ) : frB σ υ := by
  refine ⟨fun k z1 z2 z3 z4 z5 z6 z7 z8 => (g.1 k z1 z2 z3 z4 z5 z6 z7 z8).trans (h.1 k z1 z2 z3 z4 z5 z6 z7 z8), fun k => (g.2.1 k).trans (h.2.1 k), ?_, ?_, fun k j => (g.2.2.2.2 k j).trans (h.2.2.2.2 k j)⟩
  · intro k z1 z2 z3 z4 z5 z6 z7 z8 z9 za zb zc zd ze zf zg zh zi
    exact (g.2.2.1 k z1 z2 z3 z4 z5 z6 z7 z8 z9 za zb zc zd ze zf zg zh zi).trans (h.2.2.1 k z1 z2 z3 z4 z5 z6 z7 z8 z9 za zb zc zd ze zf zg zh zi)
  · intro k j z1 z2 z3 z4 z5 z6 z7 z8 z9 za zb zc zd ze zf zg zh zi
    exact (g.2.2.2.1 k j z1 z2 z3 z4 z5 z6 z7 z8 z9 za zb zc zd ze zf zg zh zi).trans (h.2.2.2.1 k j z1 z2 z3 z4 z5 z6 z7 z8 z9 za zb zc zd ze zf zg zh zi)
theorem frB_rows {σ τ : rS} (h : frB σ τ) : τ.2.2.1 5 = σ.2.2.1 5 ∧ τ.2.2.1 7 = σ.2.2.1 7 := ⟨h.2.2.1 5 (by decide) (by decide) (by decide) (by decide) (by decide) (by decide) (by decide) (by decide) (by decide) (by decide) (by decide) (by decide) (by decide) (by decide) (by decide) (by decide) (by decide) (by decide), h.2.2.1 7 (by decide) (by decide) (by decide) (by decide) (by decide) (by decide) (by decide) (by decide) (by decide) (by decide) (by decide) (by decide) (by decide) (by decide) (by decide) (by decide) (by decide) (by decide)⟩
/-- all statements so far are in order, below token P -/
def stA (σ : rS) (B P : Int32) : Prop := ∀ s : Int32, 0 ≤ s → s < σ.1 19 → stK (σ.2.2.1 5) (σ.2.2.1 7) (σ.2.2.1 39) B P (rd σ 30 s) (rd σ 31 s) (rd σ 32 s) ∧ rd σ 36 s < s ∧ lkS σ s.toNatClampNeg (σ.1 19)
/-- first statements of functions stay below the number of statements -/
def lkF (σ τ : rS) : Prop := ∀ j, σ.2.2.1 29 j < σ.1 19 → τ.2.2.1 29 j < τ.1 19
theorem lkF_tr {σ τ υ : rS} (h : lkF σ τ) (g : lkF τ υ) : lkF σ υ := fun j hj => g j (h j hj)
theorem lkF_o {σ τ : rS} (h29 : τ.2.2.1 29 = σ.2.2.1 29) (h19 : τ.1 19 = σ.1 19) : lkF σ τ := fun j hj => by rw [h29, h19]; exact hj
theorem lkS_o {σ τ : rS} {j : Nat} {n : Int32} (h : lkS σ j n) (h33 : τ.2.2.1 33 = σ.2.2.1 33) (h34 : τ.2.2.1 34 = σ.2.2.1 34) (h35 : τ.2.2.1 35 = σ.2.2.1 35) : lkS τ j n := by
  unfold lkS at h ⊢
  rw [h33, h34, h35]; exact h
/-- the open blocks' owners are statements -/
def bI (σ : rS) : Prop := ∀ i : Int32, 0 ≤ i → i < σ.1 42 → (1 ≤ i → 0 ≤ rd σ 43 i) ∧ rd σ 43 i < σ.1 19
theorem s_cs {s n : Int32} (h0 : 0 ≤ n) (h1 : n ≤ 150) (h : s < n + 1) : s = n ∨ s < n := by grind
theorem st_b {σ : rS} {B T : Int32} (h : p0 σ B T) : 0 ≤ σ.1 19 ∧ σ.1 19 ≤ 150 := by
  have := h.2.2.1
  clear h
  grind [tyF]
theorem stA_up {σ τ : rS} {B P P' : Int32} (h0 : 0 ≤ B) (hP2 : P < 131074) (h : stA σ B P) (h5 : τ.2.2.1 5 = σ.2.2.1 5) (h7 : τ.2.2.1 7 = σ.2.2.1 7) (h19 : τ.1 19 = σ.1 19) (hr : τ.2.2.1 30 = σ.2.2.1 30 ∧ τ.2.2.1 31 = σ.2.2.1 31 ∧ τ.2.2.1 32 = σ.2.2.1 32 ∧ τ.2.2.1 36 = σ.2.2.1 36 ∧ τ.2.2.1 33 = σ.2.2.1 33 ∧ τ.2.2.1 34 = σ.2.2.1 34 ∧ τ.2.2.1 35 = σ.2.2.1 35) (hR : rLo (σ.2.2.1 39) (τ.2.2.1 39) P) (hP : P ≤ P') : stA τ B P' := by
  intro s hs0 hs1
  rw [h19] at hs1
  have := h s hs0 hs1
  simp only [rd] at this ⊢
  rw [h5, h7, hr.1, hr.2.1, hr.2.2.1, hr.2.2.2.1, h19]
  exact ⟨stK_up h0 hP2 this.1 hR hP, this.2.1, lkS_o this.2.2 hr.2.2.2.2.1 hr.2.2.2.2.2.1 hr.2.2.2.2.2.2⟩
theorem stA_N {σ τ : rS} {B T : Int32} (hP : p0 σ B T) (h : stA σ B (σ.1 10)) (u : sU σ τ B T) (f : τ.1 11 = 0) (n : sN σ τ B) (hb : rd σ 43 (σ.1 42 - 1) < σ.1 19) : stA τ B (τ.1 10) := by
  have hA := aI_at (aI_refl hP)
  have r := frB_rows u.1
  obtain ⟨n1, n2, n3, n4, n5⟩ := n
  obtain ⟨w1, w2, w3⟩ := u.2.2.2.2.2.2 f
  have sb := st_b hP
  intro s hs0 hs1
  rw [n1] at hs1
  rw [r.1, r.2]
  rcases s_cs sb.1 sb.2 hs1 with e | e
  · subst e
    exact ⟨n4, by rw [n2]; exact hb, n5.2.1⟩
  · have hj := n3 s.toNatClampNeg (cn_ne hs0 e)
    have g := h s hs0 e
    simp only [rd] at g ⊢
    rw [hj.1, hj.2.1, hj.2.2.1, hj.2.2.2]
    exact ⟨stK_up hP.1.1 hA.2.2.2.2 g.1 w3 (Int32.le_of_lt w2), g.2.1, n5.1 _ g.2.2⟩
/-- from a function's first statement on -/
def sW (σ τ : rS) (B T : Int32) : Prop :=
  frB σ τ ∧ p0 τ B T ∧ tS τ ∧ rHi (σ.2.2.1 39) (τ.2.2.1 39) T ∧ rLo (σ.2.2.1 39) (τ.2.2.1 39) B ∧ (σ.1 11 ≠ 0 → τ.1 11 ≠ 0) ∧
  (τ.1 11 = 0 → σ.1 11 = 0 ∧ σ.1 10 ≤ τ.1 10 ∧ rLo (σ.2.2.1 39) (τ.2.2.1 39) (σ.1 10) ∧ stA τ B (τ.1 10) ∧ 0 ≤ τ.1 42 ∧ τ.1 42 ≤ 40 ∧ (1 ≤ τ.1 42 → τ.1 13 = τ.1 42) ∧ (τ.1 42 = 0 → τ.1 13 = 1) ∧ bI τ ∧ lkF σ τ)
theorem b2n {x : Int32} (h1 : ¬ x ≤ 0) : 1 ≤ x := by grind
theorem b3n {x : Int32} (h1 : ¬ x ≤ 0) (h : ¬ x = 1) (h2 : x ≤ 40) : 2 ≤ x ∧ 0 ≤ x - 1 ∧ x - 1 < x ∧ 1 ≤ x - 1 := by grind
theorem b0n {x : Int32} (h1 : x ≤ 0) (h : 0 ≤ x) : x = 0 := by grind
theorem i0n {x : Int32} (h1 : 0 ≤ x) (h : x < 1) : x = 0 ∧ ¬ 1 ≤ x := by grind
theorem b40 {x : Int32} (h1 : 1 ≤ x) (h2 : x ≤ 40) (h3 : x ≠ 40) : 0 ≤ x + 1 ∧ x + 1 ≤ 40 ∧ ¬ x + 1 = 0 := by grind
theorem b1n {x : Int32} (h1 : 1 ≤ x) : 0 ≤ x ∧ ¬ x = 0 := by grind
theorem bi_c {i x : Int32} (h0 : 0 ≤ i) (h1 : 1 ≤ x) (h2 : x ≤ 40) (h : i < x + 1) : i = x ∨ i < x := by grind
theorem b1m {x : Int32} (h1 : 1 ≤ x) (h2 : x ≤ 40) : 0 ≤ x - 1 ∧ x - 1 < x := by grind
theorem lt_sn {a b : Int32} (h0 : 0 ≤ b) (h1 : b ≤ 150) (h : a < b) : a < b + 1 := by grind
theorem lt_s2 {b : Int32} (h0 : 0 ≤ b) (h1 : b ≤ 150) : b < b + 1 := by grind
theorem tellStatements_c {C : rCx} (hC : cOK C) (B T : Int32) {σ : rS}  {Q : rS → Prop} (hp : p0 σ B T ∧ tS σ ∧ (σ.1 11 = 0 → σ.1 13 = 1 ∧ stA σ B (σ.1 10))) (h : ∀ (σ' : rS), (frB σ σ' ∧ p0 σ' B T ∧ tS σ' ∧ rHi (σ.2.2.1 39) (σ'.2.2.1 39) T ∧ rLo (σ.2.2.1 39) (σ'.2.2.1 39) B ∧ (σ.1 11 ≠ 0 → σ'.1 11 ≠ 0) ∧ (σ'.1 11 = 0 → σ.1 11 = 0 ∧ σ.1 10 ≤ σ'.1 10 ∧ rLo (σ.2.2.1 39) (σ'.2.2.1 39) (σ.1 10) ∧ stA σ' B (σ'.1 10) ∧ σ'.1 13 = 1 ∧ lkF σ σ')) → Q σ') : cV C 10 m_tellStatements [.ref (co C)] σ Q := by
  refine m_tellStatements_run hC ?_
  unfold w_tellStatements_0
  obtain ⟨hP, hS, hf⟩ := hp
  have hA := aI_at (aI_refl hP)
  intro σ_1 hσ_1
  refine openBlock_c hC  ?_ (fun σ_2 q3 => ?_)
  · clear h; exact ⟨by rw [hσ_1, si1, if_pos rfl]; decide, by rw [hσ_1, si1, if_pos rfl]; decide, by decide, by decide, by show tyS _ _ _ _ _ _ _ _; rw [hσ_1, si2]; exact hS⟩  -- p1
  unfold w_tellStatements_11
  refine ⟨fun n  τ => n = eMs (τ.1 11) 0 (if τ.1 42 ≤ 0 then 2 else 0) (τ.1 10) T ∧ (sW σ τ B T), ⟨_, rfl, ?_⟩, ?_⟩
  · clear h; have pp : p0 σ_1 B T := by rw [hσ_1]; exact p0_b42 hP (by decide) (by decide)
    have e1 : ∀ k, k ≠ 42 → σ_1.1 k = σ.1 k := fun k hk => by rw [hσ_1, si1, if_neg hk]
    have s1 : σ_1.2 = σ.2 := by rw [hσ_1, si2]
    have b1 : σ_1.1 42 = 0 := by rw [hσ_1, si1, if_pos rfl]
    have p2 := p0_ob pp q3 (by rw [b1]; decide) (by rw [b1]; decide)
    have b2 : σ_2.1 42 = 1 := by rw [q3.2.2.1, b1]; rfl
    have ee : ∀ k, k ≠ 42 → σ_2.1 k = σ.1 k := fun k hk => (q3.1.1 k hk).trans (e1 k hk)
    have rr : ∀ k, k ≠ 43 → k ≠ 44 → k ≠ 45 → σ_2.2.2.1 k = σ.2.2.1 k := fun k z1 z2 z3 => (q3.1.2.2.1 k z1 z2 z3).trans (by rw [s1])
    have r39 := rr 39 (by decide) (by decide) (by decide)
    refine ⟨⟨fun k _ _ _ _ _ z6 _ _ => ee k z6, fun k => (q3.1.2.1 k).trans (by rw [s1]), fun k _ _ _ _ _ _ _ _ _ _ _ _ zd ze zf _ _ _ => rr k zd ze zf, fun k j _ _ _ _ _ _ _ _ _ _ _ _ zd ze zf _ _ _ => congrFun (rr k zd ze zf) j, fun k j => (q3.1.2.2.2.2 k j).trans (by rw [s1])⟩, p2, q3.2.1, by rw [r39]; exact rHi_refl, by rw [r39]; exact rLo_refl, fun z => by rw [ee 11 (by decide)]; exact z, fun f => ?_⟩
    rw [ee 11 (by decide)] at f
    have w := hf f
    refine ⟨f, by rw [ee 10 (by decide)]; exact Int32.le_refl _, by rw [r39]; exact rLo_refl, ?_, by rw [b2]; decide, by rw [b2]; decide, fun _ => by rw [b2, ee 13 (by decide)]; exact w.1, fun z => by rw [b2] at z; exact absurd z (by decide), fun i hi hj => ?_, lkF_o (rr 29 (by decide) (by decide) (by decide)) (ee 19 (by decide))⟩
    · rw [ee 10 (by decide)]
      exact stA_up hP.1.1 hA.2.2.2.2 w.2 (rr 5 (by decide) (by decide) (by decide)) (rr 7 (by decide) (by decide) (by decide)) (ee 19 (by decide)) ⟨rr 30 (by decide) (by decide) (by decide), rr 31 (by decide) (by decide) (by decide), rr 32 (by decide) (by decide) (by decide), rr 36 (by decide) (by decide) (by decide), rr 33 (by decide) (by decide) (by decide), rr 34 (by decide) (by decide) (by decide), rr 35 (by decide) (by decide) (by decide)⟩ (by rw [r39]; exact rLo_refl) (Int32.le_refl _)
    · rw [b2] at hj
      have z := i0n hi hj
      refine ⟨fun y => absurd y z.2, ?_⟩
      rw [z.1]
      have y := q3.2.2.2.1
      rw [b1] at y
      rw [y, ee 19 (by decide)]
      exact Int32.lt_of_lt_of_le (by decide) (st_b hP).1
  rintro n11  σ11 ⟨hn11, i11⟩
  refine isRight_c hC  (fun r4 q6 => ?_)
  refine ⟨fun c7 => ?_, fun c7 => ?_⟩
  · skip
    refine h _ ?_
    · clear h; obtain ⟨w1, w2, w3, w4, w5, w6, w7⟩ := i11
      exact ⟨w1, w2, w3, w4, w5, w6, fun f => absurd c7 (q6.2.mpr f)⟩
  · skip
    refine ⟨fun c8 => ?_, fun c8 => ?_⟩
    · skip
      refine h _ ?_
      · clear h; obtain ⟨w1, w2, w3, w4, w5, w6, w7⟩ := i11
        refine ⟨w1, w2, w3, w4, w5, w6, fun f => ?_⟩
        obtain ⟨m1, m2, m3, m4, m5, m6, m7, m8, m9, mk⟩ := w7 f
        exact ⟨m1, m2, m3, m4, m8 (b0n c8 m5), mk⟩
    · skip
      refine isAt_c hC  ?_ (fun r9 q11 => ?_)
      · clear h; exact (aI_at (aI_refl i11.2.1)).2.2.2  -- p5
      have f := q6.2.mp c7
      obtain ⟨w1, w2, w3, w4, w5, w6, w7⟩ := i11
      obtain ⟨m1, m2, m3, m4, m5, m6, m7, m8, m9, mk⟩ := w7 f
      have hb := b2n c8
      have hA2 := aI_at (aI_refl w2)
      have sb := st_b w2
      refine ⟨fun c12 => ?_, fun c12 => ?_⟩
      · skip
        refine ⟨fun c13 => ?_, fun c13 => ?_⟩
        · skip
          refine endBlock_c hC B T ?_ (fun σ_14 q15 => ?_)
          · clear h; have z := b3n c8 c13 m6
            exact ⟨w2, w3, f, z.1, m6, m7 hb, (m9 _ z.2.1 z.2.2.1).1 z.2.2.2⟩
          refine ⟨_, ?_, rfl, ?_⟩
          · clear h; show eMs (σ_14.1 11) 0 (if σ_14.1 42 ≤ 0 then 2 else 0) (σ_14.1 10) T < n11
            rw [hn11, f, if_neg c8]
            exact eMs_lt (by decide) (fun f' _ _ => (q15.2.2.2 f').1) hA2.2.2.2.1 q15.2.1.1.2.2.2.2.2
          · clear h; have rr := q15.1.2.2.1
            have r39 := rr 39 (by decide) (by decide) (by decide)
            have fr : frB σ11 σ_14 := ⟨fun k z1 z2 z3 z4 _ z6 _ _ => q15.1.1 k z1 z2 z3 z4 z6, q15.1.2.1, fun k _ _ _ _ _ _ _ _ _ _ _ _ zd ze zf _ _ _ => rr k zd ze zf, fun k j _ _ _ _ _ _ _ _ _ _ _ _ zd ze zf _ _ _ => q15.1.2.2.2.1 k j zd ze zf, q15.1.2.2.2.2⟩
            have e19 : σ_14.1 19 = σ11.1 19 := q15.1.1 19 (by decide) (by decide) (by decide) (by decide) (by decide)
            refine ⟨frB_tr w1 fr, q15.2.1, q15.2.2.1, by rw [r39]; exact w4, by rw [r39]; exact w5, fun z => absurd m1 z, fun f' => ?_⟩
            obtain ⟨n1, n2, n3, n4, n5⟩ := q15.2.2.2 f'
            have nz := b1n n3
            refine ⟨m1, Int32.le_trans m2 (Int32.le_of_lt n1), by rw [r39]; exact m3, ?_, nz.1, Int32.le_trans n4 m6, fun _ => n2, fun z => absurd z nz.2, fun i hi hj => ?_, lkF_tr mk (lkF_o (rr 29 (by decide) (by decide) (by decide)) e19)⟩
            · exact stA_up w2.1.1 hA2.2.2.2.2 m4 (rr 5 (by decide) (by decide) (by decide)) (rr 7 (by decide) (by decide) (by decide)) e19 ⟨rr 30 (by decide) (by decide) (by decide), rr 31 (by decide) (by decide) (by decide), rr 32 (by decide) (by decide) (by decide), rr 36 (by decide) (by decide) (by decide), rr 33 (by decide) (by decide) (by decide), rr 34 (by decide) (by decide) (by decide), rr 35 (by decide) (by decide) (by decide)⟩ (by rw [r39]; exact rLo_refl) (Int32.le_of_lt n1)
            · rw [n5 i hi hj, e19]; exact m9 i hi (Int32.lt_of_lt_of_le hj n4)
        · skip
          intro σ_16 hσ_16
          refine ⟨_, ?_, rfl, ?_⟩
          · clear h; show eMs (σ_16.1 11) 0 (if σ_16.1 42 ≤ 0 then 2 else 0) (σ_16.1 10) T < n11
            have z42 : σ_16.1 42 ≤ 0 := by rw [hσ_16, si1, if_pos rfl]; decide
            rw [hn11, f, if_neg c8, if_pos z42]
            exact eMs_lt (by decide) (fun _ _ z => absurd rfl z) hA2.2.2.2.1 (by rw [hσ_16, si1, if_neg (by decide)]; exact w2.1.2.2.2.2.2)
          · clear h; have ee : ∀ k, k ≠ 42 → σ_16.1 k = σ11.1 k := fun k hk => by rw [hσ_16, si1, if_neg hk]
            have s16 : σ_16.2 = σ11.2 := by rw [hσ_16, si2]
            have b16 : σ_16.1 42 = 0 := by rw [hσ_16, si1, if_pos rfl]
            have p16 : p0 σ_16 B T := by rw [hσ_16]; exact p0_b42 w2 (by decide) (by decide)
            have fr : frB σ11 σ_16 := ⟨fun k _ _ _ _ _ z6 _ _ => ee k z6, fun k => by rw [s16], fun k _ _ _ _ _ _ _ _ _ _ _ _ _ _ _ _ _ _ => by rw [s16], fun k j _ _ _ _ _ _ _ _ _ _ _ _ _ _ _ _ _ _ => by rw [s16], fun k j => by rw [s16]⟩
            refine ⟨frB_tr w1 fr, p16, by show tyS _ _ _ _ _ _ _ _; rw [s16]; exact w3, by rw [s16]; exact w4, by rw [s16]; exact w5, fun z => absurd m1 z, fun f' => ?_⟩
            refine ⟨m1, by rw [ee 10 (by decide)]; exact m2, by rw [s16]; exact m3, ?_, by rw [b16]; decide, by rw [b16]; decide, fun z => by rw [b16] at z; exact absurd z (by decide), fun _ => by rw [ee 13 (by decide), m7 hb]; exact c13, fun i hi hj => by rw [b16] at hj; exact absurd hj (Int32.not_lt.mpr hi), lkF_tr mk (lkF_o (by rw [s16]) (ee 19 (by decide)))⟩
            rw [ee 10 (by decide)]
            exact stA_up w2.1.1 hA2.2.2.2.2 m4 (by rw [s16]) (by rw [s16]) (ee 19 (by decide)) ⟨by rw [s16], by rw [s16], by rw [s16], by rw [s16], by rw [s16], by rw [s16], by rw [s16]⟩ (by rw [s16]; exact rLo_refl) (Int32.le_refl _)
      · skip
        refine tellStatement_c hC B T ?_ (fun σ_17 q18 => ?_)
        · clear h; exact ⟨w2, w3, f, hb, m6, m7 hb⟩  -- p11
        refine ⟨_, ?_, rfl, ?_⟩
        · clear h; show eMs (σ_17.1 11) 0 (if σ_17.1 42 ≤ 0 then 2 else 0) (σ_17.1 10) T < n11
          rw [hn11, f, if_neg c8]
          exact eMs_lt (by decide) (fun f' _ _ => (q18.1.2.2.2.2.2.2 f').2.1) hA2.2.2.2.1 q18.1.2.1.1.2.2.2.2.2
        · clear h; obtain ⟨u1, u2, u3, u4, u5, u6, u7⟩ := q18.1
          refine ⟨frB_tr w1 u1, u2, u3, rHi_tr w4 u4, rLo_tr w5 u5 (Int32.le_refl _), fun z => absurd m1 z, fun f' => ?_⟩
          obtain ⟨v1, v2, v3⟩ := u7 f'
          obtain ⟨n1, n2, n3⟩ := q18.2 f'
          have bm := b1m hb m6
          have own := (m9 _ bm.1 bm.2).2
          have e19 := n1.1
          have stn := stA_N w2 m4 q18.1 f' n1 own
          have mk' := lkF_tr mk n1.2.2.2.2.2.2
          rcases n3 with ⟨n4, n5⟩ | ⟨n4, n5, n6, n7⟩
          · have nz := b1n hb
            refine ⟨m1, Int32.le_trans m2 (Int32.le_of_lt v2), rLo_tr m3 v3 m2, stn, by rw [n4]; exact m5, by rw [n4]; exact m6, fun _ => n2, fun z => absurd (n4.symm.trans z) nz.2, fun i hi hj => ?_, mk'⟩
            rw [n4] at hj
            have z := m9 i hi hj
            rw [rd, n5, e19]
            exact ⟨z.1, lt_sn sb.1 sb.2 z.2⟩
          · have nz := b40 hb m6 n5
            refine ⟨m1, Int32.le_trans m2 (Int32.le_of_lt v2), rLo_tr m3 v3 m2, stn, by rw [n4]; exact nz.1, by rw [n4]; exact nz.2.1, fun _ => n2, fun z => absurd (n4.symm.trans z) nz.2.2, fun i hi hj => ?_, mk'⟩
            rw [n4] at hj
            rw [e19]
            rcases bi_c hi hb m6 hj with e | e
            · subst e
              rw [n6]
              exact ⟨fun _ => sb.1, lt_s2 sb.1 sb.2⟩
            · have z := m9 i hi e
              rw [n7 i hi e]
              exact ⟨z.1, lt_sn sb.1 sb.2 z.2⟩

end
section
set_option maxHeartbeats 1600000
/-! the reference: a function -/
def frG (F R : List Nat) (σ τ : rS) : Prop := (∀ k, k ∉ F → τ.1 k = σ.1 k) ∧ (∀ k, τ.2.1 k = σ.2.1 k) ∧ (∀ k, k ∉ R → τ.2.2.1 k = σ.2.2.1 k) ∧ (∀ k j, τ.2.2.2 k j = σ.2.2.2 k j)
theorem frG_tr {F R : List Nat} {σ τ υ : rS} (h : frG F R σ τ) (g : frG F R τ υ) : frG F R σ υ := ⟨fun k z => (g.1 k z).trans (h.1 k z), fun k => (g.2.1 k).trans (h.2.1 k), fun k z => (g.2.2.1 k z).trans (h.2.2.1 k z), fun k j => (g.2.2.2 k j).trans (h.2.2.2 k j)⟩
theorem frG_refl {F R : List Nat} {σ : rS} : frG F R σ σ := ⟨fun _ _ => rfl, fun _ => rfl, fun _ _ => rfl, fun _ _ => rfl⟩
abbrev fFF : List Nat := [10, 11, 12, 13, 18, 19, 41, 42, 48, 49]
abbrev fRR : List Nat := [25, 26, 27, 28, 29, 30, 31, 32, 33, 34, 35, 36, 38, 39, 43, 44, 45, 50, 51, 52]
theorem frG_3 {σ τ : rS} (h : (∀ k, k ≠ 10 → k ≠ 11 → k ≠ 12 → τ.1 k = σ.1 k) ∧ τ.2 = σ.2) : frG fFF fRR σ τ := ⟨fun k z => h.1 k (fun e => z (by rw [e]; decide)) (fun e => z (by rw [e]; decide)) (fun e => z (by rw [e]; decide)), fun k => by rw [h.2], fun k _ => by rw [h.2], fun k j => by rw [h.2]⟩
theorem frG_4 {σ τ : rS} (h : (∀ k, k ≠ 10 → k ≠ 11 → k ≠ 12 → k ≠ 13 → τ.1 k = σ.1 k) ∧ τ.2 = σ.2) : frG fFF fRR σ τ := ⟨fun k z => h.1 k (fun e => z (by rw [e]; decide)) (fun e => z (by rw [e]; decide)) (fun e => z (by rw [e]; decide)) (fun e => z (by rw [e]; decide)), fun k => by rw [h.2], fun k _ => by rw [h.2], fun k j => by rw [h.2]⟩
theorem frG_B {σ τ : rS} (h : frB σ τ) : frG fFF fRR σ τ := by
  refine ⟨fun k z => h.1 k ?_ ?_ ?_ ?_ ?_ ?_ ?_ ?_, h.2.1, fun k z => h.2.2.1 k ?_ ?_ ?_ ?_ ?_ ?_ ?_ ?_ ?_ ?_ ?_ ?_ ?_ ?_ ?_ ?_ ?_ ?_, h.2.2.2.2⟩ <;> exact fun e => z (by rw [e]; decide)
theorem frG_ri {σ : rS} {k i : Nat} {x : Int32} (hk : k ∈ fRR) : frG fFF fRR σ (riU σ k i x) := ⟨fun _ _ => rfl, fun _ => rfl, fun q z => ri3 (fun e => z (by rw [e]; exact hk)), fun _ _ => rfl⟩
theorem frG_si {σ : rS} {k : Nat} {x : Int32} (hk : k ∈ fFF) : frG fFF fRR σ (siU σ k x) := ⟨fun q z => if_neg (fun e => z (by rw [e]; exact hk)), fun _ => rfl, fun _ _ => rfl, fun _ _ => rfl⟩
/-- first statements of the first n functions -/
def fA (τ : rS) (n : Int32) : Prop := ∀ f : Int32, 0 ≤ f → f < n → rd τ 29 f < τ.1 19
theorem fA_lk {σ τ : rS} {n : Int32} (h : fA σ n) (l : lkF σ τ) : fA τ n := fun f f0 f1 => l _ (h f f0 f1)
/-- from a function's beginning on -/
def fI (σ τ : rS) (B T : Int32) : Prop := frG fFF fRR σ τ ∧ p0 τ B T ∧ tS τ ∧ rHi (σ.2.2.1 39) (τ.2.2.1 39) T ∧ rLo (σ.2.2.1 39) (τ.2.2.1 39) B ∧ (τ.1 11 = 0 → σ.1 10 < τ.1 10 ∧ stA τ B (τ.1 10) ∧ fA τ (σ.1 18))
theorem fI_st {σ τ υ : rS} {B T : Int32} (h : fI σ τ B T) (hf : frG fFF fRR τ υ) (hp : p0 υ B T) (hs : tS υ) (h39 : υ.2.2.1 39 = τ.2.2.1 39) (hr : υ.2.2.1 30 = τ.2.2.1 30 ∧ υ.2.2.1 31 = τ.2.2.1 31 ∧ υ.2.2.1 32 = τ.2.2.1 32 ∧ υ.2.2.1 36 = τ.2.2.1 36 ∧ υ.2.2.1 33 = τ.2.2.1 33 ∧ υ.2.2.1 34 = τ.2.2.1 34 ∧ υ.2.2.1 35 = τ.2.2.1 35) (h19 : υ.1 19 = τ.1 19) (lf : lkF τ υ) (hl : υ.1 11 = 0 → τ.1 11 = 0 ∧ τ.1 10 ≤ υ.1 10) : fI σ υ B T := by
  obtain ⟨h1, h2, h3, h4, h5, h6⟩ := h
  have hA := aI_at (aI_refl h2)
  refine ⟨frG_tr h1 hf, hp, hs, by rw [h39]; exact h4, by rw [h39]; exact h5, fun f => ?_⟩
  obtain ⟨l1, l2⟩ := hl f
  obtain ⟨m1, m2, m3⟩ := h6 l1
  exact ⟨Int32.lt_of_lt_of_le m1 l2, stA_up h2.1.1 hA.2.2.2.2 m2 (hf.2.2.1 5 (by decide)) (hf.2.2.1 7 (by decide)) h19 hr (by rw [h39]; exact rLo_refl) l2, fA_lk m3 lf⟩
theorem tS_2 {τ υ : rS} (h : tS τ) (e : υ.2 = τ.2) : tS υ := by show tyS _ _ _ _ _ _ _ _; rw [e]; exact h
theorem fI_2 {σ τ υ : rS} {B T : Int32} (h : fI σ τ B T) (a : aI τ υ B T) (e : υ.2 = τ.2) (hf : frG fFF fRR τ υ) (h19 : υ.1 19 = τ.1 19) (hl : υ.1 11 = 0 → τ.1 11 = 0 ∧ τ.1 10 < υ.1 10) : fI σ υ B T :=
  fI_st h hf a.2.1 (tS_2 h.2.2.1 e) (by rw [e]) ⟨by rw [e], by rw [e], by rw [e], by rw [e], by rw [e], by rw [e], by rw [e]⟩ h19 (lkF_o (by rw [e]) h19) (fun f => ⟨(hl f).1, Int32.le_of_lt (hl f).2⟩)
theorem p0_f41 {σ : rS} {B T x : Int32} (h : p0 σ B T) (h0 : 0 ≤ x) (h1 : x < 10) : p0 (siU σ 41 x) B T := by
  obtain ⟨t1, t2, t3, t4, t5, t6, t7⟩ := h
  refine ⟨t1, t2, ?_, t4, t5, t6, t7⟩
  show tyF (σ.1 15) (σ.1 16) (σ.1 17) (σ.1 18) (σ.1 19) (σ.1 40) x (σ.1 42)
  clear t1 t2 t4 t5 t6 t7
  grind [tyF]
theorem p0_f18 {σ : rS} {B T x : Int32} (h : p0 σ B T) (h0 : 0 ≤ x) (h1 : x ≤ 10) : p0 (siU σ 18 x) B T := by
  obtain ⟨t1, t2, t3, t4, t5, t6, t7⟩ := h
  refine ⟨t1, t2, ?_, t4, t5, t6, t7⟩
  show tyF (σ.1 15) (σ.1 16) (σ.1 17) x (σ.1 19) (σ.1 40) (σ.1 41) (σ.1 42)
  clear t1 t2 t4 t5 t6 t7
  grind [tyF]
theorem p0_nr {σ : rS} {B T x : Int32} {k i : Nat} (h : p0 σ B T) (hk : (k = 26 ∧ 0 ≤ x ∧ x < 5) ∨ (k = 27 ∧ 0 ≤ x ∧ x < 9) ∨ (k = 28 ∧ 0 ≤ x ∧ x < 131074) ∨ (k = 25 ∧ 0 ≤ x ∧ x < 131074) ∨ k = 29) : p0 (riU σ k i x) B T := by
  obtain ⟨t1, t2, t3, t4, t5, t6, t7⟩ := h
  have rr : ∀ q, q ≠ k → (riU σ k i x).2.2.1 q = σ.2.2.1 q := fun q hq => ri3 hq
  refine ⟨?_, t2, t3, ?_, ?_, t6, t7⟩
  · obtain ⟨u1, u2, u3, u4, u5, u6⟩ := t1
    exact ⟨u1, u2, u3, ⟨by rw [rd, rr 5 (by omega)]; exact u4.1, u4.2⟩, u5, u6⟩
  · show tyN _ _ _ _ _ _
    obtain ⟨u1, u2, u3, u4, u5, u6⟩ := t4
    rcases hk with ⟨rfl, a, b⟩ | ⟨rfl, a, b⟩ | ⟨rfl, a, b⟩ | ⟨rfl, a, b⟩ | rfl
    · rw [rr 20 (by decide), rr 22 (by decide), rr 25 (by decide), rr 28 (by decide), rr 27 (by decide), ri_row]; exact ⟨u1, u2, u3, u4, eB_upd u5 a b, u6⟩
    · rw [rr 20 (by decide), rr 22 (by decide), rr 25 (by decide), rr 28 (by decide), rr 26 (by decide), ri_row]; exact ⟨u1, u2, u3, u4, u5, eB_upd u6 a b⟩
    · rw [rr 20 (by decide), rr 22 (by decide), rr 25 (by decide), rr 26 (by decide), rr 27 (by decide), ri_row]; exact ⟨u1, u2, u3, eB_upd u4 a b, u5, u6⟩
    · rw [rr 20 (by decide), rr 22 (by decide), rr 28 (by decide), rr 26 (by decide), rr 27 (by decide), ri_row]; exact ⟨u1, u2, eB_upd u3 a b, u4, u5, u6⟩
    · rw [rr 20 (by decide), rr 22 (by decide), rr 25 (by decide), rr 28 (by decide), rr 26 (by decide), rr 27 (by decide)]; exact ⟨u1, u2, u3, u4, u5, u6⟩
  · show tyA _ _
    rw [rr 23 (by omega), rr 24 (by omega)]; exact t5
theorem tS_nr {σ : rS} {x : Int32} {k i : Nat} (h : tS σ) (hk : k = 25 ∨ k = 26 ∨ k = 27 ∨ k = 28 ∨ (k = 29 ∧ -1 ≤ x ∧ x < 150)) : tS (riU σ k i x) := by
  have rr : ∀ q, q ≠ k → (riU σ k i x).2.2.1 q = σ.2.2.1 q := fun q hq => ri3 hq
  show tyS _ _ _ _ _ _ _ _
  obtain ⟨u1, u2⟩ := h
  rw [rr 33 (by omega), rr 34 (by omega), rr 35 (by omega), rr 36 (by omega), rr 38 (by omega), rr 43 (by omega), rr 44 (by omega)]
  refine ⟨?_, u2⟩
  by_cases e : k = 29
  · subst e
    rw [ri_row]
    rcases hk with q | q | q | q | q
    · exact absurd q (by decide)
    · exact absurd q (by decide)
    · exact absurd q (by decide)
    · exact absurd q (by decide)
    · exact eB_upd u1 q.2.1 q.2.2
  · rw [rr 29 (fun z => e z.symm)]; exact u1
theorem fI_nr {σ τ : rS} {B T x : Int32} {k i : Nat} (h : fI σ τ B T) (hk : (k = 26 ∧ 0 ≤ x ∧ x < 5) ∨ (k = 27 ∧ 0 ≤ x ∧ x < 9) ∨ (k = 28 ∧ 0 ≤ x ∧ x < 131074) ∨ (k = 25 ∧ 0 ≤ x ∧ x < 131074) ∨ (k = 29 ∧ x = -1)) : fI σ (riU τ k i x) B T := by
  have rr : ∀ q, q ≠ k → (riU τ k i x).2.2.1 q = τ.2.2.1 q := fun q hq => ri3 hq
  refine fI_st h (frG_ri ?_) (p0_nr h.2.1 ?_) (tS_nr h.2.2.1 ?_) (rr 39 (by omega)) ⟨rr 30 (by omega), rr 31 (by omega), rr 32 (by omega), rr 36 (by omega), rr 33 (by omega), rr 34 (by omega), rr 35 (by omega)⟩ rfl ?_ (fun f => ⟨f, Int32.le_refl _⟩)
  · rcases hk with q | q | q | q | q <;> (rw [q.1]; decide)
  · rcases hk with q | q | q | q | q
    · exact Or.inl q
    · exact Or.inr (Or.inl q)
    · exact Or.inr (Or.inr (Or.inl q))
    · exact Or.inr (Or.inr (Or.inr (Or.inl q)))
    · exact Or.inr (Or.inr (Or.inr (Or.inr q.1)))
  · rcases hk with q | q | q | q | q
    · exact Or.inr (Or.inl q.1)
    · exact Or.inr (Or.inr (Or.inl q.1))
    · exact Or.inr (Or.inr (Or.inr (Or.inl q.1)))
    · exact Or.inl q.1
    · exact Or.inr (Or.inr (Or.inr (Or.inr ⟨q.1, by rw [q.2]; decide, by rw [q.2]; decide⟩)))
  · by_cases e : 29 = k
    · subst e
      have ex : x = -1 := by
        rcases hk with q | q | q | q | q
        · exact absurd q.1 (by decide)
        · exact absurd q.1 (by decide)
        · exact absurd q.1 (by decide)
        · exact absurd q.1 (by decide)
        · exact q.2
      intro j hj
      rw [ri4, ri1]
      split
      · rw [ex]; exact Int32.lt_of_lt_of_le (by decide) (st_b h.2.1).1
      · exact hj
    · exact lkF_o (rr 29 e) rfl
theorem f_b {σ : rS} {B T : Int32} (h : p0 σ B T) : 0 ≤ σ.1 18 ∧ σ.1 18 ≤ 10 := by
  have := h.2.2.1
  clear h
  grind [tyF]
theorem f_up {x : Int32} (h0 : 0 ≤ x) (h1 : x < 10) : 0 ≤ x + 1 ∧ x + 1 ≤ 10 := by grind
theorem g_up {x : Int32} (h0 : 0 ≤ x) (h1 : x < 4) : 0 ≤ x + 1 ∧ x + 1 < 5 ∧ x + 1 < 9 ∧ x < 8 := by grind
theorem g_nl {x : Int32} (h0 : ¬ (10 : Int32) ≤ x) : x < 10 := by grind
theorem fI_open {σ τ υ : rS} {B T c : Int32} (h : fI σ τ B T) (q : ((∀ k, k ≠ 10 → k ≠ 11 → k ≠ 12 → k ≠ 13 → υ.1 k = τ.1 k) ∧ υ.2 = τ.2) ∧ tK υ B T ∧ (υ.1 11 = 0 ↔ τ.1 11 = 0 ∧ rd τ 5 (τ.1 10) = 3 ∧ rd τ 7 (τ.1 10) = c ∧ rd τ 5 (τ.1 10 + 1) ≠ 4 ∧ τ.1 13 ≠ 40) ∧ (υ.1 11 = 0 → υ.1 10 = τ.1 10 + 1 ∧ υ.1 13 = τ.1 13 + 1)) : fI σ υ B T ∧ υ.2 = τ.2 ∧ (υ.1 11 = 0 → τ.1 11 = 0 ∧ τ.1 10 < υ.1 10 ∧ υ.1 13 = τ.1 13 + 1) := by
  have a := aI_open (aI_refl h.2.1) q
  exact ⟨fI_2 h a.1 a.2.1 (frG_4 q.1) (q.1.1 19 (by decide) (by decide) (by decide) (by decide)) (fun f => ⟨(a.2.2 f).1, (a.2.2 f).2.1⟩), a.2.1, fun f => ⟨(a.2.2 f).1, (a.2.2 f).2.1, (a.2.2 f).2.2.2.1⟩⟩
theorem fI_close {σ τ υ : rS} {B T c : Int32} (h : fI σ τ B T) (q : ((∀ k, k ≠ 10 → k ≠ 11 → k ≠ 12 → k ≠ 13 → υ.1 k = τ.1 k) ∧ υ.2 = τ.2) ∧ tK υ B T ∧ (υ.1 11 = 0 ↔ τ.1 11 = 0 ∧ rd τ 5 (τ.1 10) = 3 ∧ rd τ 7 (τ.1 10) = c ∧ rd τ 5 (τ.1 10 + 1) ≠ 4) ∧ (υ.1 11 = 0 → υ.1 10 = τ.1 10 + 1 ∧ υ.1 13 = τ.1 13 - 1)) : fI σ υ B T ∧ υ.2 = τ.2 ∧ (υ.1 11 = 0 → τ.1 11 = 0 ∧ τ.1 10 < υ.1 10 ∧ υ.1 13 = τ.1 13 - 1) := by
  have a := aI_close (aI_refl h.2.1) q
  exact ⟨fI_2 h a.1 a.2.1 (frG_4 q.1) (q.1.1 19 (by decide) (by decide) (by decide) (by decide)) (fun f => ⟨(a.2.2 f).1, (a.2.2 f).2.1⟩), a.2.1, fun f => ⟨(a.2.2 f).1, (a.2.2 f).2.1, (a.2.2 f).2.2.2.1⟩⟩
theorem fI_go {σ τ υ : rS} {B T : Int32} (h : fI σ τ B T) (q : ((∀ k, k ≠ 10 → k ≠ 11 → k ≠ 12 → υ.1 k = τ.1 k) ∧ υ.2 = τ.2) ∧ tK υ B T ∧ (τ.1 11 ≠ 0 → υ = τ) ∧ (τ.1 11 = 0 → υ.1 10 = τ.1 10 + 1) ∧ (υ.1 11 = 0 ↔ τ.1 11 = 0 ∧ rd τ 5 (τ.1 10 + 1) ≠ 4)) : fI σ υ B T ∧ υ.2 = τ.2 ∧ (υ.1 11 = 0 → τ.1 11 = 0 ∧ τ.1 10 < υ.1 10) := by
  have a := aI_go (aI_refl h.2.1) q
  exact ⟨fI_2 h a.1 a.2.1 (frG_3 q.1) (q.1.1 19 (by decide) (by decide) (by decide)) (fun f => ⟨(a.2.2 f).1, (a.2.2 f).2.1⟩), a.2.1, fun f => ⟨(a.2.2 f).1, (a.2.2 f).2.1⟩⟩
theorem fI_fresh {σ τ υ : rS} {B T v m n : Int32} (h : fI σ τ B T) (q : ((∀ k, k ≠ 10 → k ≠ 11 → k ≠ 12 → υ.1 k = τ.1 k) ∧ υ.2 = τ.2) ∧ tK υ B T ∧ v = τ.1 10 ∧ (τ.1 11 ≠ 0 → υ = τ) ∧ (υ.1 11 = 0 → τ.1 11 = 0 ∧ rd τ 5 (τ.1 10) = 1 ∧ m < n ∧ υ.1 10 = τ.1 10 + 1 ∧ rd τ 5 (υ.1 10) ≠ 4)) : fI σ υ B T ∧ υ.2 = τ.2 ∧ (υ.1 11 = 0 → τ.1 11 = 0 ∧ τ.1 10 < υ.1 10 ∧ m < n) ∧ 0 ≤ v ∧ v < 131074 := by
  have a := aI_fr (aI_refl h.2.1) q.2.1 ⟨fun k z1 z2 z3 _ => q.1.1 k z1 z2 z3, q.1.2⟩ (fun z e => z (q.2.2.2.2 e).1)
  have l := fun f => at_up h.2.1.1 q.2.1.2.2.2.2.2 (q.2.2.2.2 f).2.2.2.1
  exact ⟨fI_2 h a q.1.2 (frG_3 q.1) (q.1.1 19 (by decide) (by decide) (by decide)) (fun f => ⟨(q.2.2.2.2 f).1, l f⟩), q.1.2, fun f => ⟨(q.2.2.2.2 f).1, l f, (q.2.2.2.2 f).2.2.1⟩, by rw [q.2.2.1]; exact (aI_at (aI_refl h.2.1)).2.2.2⟩
theorem fI_ts {σ τ υ : rS} {B T : Int32} (h : fI σ τ B T) (q : frB τ υ ∧ p0 υ B T ∧ tS υ ∧ rHi (τ.2.2.1 39) (υ.2.2.1 39) T ∧ rLo (τ.2.2.1 39) (υ.2.2.1 39) B ∧ (τ.1 11 ≠ 0 → υ.1 11 ≠ 0) ∧ (υ.1 11 = 0 → τ.1 11 = 0 ∧ τ.1 10 ≤ υ.1 10 ∧ rLo (τ.2.2.1 39) (υ.2.2.1 39) (τ.1 10) ∧ stA υ B (υ.1 10) ∧ υ.1 13 = 1 ∧ lkF τ υ)) : fI σ υ B T := by
  obtain ⟨h1, h2, h3, h4, h5, h6⟩ := h
  obtain ⟨q1, q2, q3, q4, q5, q6, q7⟩ := q
  refine ⟨frG_tr h1 (frG_B q1), q2, q3, rHi_tr h4 q4, rLo_tr h5 q5 (Int32.le_refl _), fun f => ?_⟩
  obtain ⟨m1, m2, m3, m4, m5, m6⟩ := q7 f
  exact ⟨Int32.lt_of_lt_of_le (h6 m1).1 m2, m4, fA_lk (h6 m1).2.2 m6⟩
theorem fI_si {σ τ : rS} {B T x : Int32} {k : Nat} (h : fI σ τ B T) (hk : k = 18 ∨ k = 41) (hp : p0 (siU τ k x) B T) : fI σ (siU τ k x) B T := by
  have e : ∀ q, q ≠ 18 → q ≠ 41 → (siU τ k x).1 q = τ.1 q := fun q z1 z2 => if_neg (by rcases hk with rfl | rfl; exact z1; exact z2)
  have e10 := e 10 (by decide) (by decide)
  have e11 := e 11 (by decide) (by decide)
  exact fI_st h (frG_si (by rcases hk with rfl | rfl <;> decide)) hp h.2.2.1 rfl ⟨rfl, rfl, rfl, rfl, rfl, rfl, rfl⟩ (e 19 (by decide) (by decide)) (lkF_o rfl (e 19 (by decide) (by decide))) (fun f => ⟨by rw [← e11]; exact f, by rw [e10]; exact Int32.le_refl _⟩)
theorem tellFunc_c {C : rCx} (hC : cOK C) (B T : Int32) {σ : rS}  {Q : rS → Prop} (hp : p0 σ B T ∧ tS σ ∧ σ.1 11 = 0 ∧ σ.1 13 = 0 ∧ stA σ B (σ.1 10) ∧ rd σ 5 (σ.1 10) ≠ 5 ∧ fA σ (σ.1 18)) (h : ∀ (σ' : rS), (fI σ σ' B T ∧ (σ'.1 11 = 0 → σ'.1 13 = 0 ∧ fA σ' (σ'.1 18))) → Q σ') : cV C 11 m_tellFunc [.ref (co C)] σ Q := by
  refine m_tellFunc_run hC ?_
  unfold w_tellFunc_0
  obtain ⟨hP, hS, h11, ho, hst, hn, hfa⟩ := hp
  have hA := aI_at (aI_refl hP)
  have hj218 : ∀ (l1 : Int32) (τ : rS), (fI σ τ B T ∧ 0 ≤ l1 ∧ l1 < 131074 ∧ (τ.1 11 = 0 → (τ.1 18 < 10 ∧ τ.1 18 = σ.1 18 ∧ rd τ 29 (σ.1 18) < τ.1 19) ∧ τ.1 13 = 1)) → w_tellFunc_218 C Q  l1 τ := by
    rintro y218_1 τ218 j218
    unfold w_tellFunc_218
    refine close_c hC B T ?_ (fun σ_1 q2 => ?_)
    · clear h; exact j218.1.2.1.1  -- p1
    refine open_c hC B T ?_ (fun σ_3 q4 => ?_)
    · clear h; exact q2.2.1  -- p2
    have a1 := fI_close j218.1 q2
    have a2 := fI_open a1.1 q4
    refine tellStatements_c hC B T ?_ (fun σ_5 q6 => ?_)
    · clear h; exact ⟨a2.1.2.1, a2.1.2.2.1, fun f => ⟨by obtain ⟨f1, l1, o1⟩ := a2.2.2 f; obtain ⟨f0, l0, o0⟩ := a1.2.2 f1; rw [o1, o0, (j218.2.2.2 f0).2]; rfl, (a2.1.2.2.2.2.2 f).2.1⟩⟩  -- p3
    have a3 := fI_ts a2.1 q6
    refine close_c hC B T ?_ (fun σ_7 q8 => ?_)
    · clear h; exact a3.2.1.1  -- p4
    have a4 := fI_close a3 q8
    refine isRight_c hC  (fun r9 q11 => ?_)
    refine ⟨fun c12 => ?_, fun c12 => ?_⟩
    · skip
      refine h _ ?_
      · clear h; exact ⟨a4.1, fun f => absurd c12 (q11.2.mpr f)⟩  -- q5
    · skip
      have f7 := q11.2.mp c12
      obtain ⟨f5, l5, o5⟩ := a4.2.2 f7
      obtain ⟨f3, -, -, -, o13, lf6⟩ := q6.2.2.2.2.2.2 f5
      obtain ⟨f1, l1, o1⟩ := a2.2.2 f3
      obtain ⟨f0, l0, o0⟩ := a1.2.2 f1
      have e18 : σ_7.1 18 = τ218.1 18 := by rw [q8.1.1 18 (by decide) (by decide) (by decide) (by decide), q6.1.1 18 (by decide) (by decide) (by decide) (by decide) (by decide) (by decide) (by decide) (by decide), q4.1.1 18 (by decide) (by decide) (by decide) (by decide), q2.1.1 18 (by decide) (by decide) (by decide) (by decide)]
      have l18 : σ_7.1 18 < 10 := by rw [e18]; exact (j218.2.2.2 f0).1.1
      have z18 := (f_b a4.1.2.1).1
      refine ⟨ib_10.mpr ?_, ?_⟩
      · clear h; exact ⟨z18, l18⟩  -- b6
      intro σ_13 hσ_13
      intro σ_14 hσ_14
      refine h _ ?_
      · clear h; have a5 : fI σ σ_13 B T := by rw [hσ_13]; exact fI_nr a4.1 (Or.inr (Or.inr (Or.inr (Or.inl ⟨rfl, j218.2.1, j218.2.2.1⟩))))
        have e13 : σ_13.1 18 = σ_7.1 18 := by rw [hσ_13, ri1]
        have u := f_up z18 l18
        have a6 : fI σ σ_14 B T := by rw [hσ_14, e13]; exact fI_si a5 (Or.inl rfl) (p0_f18 a5.2.1 u.1 u.2)
        have g1 : rd σ_1 29 (σ.1 18) < σ_1.1 19 := by rw [rd, a1.2.1, q2.1.1 19 (by decide) (by decide) (by decide) (by decide)]; exact (j218.2.2.2 f0).1.2.2
        have g3 : rd σ_3 29 (σ.1 18) < σ_3.1 19 := by rw [rd, a2.2.1, q4.1.1 19 (by decide) (by decide) (by decide) (by decide)]; exact g1
        have g5 : rd σ_5 29 (σ.1 18) < σ_5.1 19 := lf6 _ g3
        have g7 : rd σ_7 29 (σ.1 18) < σ_7.1 19 := by rw [rd, a4.2.1, q8.1.1 19 (by decide) (by decide) (by decide) (by decide)]; exact g5
        have e14 : σ_14.2.2.1 29 = σ_7.2.2.1 29 ∧ σ_14.1 19 = σ_7.1 19 ∧ σ_14.1 18 = σ.1 18 + 1 := ⟨by rw [hσ_14, si2, hσ_13, ri3 (by decide)], by rw [hσ_14, si1, if_neg (by decide), hσ_13, ri1], by rw [hσ_14, si1, if_pos rfl, e13, e18, (j218.2.2.2 f0).1.2.1]⟩
        have s18 : σ_7.1 18 = σ.1 18 := by rw [e18, (j218.2.2.2 f0).1.2.1]
        refine ⟨a6, fun _ => ⟨?_, fun f f0 f1 => ?_⟩⟩
        · rw [hσ_14, si1, if_neg (by decide), hσ_13, ri1, o5, o13]; rfl
        · rw [rd, e14.1, e14.2.1]
          rw [e14.2.2] at f1
          rcases s_cs (s18 ▸ z18) (Int32.le_of_lt (Int32.lt_of_lt_of_le (s18 ▸ l18) (by decide))) f1 with e | e
          · rw [e]; exact g7
          · exact (a4.1.2.2.2.2.2 f7).2.2 f f0 e
  have hh102 : ∀ (l1 : Int32) (l2 : Int32) (τ : rS), (fI σ τ B T ∧ 0 ≤ l1 ∧ l1 < 131074 ∧ nb l2 ∧ (τ.1 11 = 0 → (τ.1 18 < 10 ∧ τ.1 18 = σ.1 18 ∧ rd τ 29 (σ.1 18) < τ.1 19) ∧ τ.1 13 = 1 ∧ rd τ 26 (τ.1 41) = rd τ 27 (τ.1 41))) → w_tellFunc_102 C Q  l1 l2 τ := by
    intro z1 z2 τi hinit
    unfold w_tellFunc_102
    refine ⟨fun n l1 l2 τ => n = eMs (τ.1 11) 0 (if l2 = 0 then 2 else 0) (τ.1 10) T ∧ (fI σ τ B T ∧ 0 ≤ l1 ∧ l1 < 131074 ∧ nb l2 ∧ (τ.1 11 = 0 → (τ.1 18 < 10 ∧ τ.1 18 = σ.1 18 ∧ rd τ 29 (σ.1 18) < τ.1 19) ∧ τ.1 13 = 1 ∧ rd τ 26 (τ.1 41) = rd τ 27 (τ.1 41))), ⟨_, rfl, hinit⟩, ?_⟩
    clear hinit
    rintro n102 x102_1 x102_2 σ102 ⟨hn102, i102⟩
    have hj206 : ∀ (l1 : Int32) (s0 : Int32) (τ : rS), (σ102.1 11 = 0 ∧ x102_2 ≠ 0 ∧ fI σ τ B T ∧ 0 ≤ l1 ∧ l1 < 131074 ∧ nb s0 ∧ (τ.1 11 ≠ 0 → s0 = 0) ∧ (τ.1 11 = 0 → σ102.1 10 < τ.1 10 ∧ (s0 ≠ 0 → rd τ 5 (τ.1 10) = 3) ∧ (τ.1 18 < 10 ∧ τ.1 18 = σ.1 18 ∧ rd τ 29 (σ.1 18) < τ.1 19) ∧ τ.1 13 = 1 ∧ rd τ 26 (τ.1 41) = rd τ 27 (τ.1 41))) → w_tellFunc_206 C Q (fun l1' l2' τ => ∃ k < n102, (fun n l1 l2 τ => n = eMs (τ.1 11) 0 (if l2 = 0 then 2 else 0) (τ.1 10) T ∧ (fI σ τ B T ∧ 0 ≤ l1 ∧ l1 < 131074 ∧ nb l2 ∧ (τ.1 11 = 0 → (τ.1 18 < 10 ∧ τ.1 18 = σ.1 18 ∧ rd τ 29 (σ.1 18) < τ.1 19) ∧ τ.1 13 = 1 ∧ rd τ 26 (τ.1 41) = rd τ 27 (τ.1 41)))) k l1' l2' τ) l1 s0 τ := by
      rintro y206_1 y206_s0 τ206 j206
      unfold w_tellFunc_206
      refine ⟨fun c15 => ?_, fun c15 => ?_⟩
      · skip
        refine ⟨_, ?_, rfl, ?_⟩
        · clear h; obtain ⟨k1, k2, k3, k4, k5, k6, k7, k8⟩ := j206
          show eMs (τ206.1 11) 0 (if y206_s0 = 0 then 2 else 0) (τ206.1 10) T < n102
          rw [if_pos c15, hn102, k1, if_neg k2]
          exact eMs_lt (by decide) (fun _ _ z => absurd rfl z) (aI_at (aI_refl i102.1.2.1)).2.2.2.1 k3.2.1.1.2.2.2.2.2
        · clear h; obtain ⟨k1, k2, k3, k4, k5, k6, k7, k8⟩ := j206
          exact ⟨k3, k4, k5, k6, fun f => (k8 f).2.2⟩
      · skip
        refine go_c hC B T ?_ (fun σ_16 q17 => ?_)
        · clear h; obtain ⟨k1, k2, k3, k4, k5, k6, k7, k8⟩ := j206
          exact ⟨k3.2.1.1, fun f => by rw [(k8 f).2.1 c15]; decide⟩
        refine ⟨_, ?_, rfl, ?_⟩
        · clear h; obtain ⟨k1, k2, k3, k4, k5, k6, k7, k8⟩ := j206
          have b := fI_go k3 q17
          have f0 : τ206.1 11 = 0 := Decidable.byContradiction (fun z => c15 (k7 z))
          show eMs (σ_16.1 11) 0 (if y206_s0 = 0 then 2 else 0) (σ_16.1 10) T < n102
          rw [if_neg c15, hn102, k1, if_neg k2]
          exact eMs_lt (by decide) (fun f _ _ => Int32.lt_trans (k8 f0).1 (b.2.2 f).2) (aI_at (aI_refl i102.1.2.1)).2.2.2.1 b.1.2.1.1.2.2.2.2.2
        · clear h; obtain ⟨k1, k2, k3, k4, k5, k6, k7, k8⟩ := j206
          have b := fI_go k3 q17
          refine ⟨b.1, k4, k5, k6, fun f => ?_⟩
          have w := k8 (b.2.2 f).1
          have g := fun k (z1 : k ≠ 10) (z2 : k ≠ 11) (z3 : k ≠ 12) => q17.1.1 k z1 z2 z3
          exact ⟨⟨by rw [g 18 (by decide) (by decide) (by decide)]; exact w.2.2.1.1, by rw [g 18 (by decide) (by decide) (by decide)]; exact w.2.2.1.2.1, by rw [rd, b.2.1, g 19 (by decide) (by decide) (by decide)]; exact w.2.2.1.2.2⟩, by rw [g 13 (by decide) (by decide) (by decide)]; exact w.2.2.2.1, by simp only [rd]; rw [b.2.1, g 41 (by decide) (by decide) (by decide)]; exact w.2.2.2.2⟩
    have hj185 : ∀ (l1 : Int32) (τ : rS), (σ102.1 11 = 0 ∧ x102_2 ≠ 0 ∧ fI σ τ B T ∧ 0 ≤ l1 ∧ l1 < 131074 ∧ (τ.1 11 = 0 → σ102.1 10 < τ.1 10 ∧ (τ.1 18 < 10 ∧ τ.1 18 = σ.1 18 ∧ rd τ 29 (σ.1 18) < τ.1 19) ∧ τ.1 13 = 1 ∧ rd τ 26 (τ.1 41) = rd τ 27 (τ.1 41))) → w_tellFunc_185 C Q (fun l1' l2' τ => ∃ k < n102, (fun n l1 l2 τ => n = eMs (τ.1 11) 0 (if l2 = 0 then 2 else 0) (τ.1 10) T ∧ (fI σ τ B T ∧ 0 ≤ l1 ∧ l1 < 131074 ∧ nb l2 ∧ (τ.1 11 = 0 → (τ.1 18 < 10 ∧ τ.1 18 = σ.1 18 ∧ rd τ 29 (σ.1 18) < τ.1 19) ∧ τ.1 13 = 1 ∧ rd τ 26 (τ.1 41) = rd τ 27 (τ.1 41)))) k l1' l2' τ) l1 τ := by
      rintro y185_1 τ185 j185
      unfold w_tellFunc_185
      obtain ⟨k1, k2, k3, k4, k5, k6⟩ := j185
      refine isRight_c hC  (fun r18 q20 => ?_)
      refine ⟨fun c21 => ?_, fun c21 => ?_⟩
      · skip
        refine hj206 _ _ _ ?_
        · clear h; exact ⟨k1, k2, k3, k4, k5, nb_0, fun _ => rfl, fun f => absurd c21 (q20.2.mpr f)⟩  -- k13
      · skip
        refine isAt_c hC  ?_ (fun r22 q24 => ?_)
        · clear h; exact (aI_at (aI_refl k3.2.1)).2.2.2  -- p14
        refine ⟨fun c25 => ?_, fun c25 => ?_⟩
        · skip
          refine hj206 _ _ _ ?_
          · clear h; exact ⟨k1, k2, k3, k4, k5, nb_0, fun _ => rfl, fun f => ⟨(k6 f).1, fun z => absurd rfl z, (k6 f).2⟩⟩  -- k15
        · skip
          refine hj206 _ _ _ ?_
          · clear h; exact ⟨k1, k2, k3, k4, k5, nb_1, fun z => absurd (q20.2.mp c21) z, fun f => ⟨(k6 f).1, fun _ => (q24.2.mp c25).1, (k6 f).2⟩⟩  -- k16
    refine isRight_c hC  (fun r26 q28 => ?_)
    refine ⟨fun c29 => ?_, fun c29 => ?_⟩
    · skip
      refine hj218 _ _ ?_
      · clear h; exact ⟨i102.1, i102.2.1, i102.2.2.1, fun f => absurd c29 (q28.2.mpr f)⟩  -- k17
    · skip
      refine ⟨fun c30 => ?_, fun c30 => ?_⟩
      · skip
        refine hj218 _ _ ?_
        · clear h; exact ⟨i102.1, i102.2.1, i102.2.2.1, fun f => ⟨(i102.2.2.2.2 f).1, (i102.2.2.2.2 f).2.1⟩⟩  -- k18
      · skip
        refine ⟨ib_10.mpr ?_, ?_⟩
        · clear h; exact fn_b i102.1.2.1  -- b19
        refine fresh_c hC B T ?_ (fun r31 σ_32 q33 => ?_)
        · clear h; exact ⟨i102.1.2.1.1, i102.1.2.1.2.2.1, i102.1.2.1.2.2.2.1⟩  -- p20
        have f := q28.2.mp c29
        have b := fI_fresh i102.1 q33
        have w := i102.2.2.2.2 f
        have g := fun k (z1 : k ≠ 10) (z2 : k ≠ 11) (z3 : k ≠ 12) => q33.1.1 k z1 z2 z3
        refine isRight_c hC  (fun r34 q36 => ?_)
        refine ⟨fun c37 => ?_, fun c37 => ?_⟩
        · skip
          refine hj185 _ _ ?_
          · clear h; exact ⟨f, c30, b.1, i102.2.1, i102.2.2.1, fun f' => absurd c37 (q36.2.mpr f')⟩  -- k21
        · skip
          have f' := q36.2.mp c37
          have hv : rd σ_32 27 (σ_32.1 41) < 4 := by simp only [rd]; rw [b.2.1, g 41 (by decide) (by decide) (by decide)]; exact (b.2.2.1 f').2.2
          have v0 : 0 ≤ rd σ_32 27 (σ_32.1 41) := (vr_b b.1.2.1 _).1
          have hfn := fn_b b.1.2.1
          have gu := g_up v0 hv
          have w2 : rd σ_32 26 (σ_32.1 41) = rd σ_32 27 (σ_32.1 41) := by simp only [rd]; rw [b.2.1, g 41 (by decide) (by decide) (by decide)]; exact w.2.2
          refine ⟨ib_10.mpr ?_, ?_⟩
          · clear h; exact hfn  -- b22
          refine ⟨ib_80.mpr ?_, ?_⟩
          · clear h; exact ix_b hfn.1 hfn.2 v0 gu.2.2.2  -- b23
          intro σ_38 hσ_38
          refine ⟨ib_10.mpr ?_, ?_⟩
          · clear h; rw [hσ_38, ri1]; exact hfn  -- b24
          refine ⟨ib_10.mpr ?_, ?_⟩
          · clear h; rw [hσ_38, ri1]; exact hfn  -- b25
          intro σ_39 hσ_39
          refine ⟨ib_10.mpr ?_, ?_⟩
          · clear h; rw [hσ_39, ri1, hσ_38, ri1]; exact hfn  -- b26
          refine ⟨ib_10.mpr ?_, ?_⟩
          · clear h; rw [hσ_39, ri1, hσ_38, ri1]; exact hfn  -- b27
          intro σ_40 hσ_40
          refine hj185 _ _ ?_
          · clear h; have e38 : ∀ k, σ_38.1 k = σ_32.1 k := fun k => by rw [hσ_38, ri1]
            have e39 : ∀ k, σ_39.1 k = σ_32.1 k := fun k => by rw [hσ_39, ri1, e38]
            have e40 : ∀ k, σ_40.1 k = σ_32.1 k := fun k => by rw [hσ_40, ri1, e39]
            have x27 : σ_38.2.2.1 27 (σ_38.1 41).toNatClampNeg = rd σ_32 27 (σ_32.1 41) := by rw [e38, hσ_38, ri3 (by decide)]
            have x26 : σ_39.2.2.1 26 (σ_39.1 41).toNatClampNeg = rd σ_32 27 (σ_32.1 41) := by rw [e39, hσ_39, ri3 (by decide), hσ_38, ri3 (by decide)]; exact w2
            have c1 : fI σ σ_38 B T := by rw [hσ_38]; exact fI_nr b.1 (Or.inr (Or.inr (Or.inl ⟨rfl, b.2.2.2⟩)))
            have c2 : fI σ σ_39 B T := by rw [hσ_39, x27]; exact fI_nr c1 (Or.inr (Or.inl ⟨rfl, gu.1, gu.2.2.1⟩))
            have c3 : fI σ σ_40 B T := by rw [hσ_40, x26]; exact fI_nr c2 (Or.inl ⟨rfl, gu.1, gu.2.1⟩)
            refine ⟨f, c30, c3, i102.2.1, i102.2.2.1, fun _ => ⟨by rw [e40]; exact (b.2.2.1 f').2.1, ⟨by rw [e40, g 18 (by decide) (by decide) (by decide)]; exact w.1.1, by rw [e40, g 18 (by decide) (by decide) (by decide)]; exact w.1.2.1, by rw [rd, e40, hσ_40, ri3 (by decide), hσ_39, ri3 (by decide), hσ_38, ri3 (by decide), b.2.1, g 19 (by decide) (by decide) (by decide)]; exact w.1.2.2⟩, by rw [e40, g 13 (by decide) (by decide) (by decide)]; exact w.2.1, ?_⟩⟩
            have y26 : rd σ_40 26 (σ_40.1 41) = rd σ_32 27 (σ_32.1 41) + 1 := by rw [rd, e40, hσ_40, x26, e39, ri4, if_pos rfl]
            have y27 : rd σ_40 27 (σ_40.1 41) = rd σ_32 27 (σ_32.1 41) + 1 := by rw [rd, e40, hσ_40, ri3 (by decide), hσ_39, x27, e38, ri4, if_pos rfl]
            rw [y26, y27]
  have hj74 : ∀ (l1 : Int32) (τ : rS), (fI σ τ B T ∧ 0 ≤ l1 ∧ l1 < 131074 ∧ (τ.1 11 = 0 → (τ.1 18 < 10 ∧ τ.1 18 = σ.1 18 ∧ rd τ 29 (σ.1 18) < τ.1 19) ∧ τ.1 13 = 0 ∧ rd τ 26 (τ.1 41) = rd τ 27 (τ.1 41))) → w_tellFunc_74 C Q  l1 τ := by
    rintro y74_1 τ74 j74
    unfold w_tellFunc_74
    refine open_c hC B T ?_ (fun σ_41 q42 => ?_)
    · clear h; exact j74.1.2.1.1  -- p29
    have a1 := fI_open j74.1 q42
    have aw : σ_41.1 11 = 0 → (σ_41.1 18 < 10 ∧ σ_41.1 18 = σ.1 18 ∧ rd σ_41 29 (σ.1 18) < σ_41.1 19) ∧ σ_41.1 13 = 1 ∧ rd σ_41 26 (σ_41.1 41) = rd σ_41 27 (σ_41.1 41) := fun f => by
      obtain ⟨f0, l0, o0⟩ := a1.2.2 f
      obtain ⟨w1, w2, w3⟩ := j74.2.2.2 f0
      refine ⟨⟨by rw [q42.1.1 18 (by decide) (by decide) (by decide) (by decide)]; exact w1.1, by rw [q42.1.1 18 (by decide) (by decide) (by decide) (by decide)]; exact w1.2.1, by rw [rd, a1.2.1, q42.1.1 19 (by decide) (by decide) (by decide) (by decide)]; exact w1.2.2⟩, by rw [o0, w2]; rfl, ?_⟩
      simp only [rd]; rw [a1.2.1, q42.1.1 41 (by decide) (by decide) (by decide) (by decide)]; exact w3
    refine isRight_c hC  (fun r43 q45 => ?_)
    refine ⟨fun c46 => ?_, fun c46 => ?_⟩
    · skip
      refine hh102 _ _ _ ?_
      · clear h; exact ⟨a1.1, j74.2.1, j74.2.2.1, nb_0, aw⟩  -- j30
    · skip
      refine isAt_c hC  ?_ (fun r47 q49 => ?_)
      · clear h; exact (aI_at (aI_refl a1.1.2.1)).2.2.2  -- p31
      refine ⟨fun c50 => ?_, fun c50 => ?_⟩
      · skip
        refine hh102 _ _ _ ?_
        · clear h; exact ⟨a1.1, j74.2.1, j74.2.2.1, nb_0, aw⟩  -- j32
      · skip
        refine hh102 _ _ _ ?_
        · clear h; exact ⟨a1.1, j74.2.1, j74.2.2.1, nb_1, aw⟩  -- j33
  have hj34 : ∀ (l1 : Int32) (s1 : Int32) (τ : rS), (fI σ τ B T ∧ 0 ≤ l1 ∧ l1 < 131074 ∧ 0 ≤ s1 ∧ s1 < 10 ∧ (τ.1 11 = 0 → (τ.1 18 < 10 ∧ τ.1 18 = σ.1 18 ∧ s1 = σ.1 18) ∧ τ.1 13 = 0)) → w_tellFunc_34 C Q  l1 s1 τ := by
    rintro y34_1 y34_s1 τ34 j34
    unfold w_tellFunc_34
    intro σ_51 hσ_51
    have a1 : fI σ σ_51 B T := by rw [hσ_51]; exact fI_si j34.1 (Or.inr rfl) (p0_f41 j34.1.2.1 j34.2.2.2.1 j34.2.2.2.2.1)
    have e51 : ∀ k, k ≠ 41 → σ_51.1 k = τ34.1 k := fun k hk => by rw [hσ_51, si1, if_neg hk]
    refine isRight_c hC  (fun r52 q54 => ?_)
    refine ⟨fun c55 => ?_, fun c55 => ?_⟩
    · skip
      refine hj74 _ _ ?_
      · clear h; exact ⟨a1, j34.2.1, j34.2.2.1, fun f => absurd c55 (q54.2.mpr f)⟩  -- k34
    · skip
      refine ⟨ib_10.mpr ?_, ?_⟩
      · clear h; exact fn_b a1.2.1  -- b35
      intro σ_56 hσ_56
      refine ⟨ib_10.mpr ?_, ?_⟩
      · clear h; rw [hσ_56, ri1]; exact fn_b a1.2.1  -- b36
      intro σ_57 hσ_57
      refine ⟨ib_10.mpr ?_, ?_⟩
      · clear h; rw [hσ_57, ri1, hσ_56, ri1]; exact fn_b a1.2.1  -- b37
      intro σ_58 hσ_58
      refine hj74 _ _ ?_
      · clear h; have c1 : fI σ σ_56 B T := by rw [hσ_56]; exact fI_nr a1 (Or.inr (Or.inl ⟨rfl, by decide, by decide⟩))
        have c2 : fI σ σ_57 B T := by rw [hσ_57]; exact fI_nr c1 (Or.inl ⟨rfl, by decide, by decide⟩)
        have c3 : fI σ σ_58 B T := by rw [hσ_58]; exact fI_nr c2 (Or.inr (Or.inr (Or.inr (Or.inr ⟨rfl, rfl⟩))))
        have e58 : ∀ k, σ_58.1 k = σ_51.1 k := fun k => by rw [hσ_58, ri1, hσ_57, ri1, hσ_56, ri1]
        refine ⟨c3, j34.2.1, j34.2.2.1, fun f => ?_⟩
        have f0 : τ34.1 11 = 0 := by rw [← e51 11 (by decide), ← e58]; exact f
        have w := j34.2.2.2.2.2 f0
        refine ⟨⟨by rw [e58, e51 18 (by decide)]; exact w.1.1, by rw [e58, e51 18 (by decide)]; exact w.1.2.1, ?_⟩, by rw [e58, e51 13 (by decide)]; exact w.2, ?_⟩
        · have y41 : σ_57.1 41 = σ.1 18 := by rw [hσ_57, ri1, hσ_56, ri1, hσ_51, si1, if_pos rfl]; exact w.1.2.2
          rw [rd, hσ_58, ri1, y41, ri4, if_pos rfl]
          exact Int32.lt_of_lt_of_le (by decide) (st_b c2.2.1).1
        have y26 : rd σ_58 26 (σ_58.1 41) = 0 := by rw [rd, e58, hσ_58, ri3 (by decide), hσ_57, hσ_56, ri1, ri4, if_pos rfl]
        have y27 : rd σ_58 27 (σ_58.1 41) = 0 := by rw [rd, e58, hσ_58, ri3 (by decide), hσ_57, ri3 (by decide), hσ_56, ri4, if_pos rfl]
        rw [y26, y27]
  refine go_c hC B T ?_ (fun σ_59 q60 => ?_)
  · clear h; exact ⟨hP.1, fun _ => hn⟩  -- p39
  have aa := aI_go (aI_refl hP) q60
  have a0 : fI σ σ_59 B T := ⟨frG_3 q60.1, aa.1.2.1, tS_2 hS aa.2.1, by rw [aa.2.1]; exact rHi_refl, by rw [aa.2.1]; exact rLo_refl, fun f => ⟨(aa.2.2 f).2.1, stA_up hP.1.1 hA.2.2.2.2 hst (by rw [aa.2.1]) (by rw [aa.2.1]) (q60.1.1 19 (by decide) (by decide) (by decide)) ⟨by rw [aa.2.1], by rw [aa.2.1], by rw [aa.2.1], by rw [aa.2.1], by rw [aa.2.1], by rw [aa.2.1], by rw [aa.2.1]⟩ (by rw [aa.2.1]; exact rLo_refl) (Int32.le_of_lt (aa.2.2 f).2.1), fA_lk hfa (lkF_o (by rw [aa.2.1]) (q60.1.1 19 (by decide) (by decide) (by decide)))⟩⟩
  refine fresh_c hC B T ?_ (fun r61 σ_62 q63 => ?_)
  · clear h; exact ⟨a0.2.1.1, a0.2.1.2.2.1, a0.2.1.2.2.2.1⟩  -- p40
  have b := fI_fresh a0 q63
  have e62 : σ_62.1 18 = σ.1 18 := by rw [q63.1.1 18 (by decide) (by decide) (by decide), q60.1.1 18 (by decide) (by decide) (by decide)]
  have bw : σ_62.1 11 = 0 → (σ_62.1 18 < 10 ∧ σ_62.1 18 = σ.1 18) ∧ σ_62.1 13 = 0 := fun f => ⟨⟨by rw [q63.1.1 18 (by decide) (by decide) (by decide)]; exact (b.2.2.1 f).2.2, e62⟩, by rw [q63.1.1 13 (by decide) (by decide) (by decide), q60.1.1 13 (by decide) (by decide) (by decide)]; exact ho⟩
  refine ⟨fun c64 => ?_, fun c64 => ?_⟩
  · skip
    refine hj34 _ _ _ ?_
    · clear h; exact ⟨b.1, b.2.2.2.1, b.2.2.2.2, by decide, by decide, fun f => absurd (bw f).1.1 (Int32.not_lt.mpr c64)⟩  -- k41
  · skip
    refine hj34 _ _ _ ?_
    · clear h; exact ⟨b.1, b.2.2.2.1, b.2.2.2.2, (f_b b.1.2.1).1, g_nl c64, fun f => ⟨⟨(bw f).1.1, (bw f).1.2, e62⟩, (bw f).2⟩⟩  -- k42

end
