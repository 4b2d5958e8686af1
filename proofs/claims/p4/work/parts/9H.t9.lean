set_option maxHeartbeats 1600000
/-! the reference: solve -/
abbrev slF : List Nat := [0, 92, 94, 100]
abbrev slR : List Nat := [90, 91, 93, 95, 96, 97, 98, 99, 102]
theorem least {P : Nat → Prop} : ∀ k, P k → ∃ j, j ≤ k ∧ P j ∧ ∀ m, m < j → ¬ P m := by
  intro k
  induction k using Nat.strongRecOn with
  | _ k ih =>
    intro h
    by_cases e : ∃ m, m < k ∧ P m
    · obtain ⟨m, h1, h2⟩ := e
      obtain ⟨j, j1, j2, j3⟩ := ih m h1 h2
      exact ⟨j, by omega, j2, j3⟩
    · exact ⟨k, Nat.le_refl _, h, fun m hm z => e ⟨m, hm, z⟩⟩
theorem cnt_eq {r : Nat → Int64} {a b : Nat} : ∀ {n : Nat}, (∀ m, m < n → (rng r a m ↔ rng r b m)) → cntR r a n = cntR r b n
  | 0, _ => rfl
  | n + 1, h => by
    have ih := cnt_eq (r := r) (a := a) (b := b) (n := n) (fun m hm => h m (by omega))
    by_cases e : rng r a n
    · rw [cnt_in e, cnt_in ((h n (by omega)).mp e), ih]
    · rw [cnt_out e, cnt_out (fun z => e ((h n (by omega)).mpr z)), ih]
theorem cnt_pos {r : Nat → Int64} {a k : Nat} (h : rng r a k) : ∀ {n : Nat}, k < n → 0 < cntR r a n
  | 0, z => absurd z (Nat.not_lt_zero k)
  | n + 1, z => by
    by_cases e : k = n
    · rw [← e, cnt_in h]; omega
    · have ih := cnt_pos h (n := n) (by omega)
      have q : cntR r a n ≤ cntR r a (n + 1) := Nat.le_add_right ..
      omega
theorem op_path {σ : rS} {o : Nat} {p : Int32} : ∀ {k a b : Nat}, pth (edN σ p o 0) k a b → σ.2.2.1 o a ≠ 0 ∧ σ.2.2.1 o b ≠ 0
  | 0, a, b, h => by
    obtain ⟨i, _, _, g⟩ := h
    exact g.2.2.2.resolve_left (fun z => z rfl)
  | k + 1, a, b, h => by
    obtain ⟨c, ⟨i, _, _, g⟩, h2⟩ := h
    exact ⟨(g.2.2.2.resolve_left (fun z => z rfl)).1, (op_path (k := k) h2).2⟩
/-- the rows of bits say the ways among open states -/
def rbJ (τ : rS) (s : Nat) : Prop := ∀ a b, a < s → b < s → (bR (τ.2.2.2 86) a b = true ↔ Tr (edN τ 1 95 0) a b)
theorem rb_op {τ : rS} {s a b : Nat} (h : rbJ τ s) (ha : a < s) (hb : b < s) (g : bR (τ.2.2.2 86) a b = true) : τ.2.2.1 95 a ≠ 0 ∧ τ.2.2.1 95 b ≠ 0 := by
  obtain ⟨k, hk⟩ := (h a b ha hb).mp g
  exact op_path hk
theorem rb_tr {τ : rS} {s a b c : Nat} (h : rbJ τ s) (ha : a < s) (hb : b < s) (hc : c < s) (g : bR (τ.2.2.2 86) a b = true) (f : bR (τ.2.2.2 86) b c = true) : bR (τ.2.2.2 86) a c = true := (h a c ha hc).mpr (Tr_tr ((h a b ha hb).mp g) ((h b c hb hc).mp f))
theorem rg_tr {τ : rS} {s a b c : Nat} (h : rbJ τ s) (ha : a < s) (hb : b < s) (hc : c < s) (g : rng (τ.2.2.2 86) a b) (f : rng (τ.2.2.2 86) b c) : rng (τ.2.2.2 86) a c := ⟨rb_tr h ha hb hc g.1 f.1, rb_tr h hc hb ha f.2 g.2⟩
theorem rg_sy {r : Nat → Int64} {a b : Nat} (h : rng r a b) : rng r b a := ⟨h.2, h.1⟩
/-- rings of open states are small -/
def r32 (τ : rS) (s : Nat) : Prop := ∀ k, k < s → τ.2.2.1 95 k ≠ 0 → bR (τ.2.2.2 86) k k = true → (∀ m, m < k → ¬ rng (τ.2.2.2 86) k m) → cntR (τ.2.2.2 86) k s ≤ 32
theorem r32_k {τ : rS} {s k : Nat} (h : rbJ τ s) (h2 : r32 τ s) (hk : k < s) (g : bR (τ.2.2.2 86) k k = true) : cntR (τ.2.2.2 86) k s ≤ 32 := by
  obtain ⟨j, j1, j2, j3⟩ := least (P := fun m => rng (τ.2.2.2 86) k m) k ⟨g, g⟩
  have js : j < s := by omega
  have jj := rg_tr h js hk js (rg_sy j2) j2
  have z := h2 j js (rb_op h js js jj.1).1 jj.1 (fun m hm y => j3 m hm (rg_tr h hk js (by omega) j2 y))
  rwa [cnt_eq (a := j) (b := k) (fun m hm => ⟨fun y => rg_tr h hk js hm j2 y, fun y => rg_tr h js hk hm (rg_sy j2) y⟩)] at z
/-- what holds while states are solved -/
def slJ (σ τ : rS) (s : Nat) : Prop := frM slF slR σ τ ∧ τ.1 94 = 0 ∧ (∀ i, i < s → 0 ≤ τ.2.2.1 98 i ∧ τ.2.2.1 98 i < σ.1 70) ∧ (∀ k, k < s → τ.2.2.1 95 k ≠ 0 → cnE σ k) ∧ rbJ τ s ∧ r32 τ s ∧ nK σ τ
theorem pOK_M {σ τ : rS} (h : pOK σ) (f : frM slF slR σ τ) : pOK τ := pOK_o h (fun k hk => f.1 k (by rcases hk with z | z | z <;> rw [z] <;> decide)) (fun k hk => f.2.2.1 k (by rcases hk with z | z | z | z | z | z | z <;> rw [z] <;> decide))
theorem cnE_M {σ τ : rS} (f : frM slF slR σ τ) : cnE τ = cnE σ := cnE_o (f.1 70 (by decide)) (fun k hk => f.2.2.1 k (by rcases hk with z | z | z | z | z <;> rw [z] <;> decide))
theorem slJ_o {σ τ υ : rS} {s : Nat} (h : slJ σ τ s) (f : frM slF slR τ υ) (h94 : υ.1 94 = τ.1 94) (r95 : υ.2.2.1 95 = τ.2.2.1 95) (r98 : υ.2.2.1 98 = τ.2.2.1 98) (l86 : υ.2.2.2 86 = τ.2.2.2 86) (n : nK τ υ) : slJ σ υ s := by
  obtain ⟨h1, h2, h3, h4, h5, h6, h7⟩ := h
  have e : edN υ 1 95 0 = edN τ 1 95 0 := edN_q (fun k hk => by
    rcases hk with z | z | z | z | z | z <;> rw [z]
    · exact f.2.2.1 76 (by decide)
    · exact f.2.2.1 77 (by decide)
    · exact f.2.2.1 78 (by decide)
    · exact f.2.2.1 81 (by decide)
    · exact f.2.2.1 83 (by decide)
    · exact r95)
  refine ⟨frM_tr h1 f, by rw [h94]; exact h2, by rw [r98]; exact h3, by rw [r95]; exact h4, ?_, ?_, nK_tr h7 n⟩
  · unfold rbJ
    rw [l86, e]
    exact h5
  · unfold r32
    rw [l86, r95]
    exact h6
theorem frM_V {σ τ : rS} (f : frV σ τ) : frM slF slR σ τ := ⟨fun k hk => f.1 k (fun e => hk (by rw [e]; decide)), f.2.1, fun k hk => f.2.2.1 k (fun e => hk (by rw [e]; decide)) (fun e => hk (by rw [e]; decide)) (fun e => hk (by rw [e]; decide)) (fun e => hk (by rw [e]; decide)) (fun e => hk (by rw [e]; decide)), fun k _ => by rw [f.2.2.2.1]⟩
theorem slJ_V {σ τ υ : rS} {s : Nat} (h : slJ σ τ s) (f : frV τ υ) : slJ σ υ s := slJ_o h (frM_V f) (f.1 94 (by decide)) (f.2.2.1 95 (by decide) (by decide) (by decide) (by decide) (by decide)) (f.2.2.1 98 (by decide) (by decide) (by decide) (by decide) (by decide)) (by rw [f.2.2.2.1]) f.2.2.2.2
/-- only the members differ -/
def frY (σ τ : rS) : Prop := (∀ k, k ≠ 100 → τ.1 k = σ.1 k) ∧ τ.2.1 = σ.2.1 ∧ (∀ j, j ≠ 99 → τ.2.2.1 j = σ.2.2.1 j) ∧ τ.2.2.2 = σ.2.2.2
theorem frY_tr {σ τ υ : rS} (h : frY σ τ) (g : frY τ υ) : frY σ υ := ⟨fun k z => (g.1 k z).trans (h.1 k z), g.2.1.trans h.2.1, fun j z => (g.2.2.1 j z).trans (h.2.2.1 j z), g.2.2.2.trans h.2.2.2⟩
theorem frY_0 {σ : rS} {x : Int32} : frY σ (siU σ 100 x) := ⟨fun k z => if_neg z, rfl, fun _ _ => rfl, rfl⟩
theorem frY_1 {σ : rS} {i : Nat} {x : Int32} : frY σ (riU σ 99 i x) := ⟨fun _ _ => rfl, rfl, fun _ z => ri3 z, rfl⟩
theorem frM_Y {σ τ : rS} (f : frY σ τ) : frM slF slR σ τ := ⟨fun k hk => f.1 k (fun e => hk (by rw [e]; decide)), f.2.1, fun k hk => f.2.2.1 k (fun e => hk (by rw [e]; decide)), fun k _ => by rw [f.2.2.2]⟩
theorem slJ_Y {σ τ υ : rS} {s : Nat} (h : slJ σ τ s) (f : frY τ υ) : slJ σ υ s := slJ_o h (frM_Y f) (f.1 94 (by decide)) (f.2.2.1 95 (by decide)) (f.2.2.1 98 (by decide)) (by rw [f.2.2.2]) (nK_r (f.2.2.1 90 (by decide)) (f.2.2.1 91 (by decide)))
/-- members gathered so far -/
def mbJ (r : Nat → Int64) (τ : rS) (k : Nat) (l : Int32) : Prop := 0 ≤ τ.1 100 ∧ τ.1 100 ≤ l ∧ (∀ a, a < (τ.1 100).toNatClampNeg → 0 ≤ τ.2.2.1 99 a ∧ τ.2.2.1 99 a < l ∧ ((τ.2.2.1 99 a).toNatClampNeg = k ∨ rng r k (τ.2.2.1 99 a).toNatClampNeg)) ∧ (∀ a b, a < (τ.1 100).toNatClampNeg → b < (τ.1 100).toNatClampNeg → τ.2.2.1 99 a = τ.2.2.1 99 b → a = b) ∧ (bR r k k = true → (τ.1 100).toNatClampNeg = cntR r k l.toNatClampNeg)
theorem mb_i {c l : Int32} (c0 : 0 ≤ c) (cl : c ≤ l) (l1 : l < 1000) : 0 ≤ c + 1 ∧ c + 1 ≤ l + 1 ∧ c < 1000 ∧ c ≤ l + 1 ∧ c < 1000000 ∧ l < 1000000 ∧ l < l + 1 ∧ 0 ≤ l := by grind
theorem lt_u9 {x l : Int32} (h : x < l) (h1 : l < 1000) (h0 : 0 ≤ l) : x < l + 1 ∧ x ≠ l := by grind
theorem mb_s {r : Nat → Int64} {σ υ : rS} {k : Nat} {l : Int32} (h : mbJ r σ k l) (l1 : l < 1000) (hk : l.toNatClampNeg = k ∨ rng r k l.toNatClampNeg) (e1 : υ.1 100 = σ.1 100 + 1) (e2 : ∀ i, υ.2.2.1 99 i = if i = (σ.1 100).toNatClampNeg then l else σ.2.2.1 99 i) : mbJ r υ k (l + 1) := by
  obtain ⟨h1, h2, h3, h4, h5⟩ := h
  have q := mb_i h1 h2 l1
  have cs := cn_succ h1 q.2.2.2.2.1
  have ls := cn_succ q.2.2.2.2.2.2.2 q.2.2.2.2.2.1
  unfold mbJ
  rw [e1, cs, ls]
  refine ⟨q.1, q.2.1, fun a ha => ?_, fun a b ha hb => ?_, fun z => ?_⟩
  · rw [e2]
    split
    · exact ⟨q.2.2.2.2.2.2.2, q.2.2.2.2.2.2.1, hk⟩
    · have y := h3 a (by omega)
      exact ⟨y.1, (lt_u9 y.2.1 l1 q.2.2.2.2.2.2.2).1, y.2.2⟩
  · rw [e2, e2]
    split
    · split
      · omega
      · intro e
        exact absurd e.symm (lt_u9 (h3 b (by omega)).2.1 l1 q.2.2.2.2.2.2.2).2
    · split
      · intro e
        exact absurd e (lt_u9 (h3 a (by omega)).2.1 l1 q.2.2.2.2.2.2.2).2
      · exact h4 a b (by omega) (by omega)
  · have y : rng r k l.toNatClampNeg := by
      rcases hk with w | w
      · rw [w]; exact ⟨z, z⟩
      · exact w
    rw [cnt_in y, h5 z]
theorem mb_n {r : Nat → Int64} {σ : rS} {k : Nat} {l : Int32} (h : mbJ r σ k l) (l1 : l < 1000) (hk : ¬ rng r k l.toNatClampNeg) : mbJ r σ k (l + 1) := by
  obtain ⟨h1, h2, h3, h4, h5⟩ := h
  have q := mb_i h1 h2 l1
  have ls := cn_succ q.2.2.2.2.2.2.2 q.2.2.2.2.2.1
  unfold mbJ
  rw [ls]
  refine ⟨h1, q.2.2.2.1, fun a ha => ?_, h4, fun z => ?_⟩
  · have y := h3 a ha
    exact ⟨y.1, (lt_u9 y.2.1 l1 q.2.2.2.2.2.2.2).1, y.2.2⟩
  · rw [cnt_out hk, h5 z]
theorem i_32 {c : Int32} (h0 : 0 ≤ c) (h1 : 0 < c.toNatClampNeg) (h2 : c.toNatClampNeg ≤ 32) : 0 < c ∧ c ≤ 32 := by
  have e := cn_int h0
  exact ⟨Int32.lt_iff_toInt_lt.mpr (by rw [Int32.toInt_zero]; omega), Int32.le_iff_toInt_le.mpr (by rw [show (32 : Int32).toInt = 32 from rfl]; omega)⟩
theorem by_m {σ : rS} : byQ σ (-1) = 1 := if_pos rfl
theorem solve_c {C : rCx} (hC : cOK C) (s : Nat) {σ : rS}  {Q : Int32 → rS → Prop} (hp : pOK σ ∧ s = (σ.1 70).toNatClampNeg ∧ (σ.1 94 ≠ 0 → ∀ k, k < s → vOK σ k)) (h : ∀ (v : Int32) (σ' : rS), (frM slF slR σ σ' ∧ (σ'.1 94 ≠ 0 → ∀ k, k < s → vOK σ' k) ∧ nK σ σ') → Q v σ') : cI C 8 m_solve [.ref (co C)] σ Q := by
  refine m_solve_run hC ?_
  unfold w_solve_0
  obtain ⟨hO, hs, hv⟩ := hp
  have n1000 := hO.1.1.2
  have hj13 : ∀ (s1 : Int32) (τ : rS), (τ = σ) → w_solve_13 C Q  s1 τ := by
    rintro y13_s1 τ13 j13
    unfold w_solve_13
    intro σ_1 hσ_1
    refine ⟨fun c2 => ?_, fun c2 => ?_⟩
    · skip
      intro σ_3 hσ_3
      refine findOrder_c hC s ?_ (fun σ_4 q5 => ?_)
      · clear h; have F3 : frM slF slR σ σ_3 := by rw [hσ_3, hσ_1, j13]; exact frM_tr (frM_0 (by decide)) (frM_0 (by decide))
        have e94 : σ_3.1 94 = 0 := by rw [hσ_3]; rfl
        exact ⟨pOK_M hO F3, by rw [F3.1 70 (by decide)]; exact hs⟩
      have F3 : frM slF slR σ σ_3 := by rw [hσ_3, hσ_1, j13]; exact frM_tr (frM_0 (by decide)) (frM_0 (by decide))
      have e94 : σ_3.1 94 = 0 := by rw [hσ_3]; rfl
      have F4 : frM slF slR σ σ_4 := frM_tr F3 (frM_w q5.1 (sub_of rfl) (sub_of rfl))
      have c4 : σ_4.1 94 = 0 := by rw [q5.1.1 94 (by decide)]; exact e94
      have cE : ∀ k, k < s → σ_4.2.2.1 95 k ≠ 0 → cnE σ k := by rw [← cnE_M F3]; exact q5.2.2.2.1
      have o98 := q5.2.2.1
      have K4 : nK σ σ_4 := nK_tr (nK_r (by rw [hσ_3, hσ_1, j13]; rfl) (by rw [hσ_3, hσ_1, j13]; rfl)) q5.2.2.2.2.2
      rw [F3.1 70 (by decide)] at o98
      unfold w_solve_36
      refine ⟨fun n l1 τ => n = (σ.1 70 - l1).toNatClampNeg ∧ (τ = σ_4 ∧ 0 ≤ l1 ∧ l1 ≤ σ.1 70 ∧ (∀ k, k < l1.toNatClampNeg → σ_4.2.2.1 95 k ≠ 0 → bR (σ_4.2.2.2 86) k k = true → (∀ m, m < k → ¬ rng (σ_4.2.2.2 86) k m) → cntR (σ_4.2.2.2 86) k s ≤ 32)), ⟨_, rfl, ?_⟩, ?_⟩
      · clear h; exact ⟨rfl, by decide, hO.1.1.1, fun k hk => absurd hk (Nat.not_lt_zero k)⟩  -- j2
      rintro n36 x36_1 σ36 ⟨hn36, i36⟩
      obtain ⟨e1, a0, a1, R⟩ := i36
      have e70 : σ_4.1 70 = σ.1 70 := F4.1 70 (by decide)
      rw [e1, e70]
      refine ⟨fun c6 => ?_, fun c6 => ?_⟩
      · skip
        unfold w_solve_74
        refine ⟨fun n l1 τ => n = (σ.1 70 - l1).toNatClampNeg ∧ (slJ σ τ s ∧ (∀ k, k < s → vOK τ k) ∧ 0 ≤ l1 ∧ l1 ≤ σ.1 70), ⟨_, rfl, ?_⟩, ?_⟩
        · clear h; have e : x36_1 = σ.1 70 := Int32.le_antisymm a1 c6
          rw [e, ← hs] at R
          exact ⟨⟨F4, c4, o98, cE, q5.2.2.2.2.1, R, K4⟩, q5.2.1, by decide, hO.1.1.1⟩
        rintro n74 x74_1 σ74 ⟨hn74, i74⟩
        have hj223 : ∀ (l1 : Int32) (l3 : Int32) (τ : rS), (l1 = x74_1 ∧ ¬ σ.1 70 ≤ x74_1 ∧ slJ σ τ s ∧ (l3 ≠ 0 → ∀ k, k < s → vOK τ k)) → w_solve_223 C Q (fun l1' τ => ∃ k < n74, (fun n l1 τ => n = (σ.1 70 - l1).toNatClampNeg ∧ (slJ σ τ s ∧ (∀ k, k < s → vOK τ k) ∧ 0 ≤ l1 ∧ l1 ≤ σ.1 70)) k l1' τ) l1 l3 τ := by
          rintro y223_1 y223_3 τ223 j223
          unfold w_solve_223
          obtain ⟨J, V, b0, b1⟩ := i74
          obtain ⟨y1, y2, y3, y4⟩ := j223
          have u := uk b0 y2 n1000
          refine ⟨fun c7 => ?_, fun c7 => ?_⟩
          · skip
            intro x8 hx8
            refine ⟨_, cn_lt2 hn74 ?_ ?_, rfl, ?_⟩
            · clear h; rw [hx8, y1]; exact u.1  -- d4
            · clear h; rw [hx8, y1]; exact u.2.1  -- d5
            · clear h; rw [hx8, y1]; exact ⟨y3, y4 c7, u.2.2.1, u.2.2.2.1⟩  -- i6
          · skip
            refine h _ _ ?_
            · clear h; exact ⟨y3.1, fun z => absurd y3.2.1 z, y3.2.2.2.2.2.2⟩  -- q7
        have hj210 : ∀ (l1 : Int32) (l2 : Int32) (s0 : Int32) (τ : rS), (l1 = x74_1 ∧ ¬ σ.1 70 ≤ x74_1 ∧ 0 ≤ l2 ∧ l2 < σ.1 70 ∧ slJ σ τ s ∧ (∀ k, k < s → vOK τ k) ∧ numO τ 4 ∧ numO τ 5 ∧ 0 < nV τ 5 ∧ (s0 ≠ 0 → nL τ 4 ≤ 16 ∧ nL τ 5 ≤ 16)) → w_solve_210 C Q (fun l1' τ => ∃ k < n74, (fun n l1 τ => n = (σ.1 70 - l1).toNatClampNeg ∧ (slJ σ τ s ∧ (∀ k, k < s → vOK τ k) ∧ 0 ≤ l1 ∧ l1 ≤ σ.1 70)) k l1' τ) l1 l2 s0 τ := by
          rintro y210_1 y210_2 y210_s0 τ210 j210
          unfold w_solve_210
          obtain ⟨y1, y2, y3, y4, y5, y6, y7, y8, y9, y10⟩ := j210
          have k1 := Int32.lt_of_lt_of_le y4 n1000
          refine keepVisits_c hC  ?_ (fun σ_9 q10 => ?_)
          · clear h; exact ⟨y3, k1, y7, y8⟩  -- p8
          refine ⟨ib_1000.mpr ?_, ?_⟩
          · clear h; exact ⟨y3, k1⟩  -- b9
          intro σ_11 hσ_11
          refine hj223 _ _ _ ?_
          · clear h; rw [hσ_11]
            refine ⟨y1, y2, slJ_V y5 (frV_tr (frV_R q10.1) frV_1), fun z k hk => vOK_f (ri3 (by decide)) ?_⟩
            by_cases e : k = y210_2.toNatClampNeg
            · have l := y10 z
              have s4 := q10.2.1 l.1
              have s5 := q10.2.2 l.2
              rw [e]
              exact ⟨s4.1, s5.1, by rw [s5.2]; exact y9⟩
            · exact vOK_e (fun i i1 i2 => q10.1.2.2.2.2 i (by omega)) (y6 k hk)
        obtain ⟨J, V, b0, b1⟩ := i74
        have g70 := J.1.1 70 (by decide)
        rw [g70]
        refine ⟨fun c12 => ?_, fun c12 => ?_⟩
        · skip
          intro σ_13 hσ_13
          refine h _ _ ?_
          · clear h; rw [hσ_13]
            exact ⟨frM_tr J.1 (frM_0 (by decide)), fun _ k hk => vOK_f rfl (V k hk), nK_tr J.2.2.2.2.2.2 (nK_r rfl rfl)⟩
        · skip
          have u := uk b0 c12 n1000
          have xs : x74_1.toNatClampNeg < s := by rw [hs]; exact cn_lt b0 u.2.2.2.2.1
          have o := J.2.2.1 x74_1.toNatClampNeg xs
          have o1 := Int32.lt_of_lt_of_le o.2 n1000
          have ks : (σ74.2.2.1 98 x74_1.toNatClampNeg).toNatClampNeg < s := by rw [hs]; exact cn_lt o.1 o.2
          refine ⟨ib_1000.mpr ?_, ?_⟩
          · clear h; exact ⟨b0, u.2.2.2.2.2⟩  -- b12
          intro x14 hx14
          refine ⟨ib_1000.mpr ?_, ?_⟩
          · clear h; rw [hx14]; exact ⟨o.1, o1⟩  -- b13
          refine ⟨fun c15 => ?_, fun c15 => ?_⟩
          · skip
            intro x16 hx16
            refine ⟨_, cn_lt2 hn74 ?_ ?_, rfl, ?_⟩
            · clear h; rw [hx16]; exact u.1  -- d14
            · clear h; rw [hx16]; exact u.2.1  -- d15
            · clear h; rw [hx16]; exact ⟨J, V, u.2.2.1, u.2.2.2.1⟩  -- i16
          · skip
            refine ⟨ib_1000.mpr ?_, ?_⟩
            · clear h; rw [hx14]; exact ⟨o.1, o1⟩  -- b17
            refine ⟨fun c17 => ?_, fun c17 => ?_⟩
            · skip
              intro x18 hx18
              refine ⟨_, cn_lt2 hn74 ?_ ?_, rfl, ?_⟩
              · clear h; rw [hx18]; exact u.1  -- d18
              · clear h; rw [hx18]; exact u.2.1  -- d19
              · clear h; rw [hx18]; exact ⟨J, V, u.2.2.1, u.2.2.2.1⟩  -- i20
            · skip
              intro σ_19 hσ_19
              unfold w_solve_114
              refine ⟨fun n l1 l2 l3 τ => n = (σ.1 70 - l3).toNatClampNeg ∧ (l1 = x74_1 ∧ l2 = σ74.2.2.1 98 x74_1.toNatClampNeg ∧ 0 ≤ l3 ∧ l3 ≤ σ.1 70 ∧ frY σ74 τ ∧ mbJ (σ74.2.2.2 86) τ (σ74.2.2.1 98 x74_1.toNatClampNeg).toNatClampNeg l3), ⟨_, rfl, ?_⟩, ?_⟩
              · clear h; have z100 : σ_19.1 100 = 0 := by rw [hσ_19]; rfl
                refine ⟨rfl, hx14, by decide, hO.1.1.1, by rw [hσ_19]; exact frY_0, ?_⟩
                unfold mbJ
                rw [z100]
                exact ⟨by decide, by decide, fun a ha => absurd ha (Nat.not_lt_zero a), fun a b ha => absurd ha (Nat.not_lt_zero a), fun _ => rfl⟩
              rintro n114 x114_1 x114_2 x114_3 σ114 ⟨hn114, i114⟩
              have hj136 : ∀ (l1 : Int32) (l2 : Int32) (l3 : Int32) (τ : rS), (l1 = x74_1 ∧ l2 = σ74.2.2.1 98 x74_1.toNatClampNeg ∧ l3 = x114_3 ∧ ¬ σ.1 70 ≤ x114_3 ∧ τ = σ114 ∧ (x114_3.toNatClampNeg = (σ74.2.2.1 98 x74_1.toNatClampNeg).toNatClampNeg ∨ rng (σ74.2.2.2 86) (σ74.2.2.1 98 x74_1.toNatClampNeg).toNatClampNeg x114_3.toNatClampNeg)) → w_solve_136 C Q (fun l1' τ => ∃ k < n74, (fun n l1 τ => n = (σ.1 70 - l1).toNatClampNeg ∧ (slJ σ τ s ∧ (∀ k, k < s → vOK τ k) ∧ 0 ≤ l1 ∧ l1 ≤ σ.1 70)) k l1' τ) (fun l1' l2' l3' τ => ∃ k < n114, (fun n l1 l2 l3 τ => n = (σ.1 70 - l3).toNatClampNeg ∧ (l1 = x74_1 ∧ l2 = σ74.2.2.1 98 x74_1.toNatClampNeg ∧ 0 ≤ l3 ∧ l3 ≤ σ.1 70 ∧ frY σ74 τ ∧ mbJ (σ74.2.2.2 86) τ (σ74.2.2.1 98 x74_1.toNatClampNeg).toNatClampNeg l3)) k l1' l2' l3' τ) l1 l2 l3 τ := by
                rintro y136_1 y136_2 y136_3 τ136 j136
                unfold w_solve_136
                obtain ⟨w1, w2, w0, w3, Y, M⟩ := i114
                obtain ⟨z1, z2, z3, z4, z5, z6⟩ := j136
                have w := uk w0 z4 n1000
                have q := mb_i M.1 M.2.1 w.2.2.2.2.2
                rw [z5, z3]
                refine ⟨ib_1000.mpr ?_, ?_⟩
                · clear h; exact ⟨M.1, q.2.2.1⟩  -- b22
                intro σ_20 hσ_20
                intro σ_21 hσ_21
                intro x22 hx22
                refine ⟨_, cn_lt2 hn114 ?_ ?_, rfl, ?_⟩
                · clear h; rw [hx22]; exact w.1  -- d23
                · clear h; rw [hx22]; exact w.2.1  -- d24
                · clear h; rw [hx22]
                  refine ⟨z1, z2, w.2.2.1, w.2.2.2.1, frY_tr Y (by rw [hσ_21, hσ_20]; exact frY_tr frY_1 frY_0), mb_s M w.2.2.2.2.2 z6 (by rw [hσ_21, hσ_20]; rfl) (fun i => ?_)⟩
                  rw [hσ_21, show (siU σ_20 100 (σ_20.1 100 + 1)).2.2.1 99 = σ_20.2.2.1 99 from rfl, hσ_20, ri34, if_pos rfl]
              obtain ⟨w1, w2, w0, w3, Y, M⟩ := i114
              have h70 : σ114.1 70 = σ.1 70 := (Y.1 70 (by decide)).trans g70
              have J2 := slJ_Y J Y
              have e86 : σ114.2.2.2 86 = σ74.2.2.2 86 := by rw [Y.2.2.2]
              have V2 : ∀ k, k < s → vOK σ114 k := fun k hk => vOK_f (Y.2.2.1 102 (by decide)) (V k hk)
              rw [h70, w2]
              refine ⟨fun c23 => ?_, fun c23 => ?_⟩
              · skip
                refine leads_c hC  ?_ (fun r24 q26 => ?_)
                · clear h; exact ⟨o.1, o1, o.1, o1⟩  -- p26
                refine ⟨fun c27 => ?_, fun c27 => ?_⟩
                · skip
                  refine clearSum_c hC  (fun σ_28 q29 => ?_)
                  have J28 := slJ_V J2 (frV_S q29.1)
                  refine sumInflow_c hC s 1 0 0 ?_ (fun σ_30 q31 => ?_)
                  · clear h; rw [by_m]
                    exact ⟨pOK_M hO J28.1, by rw [J28.1.1 70 (by decide)]; exact hs, fun k hk _ => vOK_f (q29.1.2.2.1 102 (by decide) (by decide)) (V2 k hk), Or.inl rfl, siJ_0 (D := fun _ => 1) q29.2, by decide, by decide, by decide, by decide⟩
                  have J30 := slJ_V J28 (frV_S q31.1)
                  have V30 : ∀ k, k < s → vOK σ_30 k := fun k hk => vOK_f ((q31.1.2.2.1 102 (by decide) (by decide)).trans (q29.1.2.2.1 102 (by decide) (by decide))) (V2 k hk)
                  obtain ⟨S, S1, S2, -, -⟩ := q31.2
                  have R30 := hS_nn S1 S2
                  refine isLong_c hC  ?_ (fun r32 q34 => ?_)
                  · clear h; exact ⟨by decide, by decide⟩  -- p28
                  refine ⟨fun c35 => ?_, fun c35 => ?_⟩
                  · skip
                    refine hj210 _ _ _ _ ?_
                    · clear h; exact ⟨w1, c12, o.1, o.2, J30, V30, R30.1, R30.2.1, (hR_q R30).2, fun z => absurd rfl z⟩  -- k29
                  · skip
                    refine isLong_c hC  ?_ (fun r36 q38 => ?_)
                    · clear h; exact ⟨by decide, by decide⟩  -- p30
                    refine ⟨fun c39 => ?_, fun c39 => ?_⟩
                    · skip
                      refine hj210 _ _ _ _ ?_
                      · clear h; exact ⟨w1, c12, o.1, o.2, J30, V30, R30.1, R30.2.1, (hR_q R30).2, fun z => absurd rfl z⟩  -- k31
                    · skip
                      refine hj210 _ _ _ _ ?_
                      · clear h; exact ⟨w1, c12, o.1, o.2, J30, V30, R30.1, R30.2.1, (hR_q R30).2, fun _ => ⟨cn_le (x := σ_30.2.2.1 91 4) (y := 16) rfl (Int32.not_lt.mp (fun z => q34.2.mpr z c35)), cn_le (x := σ_30.2.2.1 91 5) (y := 16) rfl (Int32.not_lt.mp (fun z => q38.2.mpr z c39))⟩⟩  -- k32
                · skip
                  refine solveRing_c hC (σ114.1 100).toNatClampNeg s ?_ (fun r40 σ_41 q42 => ?_)
                  · clear h; have kk := q26.2.mp c27
                    rw [e86] at kk
                    have e : x114_3 = σ.1 70 := Int32.le_antisymm w3 c23
                    rw [e] at M
                    have ct := M.2.2.2.2 kk
                    rw [← hs] at ct
                    have cp := cnt_pos (r := σ74.2.2.2 86) (a := (σ74.2.2.1 98 x74_1.toNatClampNeg).toNatClampNeg) (k := (σ74.2.2.1 98 x74_1.toNatClampNeg).toNatClampNeg) ⟨kk, kk⟩ ks
                    have cl := r32_k J.2.2.2.2.1 J.2.2.2.2.2.1 ks kk
                    have i32 := i_32 M.1 (by omega) (by omega)
                    refine ⟨pOK_M hO J2.1, i32.1, i32.2, rfl, ⟨fun a ha => ⟨(M.2.2.1 a ha).1, by rw [h70]; exact (M.2.2.1 a ha).2.1⟩, M.2.2.2.1⟩, fun a ha => ?_, by rw [h70]; exact hs, V2⟩
                    have y := M.2.2.1 a ha
                    have ys : (σ114.2.2.1 99 a).toNatClampNeg < s := by rw [hs]; exact cn_lt y.1 y.2.1
                    have yr : bR (σ74.2.2.2 86) (σ74.2.2.1 98 x74_1.toNatClampNeg).toNatClampNeg (σ114.2.2.1 99 a).toNatClampNeg = true := by
                      rcases y.2.2 with z | z
                      · rw [z]; exact kk
                      · exact z.1
                    have op := (rb_op J.2.2.2.2.1 ks ys yr).2
                    rw [cnE_M J2.1]
                    exact J.2.2.2.1 _ ys op
                  refine hj223 _ _ _ ?_
                  · clear h; exact ⟨w1, c12, slJ_V J2 q42.1, q42.2.2⟩  -- k34
              · skip
                have w := uk w0 c23 n1000
                refine ⟨fun c43 => ?_, fun c43 => ?_⟩
                · skip
                  refine hj136 _ _ _ _ ?_
                  · clear h; exact ⟨w1, rfl, rfl, c23, rfl, Or.inl (by rw [c43])⟩  -- k35
                · skip
                  refine isRingWith_c hC  ?_ (fun r44 q46 => ?_)
                  · clear h; exact ⟨o.1, o1, w0, w.2.2.2.2.2⟩  -- p36
                  have qr := q46.2
                  rw [e86] at qr
                  refine ⟨fun c47 => ?_, fun c47 => ?_⟩
                  · skip
                    intro x48 hx48
                    refine ⟨_, cn_lt2 hn114 ?_ ?_, rfl, ?_⟩
                    · clear h; rw [hx48]; exact w.1  -- d37
                    · clear h; rw [hx48]; exact w.2.1  -- d38
                    · clear h; rw [hx48]; exact ⟨w1, rfl, w.2.2.1, w.2.2.2.1, Y, mb_n M w.2.2.2.2.2 (fun z => qr.mpr z c47)⟩  -- i39
                  · skip
                    refine hj136 _ _ _ _ ?_
                    · clear h; exact ⟨w1, rfl, rfl, c23, rfl, Or.inr (qr.mp c47)⟩  -- k40
      · skip
        have u := uk a0 c6 n1000
        have as := cn_succ a0 (Int32.lt_trans u.2.2.2.2.2 (by decide))
        refine ⟨ib_1000.mpr ?_, ?_⟩
        · clear h; exact ⟨a0, u.2.2.2.2.2⟩  -- b41
        refine ⟨fun c49 => ?_, fun c49 => ?_⟩
        · skip
          intro x50 hx50
          refine ⟨_, cn_lt2 hn36 ?_ ?_, rfl, ?_⟩
          · clear h; rw [hx50]; exact u.1  -- d42
          · clear h; rw [hx50]; exact u.2.1  -- d43
          · clear h; rw [hx50, as]
            refine ⟨rfl, u.2.2.1, u.2.2.2.1, fun k hk z => ?_⟩
            by_cases e : k = x36_1.toNatClampNeg
            · rw [e] at z; exact absurd c49 z
            · exact R k (by omega) z
        · skip
          refine ringOf_c hC  ?_ (fun r51 q53 => ?_)
          · clear h; rw [e70]; exact ⟨a0, u.2.2.2.2.1, n1000⟩  -- p45
          rw [e70, ← hs] at q53
          refine ⟨fun c54 => ?_, fun c54 => ?_⟩
          · skip
            intro x55 hx55
            refine ⟨_, cn_lt2 hn36 ?_ ?_, rfl, ?_⟩
            · clear h; rw [hx55]; exact u.1  -- d46
            · clear h; rw [hx55]; exact u.2.1  -- d47
            · clear h; rw [hx55, as]
              refine ⟨rfl, u.2.2.1, u.2.2.2.1, fun k hk z z1 z2 => ?_⟩
              by_cases e : k = x36_1.toNatClampNeg
              · rw [e] at z1 z2 ⊢
                rw [← q53.2.2 z1 z2]
                exact cn_le (y := 32) rfl c54
              · exact R k (by omega) z z1 z2
          · skip
            refine h _ _ ?_
            · clear h; exact ⟨F4, fun z => absurd c4 z, K4⟩  -- q49
    · skip
      refine h _ _ ?_
      · clear h; rw [hσ_1, j13]
        exact ⟨frM_0 (by decide), fun z k hk => vOK_f rfl (hv z k hk), nK_r rfl rfl⟩
  refine ⟨fun c56 => ?_, fun c56 => ?_⟩
  · skip
    refine hj13 _ _ ?_
    · clear h; rfl  -- k51
  · skip
    refine hj13 _ _ ?_
    · clear h; rfl  -- k52
