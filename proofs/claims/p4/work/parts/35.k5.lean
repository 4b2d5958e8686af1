set_option maxHeartbeats 1600000
/-! the reference: what comes behind an operand -/
abbrev eP1 (S N : Nat → Int32) (a : Int32) (W : eL) : eL := popW (eLv (eRk S N a)) W
theorem eBh_inv {S N : Nat → Int32} {a : Int32} {W : eL} (h : ∃ st' a' W', eBh S N a W st' a' W') : (eGo (eRk S N a) (eP1 S N a W) → S (a + 1).toNatClampNeg ≠ 4) ∧ (¬ eGo (eRk S N a) (eP1 S N a W) → ∀ x W2, popW 1 (eP1 S N a W) = x :: W2 → (x.1 = 40 → sg S N a 41) ∧ (x.1 ≠ 40 → sg S N a 93) ∧ S (a + 1).toNatClampNeg ≠ 4) := by
  obtain ⟨st', a', W', ho⟩ := h
  rcases ho with ⟨h1, h2, -, rfl, -⟩ | ⟨h2, ⟨h1, -⟩ | ⟨h1, h3, -, rfl, f, W2, h4, -⟩ | ⟨h1, h3, -, rfl, f, W2, h4, -⟩⟩
  · exact ⟨fun _ => h1, fun e => absurd h2 e⟩
  · refine ⟨fun e => absurd e h2, fun _ x W2 e => ?_⟩
    rw [h1] at e; cases e
  · refine ⟨fun e => absurd e h2, fun _ x W2 e => ?_⟩
    rw [h4] at e; cases e
    exact ⟨fun _ => h3, fun e => absurd rfl e, h1⟩
  · refine ⟨fun e => absurd e h2, fun _ x W2 e => ?_⟩
    rw [h4] at e; cases e
    exact ⟨fun e => absurd (show (91 : Int32) = 40 from e) (by decide), fun _ => h3, h1⟩
theorem eBh_go {S N : Nat → Int32} {a a' : Int32} {W W' : eL} (h : eGo (eRk S N a) (eP1 S N a W)) (h4 : S (a + 1).toNatClampNeg ≠ 4) (ha : a' = a + 1) (hW : W' = (N a.toNatClampNeg, 0) :: eP1 S N a W) : eBh S N a W 0 a' W' := by
  subst ha; exact Or.inl ⟨h4, h, rfl, rfl, hW⟩
theorem eBh_end {S N : Nat → Int32} {a a' : Int32} {W W' : eL} (h : ¬ eGo (eRk S N a) (eP1 S N a W)) (h1 : popW 1 (eP1 S N a W) = []) (ha : a' = a) (hW : W' = []) : eBh S N a W 2 a' W' := Or.inr ⟨h, Or.inl ⟨h1, rfl, ha, hW⟩⟩
theorem eBh_40 {S N : Nat → Int32} {a a' f : Int32} {W W' W2 : eL} (h : ¬ eGo (eRk S N a) (eP1 S N a W)) (h1 : popW 1 (eP1 S N a W) = (40, f) :: W2) (hs : sg S N a 41) (h4 : S (a + 1).toNatClampNeg ≠ 4) (ha : a' = a + 1) (hW : W' = turnW W2) : eBh S N a W 1 a' W' := by
  subst ha; exact Or.inr ⟨h, Or.inr (Or.inl ⟨h4, hs, rfl, rfl, f, W2, h1, hW⟩)⟩
theorem eBh_91 {S N : Nat → Int32} {a a' f : Int32} {W W' W2 : eL} (h : ¬ eGo (eRk S N a) (eP1 S N a W)) (h1 : popW 1 (eP1 S N a W) = (91, f) :: W2) (hs : sg S N a 93) (h4 : S (a + 1).toNatClampNeg ≠ 4) (ha : a' = a + 1) (hW : W' = turnW W2) : eBh S N a W 1 a' W' := by
  subst ha; exact Or.inr ⟨h, Or.inr (Or.inr ⟨h4, hs, rfl, rfl, f, W2, h1, hW⟩)⟩
theorem eLv_pos {r : Int32} : 1 ≤ eLv r := by unfold eLv; grind
theorem eRk_pos {S N : Nat → Int32} {a : Int32} (h : 0 < eRk S N a) : S a.toNatClampNeg = 3 ∧ 0 < rk (N a.toNatClampNeg) := by
  unfold eRk at h
  split at h
  · next q => exact ⟨q, h⟩
  · exact absurd h (by decide)
theorem eO_pop2 {oc : Int32} {W : eL} {c0 : Nat} {l m : Int32} (h : eO oc W c0) : eO oc (popW l (popW m W)) c0 := eO_pop (eO_pop h)
theorem behind_c {C : rCx} (hC : cOK C) (B T A : Int32) (c0 : Nat) {σ : rS}  {Q : Int32 → rS → Prop} (hp : eQ σ B T A c0 1 ∧ (σ.1 46 ≠ 0 → ∃ st' a' W', eBh (σ.2.2.1 5) (σ.2.2.1 7) (σ.1 10) (eW σ) st' a' W')) (h : ∀ (v : Int32) (σ' : rS), (((∀ k, k ≠ 10 → k ≠ 11 → k ≠ 12 → k ≠ 13 → k ≠ 47 → k ≠ 48 → k ≠ 49 → σ'.1 k = σ.1 k) ∧ (∀ k,  σ'.2.1 k = σ.2.1 k) ∧ (∀ k, k ≠ 50 → k ≠ 51 → k ≠ 52 → σ'.2.2.1 k = σ.2.2.1 k) ∧ (∀ k j, k ≠ 50 → k ≠ 51 → k ≠ 52 → σ'.2.2.1 k j = σ.2.2.1 k j) ∧ (∀ k j,  σ'.2.2.2 k j = σ.2.2.2 k j)) ∧ tK σ' B T ∧ (v = 0 ∨ v = 1 ∨ v = 2) ∧ (σ.1 46 = 0 → σ'.1 47 = 0) ∧ (σ.1 46 ≠ 0 → σ'.1 47 = 0 → σ'.1 11 = 0) ∧ (σ'.1 11 = 0 → σ'.1 47 = 0 → eBh (σ.2.2.1 5) (σ.2.2.1 7) (σ.1 10) (eW σ) v (σ'.1 10) (eW σ') ∧ (v ≠ 2 → eI (σ'.1 48) (σ'.1 49) (eW σ') v (σ'.1 10 - A)) ∧ eO (σ'.1 13) (eW σ') c0)) → Q v σ') : cI C 5 m_behind [.ref (co C)] σ Q := by
  refine m_behind_run hC ?_
  unfold w_behind_0
  obtain ⟨⟨hK, hL, hM, hF, hN, hA, h11, h47, hI, hO⟩, hm⟩ := hp
  have h66 := eI_66 hI
  have hm2 := fun e => eBh_inv (hm e)
  have hj245 : ∀  (τ : rS), (((∀ k, k ≠ 10 → k ≠ 11 → k ≠ 12 → k ≠ 13 → k ≠ 47 → k ≠ 48 → k ≠ 49 → τ.1 k = σ.1 k) ∧ (∀ k,  τ.2.1 k = σ.2.1 k) ∧ (∀ k, k ≠ 52 → τ.2.2.1 k = σ.2.2.1 k) ∧ (∀ k j, k ≠ 52 → τ.2.2.1 k j = σ.2.2.1 k j) ∧ (∀ k j,  τ.2.2.2 k j = σ.2.2.2 k j)) ∧ tK τ B T ∧ 0 ≤ τ.1 48 ∧ τ.1 48 ≤ 65600 ∧ 1 ≤ τ.1 49 ∧ τ.1 49 ≤ 65600 ∧ (σ.1 46 = 0 → τ.1 47 = 0) ∧ (σ.1 46 ≠ 0 → τ.1 47 = 0 → τ.1 11 = 0) ∧ (τ.1 11 = 0 → τ.1 47 = 0 → ¬ eGo (eRk (σ.2.2.1 5) (σ.2.2.1 7) (σ.1 10)) (eP1 (σ.2.2.1 5) (σ.2.2.1 7) (σ.1 10) (eW σ)) ∧ sg (σ.2.2.1 5) (σ.2.2.1 7) (σ.1 10) 93 ∧ rd σ 5 (σ.1 10 + 1) ≠ 4 ∧ τ.1 10 = σ.1 10 + 1 ∧ τ.1 13 = σ.1 13 - 1 ∧ ∃ f, popW 1 (eP1 (σ.2.2.1 5) (σ.2.2.1 7) (σ.1 10) (eW σ)) = (91, f) :: eW τ ∧ eI (τ.1 48 + 1) (τ.1 49) ((91, f) :: eW τ) 1 (σ.1 10 - A))) → w_behind_245 C Q   τ := by
    rintro  τ245 j245
    unfold w_behind_245
    refine goesOn_c hC  (fun r1 q3 => ?_)
    refine ⟨fun c4 => ?_, fun c4 => ?_⟩
    · skip
      refine h _ _ ?_
      · clear h; grind (splits := 30) [tK, eM, sg, nb, isU]  -- q1
    · skip
      refine turn_c hC  ?_ (fun σ_5 q6 => ?_)
      · clear h; grind (splits := 30) [tK, eM, sg, nb, isU]  -- p2
      refine h _ _ ?_
      · clear h; obtain ⟨jf, jT, j1, j2, j3, j4, j5, j6, j7⟩ := j245
        have g : τ245.1 11 = 0 ∧ τ245.1 47 = 0 := by grind
        obtain ⟨n1, n2, n3, n4, n5, f, n6, n7⟩ := j7 g.1 g.2
        have mW : eW σ_5 = turnW (eW τ245) := q6.2.1
        have ma : σ_5.1 10 = σ.1 10 + 1 ∧ σ_5.1 49 = τ245.1 49 ∧ σ_5.1 13 = σ.1 13 - 1 ∧ 0 ≤ σ_5.1 48 ∧ σ_5.1 48 ≤ τ245.1 48 + 1 := by clear j7 n7 hm hm2 hI hO; grind
        have mT : tK σ_5 B T := by grind [tK]
        have u := pL_up hL (k := 1) (Or.inl rfl) (by rw [← ma.1]; exact mT.2.2.2.2.2)
        refine ⟨by grind, mT, Or.inr (Or.inl rfl), by grind, by grind, fun _ _ => ⟨eBh_91 n1 n6 n2 n3 ma.1 mW, fun _ => ?_, ?_⟩⟩
        · rw [mW, ma.2.1, ma.1]
          exact eI_close n7 (Or.inr rfl) ma.2.2.2.1 ma.2.2.2.2 (Int32.le_of_lt u.1) u.2.1
        · rw [mW, ma.2.2.1]
          have o := eO_pop2 (l := 1) (m := eLv (eRk (σ.2.2.1 5) (σ.2.2.1 7) (σ.1 10))) hO
          rw [n6] at o
          exact eO_close o (Or.inr rfl)
  have hj216 : ∀ (l3 : Int32) (s1 : Int32) (τ : rS), (((l3 = -1 ∨ (0 ≤ l3 ∧ l3 < 34)) ∧ 0 ≤ s1) ∧ σ.1 46 ≠ 0 ∧ ((∀ k, k ≠ 10 → k ≠ 11 → k ≠ 12 → k ≠ 13 → k ≠ 47 → k ≠ 48 → k ≠ 49 → τ.1 k = σ.1 k) ∧ (∀ k,  τ.2.1 k = σ.2.1 k) ∧ (∀ k, k ≠ 52 → τ.2.2.1 k = σ.2.2.1 k) ∧ (∀ k j, k ≠ 52 → τ.2.2.1 k j = σ.2.2.1 k j) ∧ (∀ k j,  τ.2.2.2 k j = σ.2.2.2 k j)) ∧ tK τ B T ∧ 0 ≤ τ.1 48 ∧ τ.1 48 ≤ 65600 ∧ 1 ≤ τ.1 49 ∧ τ.1 49 ≤ 65600 ∧ (τ.1 47 = 0 → τ.1 11 = 0) ∧ τ.1 47 = 0 ∧ (τ.1 11 = 0 → τ.1 47 = 0 → ¬ eGo (eRk (σ.2.2.1 5) (σ.2.2.1 7) (σ.1 10)) (eP1 (σ.2.2.1 5) (σ.2.2.1 7) (σ.1 10) (eW σ)) ∧ sg (σ.2.2.1 5) (σ.2.2.1 7) (σ.1 10) 93 ∧ rd σ 5 (σ.1 10 + 1) ≠ 4 ∧ τ.1 10 = σ.1 10 + 1 ∧ τ.1 13 = σ.1 13 - 1 ∧ ∃ f, popW 1 (eP1 (σ.2.2.1 5) (σ.2.2.1 7) (σ.1 10) (eW σ)) = (91, f) :: eW τ ∧ eI (τ.1 48 + 1) (τ.1 49) ((91, f) :: eW τ) 1 (σ.1 10 - A))) → w_behind_216 C Q  l3 s1 τ := by
    rintro y216_3 y216_s1 τ216 j216
    unfold w_behind_216
    intro σ_7 hσ_7
    refine ⟨fun c8 => ?_, fun c8 => ?_⟩
    · skip
      refine ⟨ib_34.mpr ?_, ?_⟩
      · clear h; grind (splits := 30) [tK, eM, sg, nb, isU]  -- b4
      refine ⟨ib_66000.mpr ?_, ?_⟩
      · clear h; grind [si1, ri1]  -- b5
      intro σ_9 hσ_9
      refine hj245 _ ?_
      · clear h; obtain ⟨jl, jm, jf, jT, j1, j2, j3, j4, j5, j6, j7⟩ := j216
        have mW : eW σ_9 = eW τ216 := by grind [si1, si2, ri1, ri3]
        have me : σ_9.1 48 = τ216.1 48 ∧ σ_9.1 49 = τ216.1 49 ∧ σ_9.1 10 = τ216.1 10 ∧ σ_9.1 13 = τ216.1 13 ∧ σ_9.1 11 = τ216.1 11 := by grind [si1, si2, ri1]
        refine ⟨by grind [si1, si2, ri1, ri2, ri3, ri34, ri5], by grind [tK, si1, si2, ri1, ri34], by rw [me.1]; exact j1, by rw [me.1]; exact j2, by rw [me.2.1]; exact j3, by rw [me.2.1]; exact j4, fun e => absurd e jm, fun _ _ => by rw [me.2.2.2.2]; exact j5 j6, fun e1 _ => ?_⟩
        rw [mW, me.1, me.2.1, me.2.2.1, me.2.2.2.1]
        exact j7 (by rw [← me.2.2.2.2]; exact e1) j6
    · skip
      refine ⟨ib_66000.mpr ?_, ?_⟩
      · clear h; grind [si1, ri1]  -- b7
      intro σ_10 hσ_10
      refine hj245 _ ?_
      · clear h; obtain ⟨jl, jm, jf, jT, j1, j2, j3, j4, j5, j6, j7⟩ := j216
        have mW : eW σ_10 = eW τ216 := by grind [si1, si2, ri1, ri3]
        have me : σ_10.1 48 = τ216.1 48 ∧ σ_10.1 49 = τ216.1 49 ∧ σ_10.1 10 = τ216.1 10 ∧ σ_10.1 13 = τ216.1 13 ∧ σ_10.1 11 = τ216.1 11 := by grind [si1, si2, ri1]
        refine ⟨by grind [si1, si2, ri1, ri2, ri3, ri34, ri5], by grind [tK, si1, si2, ri1, ri34], by rw [me.1]; exact j1, by rw [me.1]; exact j2, by rw [me.2.1]; exact j3, by rw [me.2.1]; exact j4, fun e => absurd e jm, fun _ _ => by rw [me.2.2.2.2]; exact j5 j6, fun e1 _ => ?_⟩
        rw [mW, me.1, me.2.1, me.2.2.1, me.2.2.2.1]
        exact j7 (by rw [← me.2.2.2.2]; exact e1) j6
  have hj93 : ∀  (τ : rS), (((∀ k, k ≠ 47 → k ≠ 48 → k ≠ 49 → τ.1 k = σ.1 k) ∧ (∀ k,  τ.2.1 k = σ.2.1 k) ∧ (∀ k, k ≠ 52 → τ.2.2.1 k = σ.2.2.1 k) ∧ (∀ k j, k ≠ 52 → τ.2.2.1 k j = σ.2.2.1 k j) ∧ (∀ k j,  τ.2.2.2 k j = σ.2.2.2 k j)) ∧ eI (τ.1 48) (τ.1 49) (eW τ) 1 (σ.1 10 - A) ∧ ((σ.1 46 = 0 → τ.1 47 = 0) ∧ 0 ≤ τ.1 47) ∧ (τ.1 47 = 0 → eW τ = eP1 (σ.2.2.1 5) (σ.2.2.1 7) (σ.1 10) (eW σ) ∧ ¬ eGo (eRk (σ.2.2.1 5) (σ.2.2.1 7) (σ.1 10)) (eW τ))) → w_behind_93 C Q   τ := by
    rintro  τ93 j93
    unfold w_behind_93
    refine settle_c hC (σ.1 10 - A) ?_ (fun σ_11 q12 => ?_)
    · clear h; exact ⟨by decide, j93.2.1⟩  -- p9
    refine goesOn_c hC  (fun r13 q15 => ?_)
    refine ⟨fun c16 => ?_, fun c16 => ?_⟩
    · skip
      refine h _ _ ?_
      · clear h; grind (splits := 30) [tK, eM, sg, nb, isU]  -- q10
    · skip
      refine ⟨fun c17 => ?_, fun c17 => ?_⟩
      · skip
        refine top_c hC  ?_ (fun r18 q20 => ?_)
        · clear h; have := eI_66 q12.2.1
          clear hm hm2 hI hO; grind
        have g : σ_11.1 11 = 0 ∧ σ_11.1 47 = 0 := by grind
        have g2 : τ93.1 47 = 0 := by
          by_cases e : τ93.1 47 = 0
          · exact e
          · have e2 := q12.2.2.2.2.1 e
            rw [e2] at g
            exact absurd g.2 e
        obtain ⟨g3, g4⟩ := j93.2.2.2 g2
        rw [g3] at g4
        have g5 : eW σ_11 = popW 1 (eP1 (σ.2.2.1 5) (σ.2.2.1 7) (σ.1 10) (eW σ)) := by rw [← g3]; exact q12.2.2.2.1 (by grind) g.2
        have g66 := eI_66 q12.2.1
        have g6 : 0 < σ_11.1 48 := by grind
        have g7 := eLst_cons (n := σ_11.1 48) (w := σ_11.2.2.1 50) (r := σ_11.2.2.1 51) g6 (by grind)
        have g8 : rk (tp (eW σ_11)) ≤ 0 := by rw [g5]; exact pop_rk (by decide)
        have g9 : eI (σ_11.1 48) (σ_11.1 49) ((rd σ_11 50 (σ_11.1 48 - 1), rd σ_11 51 (σ_11.1 48 - 1)) :: eLst (σ_11.1 48 - 1).toNatClampNeg (σ_11.2.2.1 50) (σ_11.2.2.1 51)) 1 (σ.1 10 - A) := by rw [← g7]; exact q12.2.1
        have g8' : rk (tp (eLst (σ_11.1 48).toNatClampNeg (σ_11.2.2.1 50) (σ_11.2.2.1 51))) ≤ 0 := g8
        have g10 := eI_br g9 (by rw [g7] at g8'; exact g8')
        have g11 : r18 = rd σ_11 50 (σ_11.1 48 - 1) := by rw [q20]; show tp (eLst (σ_11.1 48).toNatClampNeg (σ_11.2.2.1 50) (σ_11.2.2.1 51)) = _; rw [g7]; rfl
        have g12 : 1 ≤ σ_11.1 49 := cn_one (n := nbn (eW σ_11)) q12.2.1.2.2.2.2.2.1
        have g13 : popW 1 (eP1 (σ.2.2.1 5) (σ.2.2.1 7) (σ.1 10) (eW σ)) = (rd σ_11 50 (σ_11.1 48 - 1), rd σ_11 51 (σ_11.1 48 - 1)) :: eLst (σ_11.1 48 - 1).toNatClampNeg (σ_11.2.2.1 50) (σ_11.2.2.1 51) := by rw [← g5]; exact g7
        have g14 := fun e => (hm2 e).2 g4 _ _ g13
        have g15 : σ_11.1 10 = σ.1 10 ∧ σ_11.1 13 = σ.1 13 ∧ σ_11.2.2.1 5 = σ.2.2.1 5 ∧ σ_11.2.2.1 7 = σ.2.2.1 7 ∧ σ_11.1 46 = σ.1 46 := by grind
        clear g5 g7 g8 g8' g3 g2
        refine ⟨fun c21 => ?_, fun c21 => ?_⟩
        · skip
          refine close_c hC B T ?_ (fun σ_22 q23 => ?_)
          · clear h; grind (splits := 30) [tK, eM, sg, nb, isU]  -- p12
          have m1 : σ_22.1 11 = 0 ↔ sg (σ.2.2.1 5) (σ.2.2.1 7) (σ.1 10) 93 ∧ rd σ 5 (σ.1 10 + 1) ≠ 4 := by clear hm hm2 hI hO g9 g10 g13 g14; grind [sg]
          have m0 : rd σ_11 50 (σ_11.1 48 - 1) ≠ 40 := by rw [← g11]; exact c21
          have m2 : σ.1 46 ≠ 0 → σ_22.1 11 = 0 := fun e => m1.mpr ⟨(g14 e).2.1 m0, (g14 e).2.2⟩
          have m3 : rd σ_11 50 (σ_11.1 48 - 1) = 91 ∧ validC (rd σ_11 51 (σ_11.1 48 - 1)) := by rcases g10 with q | q; exact absurd q m0; exact q
          clear hm hm2 g14 g10
          refine ⟨ib_66000.mpr ?_, ?_⟩
          · clear h; grind (splits := 30) [tK, eM, sg, nb, isU]  -- b13
          intro x24 hx24
          intro σ_25 hσ_25
          have m4 : eW σ_25 = eLst (σ_11.1 48 - 1).toNatClampNeg (σ_11.2.2.1 50) (σ_11.2.2.1 51) := by clear hI hO g9 g13; grind [si1, si2]
          have m5 : σ_25.1 11 = σ_22.1 11 ∧ σ_25.1 47 = 0 ∧ σ_25.1 48 = σ_11.1 48 - 1 ∧ σ_25.1 49 = σ_11.1 49 ∧ σ_25.1 46 = σ.1 46 := by clear hI hO g9 g13 m1; grind [si1, si2]
          have m6 : σ_22.1 11 = 0 → σ_25.1 10 = σ.1 10 + 1 ∧ σ_25.1 13 = σ.1 13 - 1 := by clear hI hO g9 g13; grind [si1, si2]
          have m7 : tK σ_25 B T := by clear hI hO g9 g13; grind [si1, si2, tK]
          have m8 : σ_25.1 48 + 1 = σ_11.1 48 := by rw [m5.2.2.1]; clear hI hO g9 g13; grind
          have m9 : ((∀ k, k ≠ 10 → k ≠ 11 → k ≠ 12 → k ≠ 13 → k ≠ 47 → k ≠ 48 → k ≠ 49 → σ_25.1 k = σ.1 k) ∧ (∀ k,  σ_25.2.1 k = σ.2.1 k) ∧ (∀ k, k ≠ 52 → σ_25.2.2.1 k = σ.2.2.1 k) ∧ (∀ k j, k ≠ 52 → σ_25.2.2.1 k j = σ.2.2.1 k j) ∧ (∀ k j,  σ_25.2.2.2 k j = σ.2.2.2 k j)) := by clear hI hO g9 g13; grind [si1, si2]
          have m10 : x24 = rd σ_11 51 (σ_11.1 48 - 1) := by clear hI hO g9 g13; grind
          have m11 : 0 ≤ σ_25.1 48 ∧ σ_25.1 48 ≤ 65600 ∧ 1 ≤ σ_25.1 49 ∧ σ_25.1 49 ≤ 65600 := by clear hI hO g9 g13; grind
          have m12 : σ_25.1 11 = 0 → σ_25.1 47 = 0 → ¬ eGo (eRk (σ.2.2.1 5) (σ.2.2.1 7) (σ.1 10)) (eP1 (σ.2.2.1 5) (σ.2.2.1 7) (σ.1 10) (eW σ)) ∧ sg (σ.2.2.1 5) (σ.2.2.1 7) (σ.1 10) 93 ∧ rd σ 5 (σ.1 10 + 1) ≠ 4 ∧ σ_25.1 10 = σ.1 10 + 1 ∧ σ_25.1 13 = σ.1 13 - 1 ∧ ∃ f, popW 1 (eP1 (σ.2.2.1 5) (σ.2.2.1 7) (σ.1 10) (eW σ)) = (91, f) :: eW σ_25 ∧ eI (σ_25.1 48 + 1) (σ_25.1 49) ((91, f) :: eW σ_25) 1 (σ.1 10 - A) := by
            intro e1 _
            rw [m5.1] at e1
            refine ⟨g4, (m1.mp e1).1, (m1.mp e1).2, (m6 e1).1, (m6 e1).2, rd σ_11 51 (σ_11.1 48 - 1), ?_, ?_⟩
            · rw [m4, ← m3.1]; exact g13
            · rw [m8, m5.2.2.2.1, m4, ← m3.1]; exact g9
          refine goesOn_c hC  (fun r26 q28 => ?_)
          refine ⟨fun c29 => ?_, fun c29 => ?_⟩
          · skip
            refine hj245 _ ?_
            · clear h; exact ⟨m9, m7, m11.1, m11.2.1, m11.2.2.1, m11.2.2.2, fun _ => m5.2.1, fun e _ => by rw [m5.1]; exact m2 e, m12⟩  -- k14
          · skip
            refine ⟨fun c30 => ?_, fun c30 => ?_⟩
            · skip
              refine hj245 _ ?_
              · clear h; exact ⟨m9, m7, m11.1, m11.2.1, m11.2.2.1, m11.2.2.2, fun _ => m5.2.1, fun e _ => by rw [m5.1]; exact m2 e, m12⟩  -- k15
            · skip
              refine ⟨ib_66000.mpr ?_, ?_⟩
              · clear h; clear hI hO g9 g13 m12; grind  -- b16
              refine cellOf_c hC  ?_ (fun r31 q33 => ?_)
              · clear h; exact ⟨by rw [m10]; exact m3.2, by clear hI hO g9 g13 m12; grind, by clear hI hO g9 g13 m12; grind⟩  -- p17
              refine ⟨fun c34 => ?_, fun c34 => ?_⟩
              · skip
                refine hj216 _ _ _ ?_
                · clear h; exact ⟨⟨q33, by decide⟩, by rw [← m5.2.2.2.2, c30]; decide, m9, m7, m11.1, m11.2.1, m11.2.2.1, m11.2.2.2, fun _ => by rw [m5.1]; exact m2 (by rw [← m5.2.2.2.2, c30]; decide), m5.2.1, m12⟩  -- k18
              · skip
                refine hj216 _ _ _ ?_
                · clear h; exact ⟨⟨q33, by decide⟩, by rw [← m5.2.2.2.2, c30]; decide, m9, m7, m11.1, m11.2.1, m11.2.2.1, m11.2.2.2, fun _ => by rw [m5.1]; exact m2 (by rw [← m5.2.2.2.2, c30]; decide), m5.2.1, m12⟩  -- k19
        · skip
          refine close_c hC B T ?_ (fun σ_35 q36 => ?_)
          · clear h; grind (splits := 30) [tK, eM, sg, nb, isU]  -- p20
          intro σ_37 hσ_37
          refine turn_c hC  ?_ (fun σ_38 q39 => ?_)
          · clear h; clear hm hm2 hI hO g9 g13 g14 g10; grind [si1, si2]  -- p21
          refine h _ _ ?_
          · clear h; have m0 : rd σ_11 50 (σ_11.1 48 - 1) = 40 := by rw [← g11]; exact c21
            have m1 : σ_35.1 11 = 0 ↔ sg (σ.2.2.1 5) (σ.2.2.1 7) (σ.1 10) 41 ∧ rd σ 5 (σ.1 10 + 1) ≠ 4 := by clear hm hm2 hI hO g9 g10 g13 g14; grind [sg]
            have m2 : σ.1 46 ≠ 0 → σ_35.1 11 = 0 := fun e => m1.mpr ⟨(g14 e).1 m0, (g14 e).2.2⟩
            clear hm hm2 g14 g10
            have m4 : eW σ_38 = turnW (eLst (σ_11.1 48 - 1).toNatClampNeg (σ_11.2.2.1 50) (σ_11.2.2.1 51)) := by clear hI hO g9 g13; grind [si1, si2]
            have m5 : σ_38.1 11 = σ_35.1 11 ∧ σ_38.1 47 = 0 ∧ σ_38.1 49 = σ_11.1 49 ∧ 0 ≤ σ_38.1 48 ∧ σ_38.1 48 ≤ σ_11.1 48 := by clear hI hO g9 g13 m1; grind [si1, si2]
            have m6 : σ_35.1 11 = 0 → σ_38.1 10 = σ.1 10 + 1 ∧ σ_38.1 13 = σ.1 13 - 1 := by clear hI hO g9 g13; grind [si1, si2]
            have m7 : tK σ_38 B T := by clear hI hO g9 g13; grind [si1, si2, tK]
            have m9 : ((∀ k, k ≠ 10 → k ≠ 11 → k ≠ 12 → k ≠ 13 → k ≠ 47 → k ≠ 48 → k ≠ 49 → σ_38.1 k = σ.1 k) ∧ (∀ k,  σ_38.2.1 k = σ.2.1 k) ∧ (∀ k, k ≠ 50 → k ≠ 51 → k ≠ 52 → σ_38.2.2.1 k = σ.2.2.1 k) ∧ (∀ k j, k ≠ 50 → k ≠ 51 → k ≠ 52 → σ_38.2.2.1 k j = σ.2.2.1 k j) ∧ (∀ k j,  σ_38.2.2.2 k j = σ.2.2.2 k j)) := by clear hI hO g9 g13; grind [si1, si2]
            refine ⟨m9, m7, Or.inr (Or.inl rfl), fun _ => m5.2.1, fun e _ => by rw [m5.1]; exact m2 e, fun e1 _ => ?_⟩
            rw [m5.1] at e1
            have u := pL_up hL (k := 1) (Or.inl rfl) (by rw [← (m6 e1).1]; exact m7.2.2.2.2.2)
            rw [m0] at g13 g9
            refine ⟨eBh_40 g4 g13 (m1.mp e1).1 (m1.mp e1).2 (m6 e1).1 m4, fun _ => ?_, ?_⟩
            · rw [m4, m5.2.2.1, (m6 e1).1]
              exact eI_close g9 (Or.inl rfl) m5.2.2.2.1 m5.2.2.2.2 (Int32.le_of_lt u.1) u.2.1
            · rw [m4, (m6 e1).2]
              have o := eO_pop2 (l := 1) (m := eLv (eRk (σ.2.2.1 5) (σ.2.2.1 7) (σ.1 10))) hO
              rw [g13] at o
              exact eO_close o (Or.inl rfl)
      · skip
        refine h _ _ ?_
        · clear h; have g : σ_11.1 11 = 0 ∧ σ_11.1 47 = 0 := by grind
          have g2 : τ93.1 47 = 0 := by
            by_cases e : τ93.1 47 = 0
            · exact e
            · have e2 := q12.2.2.2.2.1 e
              rw [e2] at g
              exact absurd g.2 e
          obtain ⟨g3, g4⟩ := j93.2.2.2 g2
          rw [g3] at g4
          have g5 : eW σ_11 = popW 1 (eP1 (σ.2.2.1 5) (σ.2.2.1 7) (σ.1 10) (eW σ)) := by rw [← g3]; exact q12.2.2.2.1 (by grind) g.2
          have g6 : eW σ_11 = [] := eLst_nil (by rw [c17]; decide)
          have m9 : ((∀ k, k ≠ 10 → k ≠ 11 → k ≠ 12 → k ≠ 13 → k ≠ 47 → k ≠ 48 → k ≠ 49 → σ_11.1 k = σ.1 k) ∧ (∀ k,  σ_11.2.1 k = σ.2.1 k) ∧ (∀ k, k ≠ 50 → k ≠ 51 → k ≠ 52 → σ_11.2.2.1 k = σ.2.2.1 k) ∧ (∀ k j, k ≠ 50 → k ≠ 51 → k ≠ 52 → σ_11.2.2.1 k j = σ.2.2.1 k j) ∧ (∀ k j,  σ_11.2.2.2 k j = σ.2.2.2 k j)) := by clear hm hm2 hI hO; grind
          refine ⟨m9, by clear hm hm2 hI hO; grind [tK], Or.inr (Or.inr rfl), fun _ => g.2, fun _ _ => g.1, fun _ _ => ⟨eBh_end g4 (by rw [← g5, g6]) (by clear hm hm2 hI hO; grind) g6, fun e => absurd rfl e, ?_⟩⟩
          have o := eO_pop2 (l := 1) (m := eLv (eRk (σ.2.2.1 5) (σ.2.2.1 7) (σ.1 10))) hO
          rw [g5, show σ_11.1 13 = σ.1 13 from by clear hm hm2 hI hO; grind]
          exact o
  have hj73 : ∀  (τ : rS), (((∀ k, k ≠ 47 → k ≠ 48 → k ≠ 49 → τ.1 k = σ.1 k) ∧ (∀ k,  τ.2.1 k = σ.2.1 k) ∧ (∀ k, k ≠ 52 → τ.2.2.1 k = σ.2.2.1 k) ∧ (∀ k j, k ≠ 52 → τ.2.2.1 k j = σ.2.2.1 k j) ∧ (∀ k j,  τ.2.2.2 k j = σ.2.2.2 k j)) ∧ eI (τ.1 48) (τ.1 49) (eW τ) 1 (σ.1 10 - A) ∧ ((σ.1 46 = 0 → τ.1 47 = 0) ∧ 0 ≤ τ.1 47) ∧ 0 < eRk (σ.2.2.1 5) (σ.2.2.1 7) (σ.1 10) ∧ (τ.1 47 = 0 → eW τ = eP1 (σ.2.2.1 5) (σ.2.2.1 7) (σ.1 10) (eW σ) ∧ eGo (eRk (σ.2.2.1 5) (σ.2.2.1 7) (σ.1 10)) (eW τ))) → w_behind_73 C Q   τ := by
    rintro  τ73 j73
    unfold w_behind_73
    refine ⟨ib_131074.mpr ?_, ?_⟩
    · clear h; grind (splits := 30) [tK, eM, sg, nb, isU]  -- b24
    refine hold_c hC  ?_ (fun σ_40 q41 => ?_)
    · clear h; have := eI_66 j73.2.1
      clear hm hm2 hI hO; grind
    refine go_c hC B T ?_ (fun σ_42 q43 => ?_)
    · clear h; have := eRk_pos j73.2.2.2.1
      clear hm hm2 hI hO; grind [tK]
    refine h _ _ ?_
    · clear h; have k3 := eRk_pos j73.2.2.2.1
      have m1 : σ_42.1 11 = 0 ↔ rd σ 5 (σ.1 10 + 1) ≠ 4 := by clear hm hm2 hI hO; grind
      have m4 : eW σ_42 = (rd σ 7 (σ.1 10), 0) :: eW τ73 := by clear hm hm2 hI hO; grind
      have m5 : σ_42.1 47 = τ73.1 47 ∧ σ_42.1 48 = τ73.1 48 + 1 ∧ σ_42.1 49 = τ73.1 49 ∧ σ_42.1 10 = σ.1 10 + 1 ∧ σ_42.1 13 = σ.1 13 := by clear hm hm2 hI hO; grind
      have m7 : tK σ_42 B T := by clear hm hm2 hI hO; grind [tK]
      have m9 : ((∀ k, k ≠ 10 → k ≠ 11 → k ≠ 12 → k ≠ 13 → k ≠ 47 → k ≠ 48 → k ≠ 49 → σ_42.1 k = σ.1 k) ∧ (∀ k,  σ_42.2.1 k = σ.2.1 k) ∧ (∀ k, k ≠ 50 → k ≠ 51 → k ≠ 52 → σ_42.2.2.1 k = σ.2.2.1 k) ∧ (∀ k j, k ≠ 50 → k ≠ 51 → k ≠ 52 → σ_42.2.2.1 k j = σ.2.2.1 k j) ∧ (∀ k j,  σ_42.2.2.2 k j = σ.2.2.2 k j)) := by clear hm hm2 hI hO; grind
      refine ⟨m9, m7, Or.inl rfl, fun e => by rw [m5.1]; exact j73.2.2.1.1 e, fun e e1 => ?_, fun e1 e2 => ?_⟩
      · rw [m5.1] at e1
        obtain ⟨z1, z2⟩ := j73.2.2.2.2 e1
        rw [z1] at z2
        exact m1.mpr ((hm2 e).1 z2)
      · rw [m5.1] at e2
        obtain ⟨z1, z2⟩ := j73.2.2.2.2 e2
        have u := pL_up hL (k := 1) (Or.inl rfl) (by rw [← m5.2.2.2.1]; exact m7.2.2.2.2.2)
        refine ⟨eBh_go (by rw [← z1]; exact z2) (m1.mp e1) m5.2.2.2.1 (by rw [m4, z1]), fun _ => ?_, ?_⟩
        · rw [m4, m5.2.1, m5.2.2.1, m5.2.2.2.1]
          exact eI_bin j73.2.1 k3.2 u.1 u.2.1
        · rw [m4, m5.2.2.2.2, z1]
          exact eO_U (eO_pop hO) (rk_br k3.2)
  have hj50 : ∀ (l1 : Int32) (s1 : Int32) (τ : rS), (σ = τ ∧ l1 = eRk (σ.2.2.1 5) (σ.2.2.1 7) (σ.1 10) ∧ s1 = eLv l1) → w_behind_50 C Q  l1 s1 τ := by
    rintro y50_1 y50_s1 _ ⟨rfl, j50⟩
    unfold w_behind_50
    refine settle_c hC (σ.1 10 - A) ?_ (fun σ_44 q45 => ?_)
    · clear h; exact ⟨by rw [j50.2]; exact eLv_pos, hI⟩  -- p28
    refine ⟨fun c46 => ?_, fun c46 => ?_⟩
    · skip
      refine hj93 _ ?_
      · clear h; clear hm hm2 hI hO; grind [eGo]  -- k29
    · skip
      refine ⟨fun c47 => ?_, fun c47 => ?_⟩
      · skip
        refine hj73 _ ?_
        · clear h; clear hm hm2 hI hO; grind [eGo]  -- k30
      · skip
        refine top_c hC  ?_ (fun r48 q50 => ?_)
        · clear h; have := eI_66 q45.2.1
          clear hm hm2 hI hO; grind
        refine rank_c hC  (fun r51 q53 => ?_)
        refine ⟨fun c54 => ?_, fun c54 => ?_⟩
        · skip
          refine hj93 _ ?_
          · clear h; clear hm hm2 hI hO; grind [eGo]  -- k32
        · skip
          refine hj73 _ ?_
          · clear h; clear hm hm2 hI hO; grind [eGo]  -- k33
  have hj29 : ∀ (s0 : Int32) (τ : rS), (σ = τ ∧ s0 = eRk (σ.2.2.1 5) (σ.2.2.1 7) (σ.1 10)) → w_behind_29 C Q  s0 τ := by
    rintro y29_s0 _ ⟨rfl, j29⟩
    unfold w_behind_29
    refine ⟨fun c55 => ?_, fun c55 => ?_⟩
    · skip
      refine ⟨fun c56 => ?_, fun c56 => ?_⟩
      · skip
        refine hj50 _ _ _ ?_
        · clear h; clear hm hm2 hI hO; grind [eLv]  -- k34
      · skip
        refine hj50 _ _ _ ?_
        · clear h; clear hm hm2 hI hO; grind [eLv]  -- k35
    · skip
      refine hj50 _ _ _ ?_
      · clear h; clear hm hm2 hI hO; grind [eLv]  -- k36
  refine ⟨ib_131074.mpr ?_, ?_⟩
  · clear h; grind (splits := 30) [tK, eM, sg, nb, isU]  -- b37
  refine ⟨fun c57 => ?_, fun c57 => ?_⟩
  · skip
    refine hj29 _ _ ?_
    · clear h; clear hm hm2 hI hO; grind [eRk]  -- k38
  · skip
    refine ⟨ib_131074.mpr ?_, ?_⟩
    · clear h; grind (splits := 30) [tK, eM, sg, nb, isU]  -- b39
    refine rank_c hC  (fun r58 q60 => ?_)
    refine hj29 _ _ ?_
    · clear h; clear hm hm2 hI hO; grind [eRk]  -- k40
