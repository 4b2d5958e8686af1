set_option maxHeartbeats 1600000
/-! the class: Web's weaveBack, reach -/
abbrev weRf : List Nat := [weFirsts, weTargets, weBackFirsts, weSources, weEdges, weOpen, weKnotFirsts, weKnotOf, weOrder, weSeen, weLow, weCursor, wePath, weHeap]
theorem weRf_r : ∀ f, f ∈ weRf → (∃ t, zr f = some t ∧ 20 ≤ t) ∧ f / 100 = 14 := by
  intro f h
  have z : ∀ q ∈ [(weFirsts, 20), (weTargets, 20), (weBackFirsts, 20), (weSources, 20), (weEdges, 20), (weOpen, 23), (weKnotFirsts, 20), (weKnotOf, 20), (weOrder, 20), (weSeen, 20), (weLow, 20), (weCursor, 20), (wePath, 20), (weHeap, 20)], zr q.1 = some q.2 ∧ 20 ≤ q.2 ∧ q.1 / 100 = 14 := by decide +kernel
  have m : ∃ t, (f, t) ∈ [(weFirsts, 20), (weTargets, 20), (weBackFirsts, 20), (weSources, 20), (weEdges, 20), (weOpen, 23), (weKnotFirsts, 20), (weKnotOf, 20), (weOrder, 20), (weSeen, 20), (weLow, 20), (weCursor, 20), (wePath, 20), (weHeap, 20)] := by
    simp only [List.mem_cons, List.not_mem_nil, or_false] at h
    rcases h with rfl | rfl | rfl | rfl | rfl | rfl | rfl | rfl | rfl | rfl | rfl | rfl | rfl | rfl
    · exact ⟨20, by decide⟩
    · exact ⟨20, by decide⟩
    · exact ⟨20, by decide⟩
    · exact ⟨20, by decide⟩
    · exact ⟨20, by decide⟩
    · exact ⟨23, by decide⟩
    · exact ⟨20, by decide⟩
    · exact ⟨20, by decide⟩
    · exact ⟨20, by decide⟩
    · exact ⟨20, by decide⟩
    · exact ⟨20, by decide⟩
    · exact ⟨20, by decide⟩
    · exact ⟨20, by decide⟩
    · exact ⟨20, by decide⟩
  obtain ⟨t, m⟩ := m
  have y := z _ m
  exact ⟨⟨t, y.1, y.2.1⟩, y.2.2⟩
theorem weRf_n {C : zC} {n0 a f g : Nat} {κ : zS} (W : zW C n0 κ) (T : zT κ a = 14) (hf : f ∈ weRf) (hg : g ∈ weRf) (h : f ≠ g) : zR κ f a ≠ zR κ g a := by
  obtain ⟨⟨t, h1, h2⟩, h3⟩ := weRf_r f hf
  obtain ⟨⟨u, g1, g2⟩, g3⟩ := weRf_r g hg
  exact ow_ne W h1 h2 (T.trans h3.symm) g1 g2 (T.trans g3.symm) h
theorem weRf_o {C : zC} {n0 a f : Nat} {κ : zS} (W : zW C n0 κ) (T : zT κ a = 14) (hf : f ∈ weRf) : zO κ (zR κ f a) = (f, a) := by
  obtain ⟨⟨t, h1, h2⟩, h3⟩ := weRf_r f hf
  exact W.o h1 h2 (T.trans h3.symm)
/-- only rows of one object were written -/
def weE (κ τ : zS) (a : Nat) : Prop := zF (objF a) κ τ ∧ zR τ = zR κ ∧ zI τ = zI κ ∧ zN τ = zN κ
theorem weE.rf {κ : zS} {a : Nat} : weE κ κ a := ⟨zF.rf, rfl, rfl, rfl⟩
theorem weE.tr {κ τ σ : zS} {a : Nat} (h : weE κ τ a) (g : weE τ σ a) : weE κ σ a := ⟨h.1.tr g.1, g.2.1.trans h.2.1, g.2.2.1.trans h.2.2.1, g.2.2.2.trans h.2.2.2⟩
theorem we_u {C : zC} {n0 a f i : Nat} {κ τ : zS} {x : Int32} (W : zW C n0 κ) (T : zT κ a = 14) (hf : f ∈ weRf) (e : τ = ua κ (zR κ f a) i x) : weE κ τ a ∧ zA τ (zR κ f a) = upd (zA κ (zR κ f a)) i x ∧ (∀ g, g ∈ weRf → g ≠ f → zA τ (zR κ g a) = zA κ (zR κ g a)) ∧ zT τ a = 14 := by
  have o := weRf_o W T hf
  refine ⟨⟨by rw [e]; exact zF_ua (by rw [o]), by rw [e]; rfl, by rw [e]; rfl, by rw [e]; rfl⟩, by rw [e]; exact if_pos rfl, fun g hg hn => by rw [e]; exact if_neg (weRf_n W T hg hf hn), by rw [e]; exact T⟩
theorem weM_E {κ τ : zS} {a : Nat} (h : weE κ τ a) (M : weM κ a) : weM τ a := by unfold weM; rw [h.2.1, h.2.2.2]; exact M
theorem weL_E {κ τ : zS} {a : Nat} (h : weE κ τ a) (M : weL κ a) : weL τ a := by unfold weL; rw [h.2.1, h.2.2.2]; exact M
/-- the atlas's rows stay -/
theorem at_E {C : zC} {n0 a b f : Nat} {κ τ : zS} (W : zW C n0 κ) (T : zT κ a = 14) (Tb : zT κ b = 3) (h : zF (objF a) κ τ) (hf : f ∈ atRf) : zR τ f b = zR κ f b ∧ zA τ (zR τ f b) = zA κ (zR κ f b) ∧ zN τ (zR τ f b) = zN κ (zR κ f b) := by
  have ne : b ≠ a := fun z => by rw [z, T] at Tb; exact absurd Tb (by decide)
  obtain ⟨⟨t, h1, h2⟩, h3⟩ := atRf_r f hf
  have T9 := Tb.trans h3.symm
  have ty := W.r h1 T9
  have t1 : zT κ (zR κ f b) = (t - 1) + 1 := by omega
  refine ⟨h.r ne, (h.row W h1 h2 T9 ne).1, ?_⟩
  rw [h.r ne]
  exact h.l t1
/-- which next is a link to which state -/
def lkD (κ : zS) (a : Nat) (p : Int32) (t k i : Nat) : Int32 := if (zA κ (zR κ atSorts a) i = 0 ∧ (p = 0 ∨ zA κ (zR κ atChooses a) k = 0 ∨ Int32.ofNat i = zA κ (zR κ atFirsts a) k + zA κ (zR κ atPlan a) k)) ∧ (zA κ (zR κ atNumbers a) i).toInt = (t : Int) then 1 else 0
theorem lkD_01 {κ : zS} {a : Nat} {p : Int32} {t k i : Nat} : lkD κ a p t k i = 0 ∨ lkD κ a p t k i = 1 := by
  unfold lkD
  split
  · exact Or.inr rfl
  · exact Or.inl rfl
theorem lkD_E {C : zC} {n0 a b : Nat} {κ τ : zS} {p : Int32} (W : zW C n0 κ) (T : zT κ a = 14) (Tb : zT κ b = 3) (h : zF (objF a) κ τ) : lkD τ b p = lkD κ b p := by
  funext t k i
  unfold lkD
  rw [(at_E W T Tb h (f := atSorts) (by decide)).2.1, (at_E W T Tb h (f := atChooses) (by decide)).2.1, (at_E W T Tb h (f := atFirsts) (by decide)).2.1, (at_E W T Tb h (f := atPlan) (by decide)).2.1, (at_E W T Tb h (f := atNumbers) (by decide)).2.1]
/-- counting links -/
def cNl (D : Nat → Nat → Nat → Int32) (F : Nat → Int32) (t k : Nat) : Int := sgI (fun j => wSm (D t j) (F j).toInt (F (j + 1)).toInt) k
def cP (D : Nat → Nat → Nat → Int32) (F : Nat → Int32) (t k : Nat) (x : Int) : Int := cNl D F t k + wSm (D t k) (F k).toInt x
abbrev d01 (D : Nat → Nat → Nat → Int32) : Prop := ∀ t k i, D t k i = 0 ∨ D t k i = 1
theorem wSm_0 {Wt : Nat → Int32} {lo : Int} : wSm Wt lo lo = 0 := by
  unfold wSm
  have z : (lo - lo).toNat = 0 := by omega
  rw [z]; rfl
theorem cP_0 {D : Nat → Nat → Nat → Int32} {F : Nat → Int32} {t k : Nat} : cP D F t k (F k).toInt = cNl D F t k := by
  unfold cP
  rw [wSm_0]; omega
theorem cP_e {D : Nat → Nat → Nat → Int32} {F : Nat → Int32} {t k : Nat} : cP D F t k (F (k + 1)).toInt = cNl D F t (k + 1) := rfl
theorem cP_s {D : Nat → Nat → Nat → Int32} {F : Nat → Int32} {t k : Nat} {x : Int} (h0 : 0 ≤ (F k).toInt) (h1 : (F k).toInt ≤ x) : cP D F t k (x + 1) = cP D F t k x + (D t k x.toNat).toInt := by
  unfold cP
  rw [wSm_ex (Wt := D t k) (Wt' := D t k) h0 h1 (fun _ _ => rfl)]
  omega
theorem d01_i {D : Nat → Nat → Nat → Int32} (d : d01 D) (t k i : Nat) : 0 ≤ (D t k i).toInt ∧ (D t k i).toInt ≤ 1 := by
  rcases d t k i with e | e
  · rw [e]; decide
  · rw [e]; decide
theorem wSm_mo {Wt : Nat → Int32} {lo x hi : Int} (p : ∀ i, 0 ≤ (Wt i).toInt) (h : x ≤ hi) : wSm Wt lo x ≤ wSm Wt lo hi := sgI_mo (by omega) (fun i _ => p _)
theorem wSm_p {Wt : Nat → Int32} {lo x : Int} (p : ∀ i, 0 ≤ (Wt i).toInt) : 0 ≤ wSm Wt lo x := by
  have := sgI_mo (f := fun i => (Wt (lo.toNat + i)).toInt) (n := 0) (m := (x - lo).toNat) (Nat.zero_le _) (fun i _ => p _)
  exact this
theorem cP_le {D : Nat → Nat → Nat → Int32} {F : Nat → Int32} {t k n : Nat} {x : Int} (d : d01 D) (h : x ≤ (F (k + 1)).toInt) (hk : k < n) : cP D F t k x ≤ cNl D F t n := by
  have a1 : cP D F t k x ≤ cP D F t k (F (k + 1)).toInt := by
    unfold cP
    have := wSm_mo (Wt := D t k) (lo := (F k).toInt) (fun i => (d01_i d t k i).1) h
    omega
  have a2 : cNl D F t (k + 1) ≤ cNl D F t n := sgI_mo (by omega) (fun i _ => wSm_p (fun j => (d01_i d t i j).1))
  rw [cP_e] at a1
  omega
theorem cNl_p {D : Nat → Nat → Nat → Int32} {F : Nat → Int32} {t k : Nat} (d : d01 D) : 0 ≤ cNl D F t k := by
  have := sgI_mo (f := fun j => wSm (D t j) (F j).toInt (F (j + 1)).toInt) (n := 0) (m := k) (Nat.zero_le _) (fun i _ => wSm_p (fun j => (d01_i d t i j).1))
  exact this
theorem cP_p {D : Nat → Nat → Nat → Int32} {F : Nat → Int32} {t k : Nat} {x : Int} (d : d01 D) : 0 ≤ cP D F t k x := by
  have a := cNl_p (F := F) (t := t) (k := k) d
  have b := wSm_p (Wt := D t k) (lo := (F k).toInt) (x := x) (fun j => (d01_i d t k j).1)
  unfold cP
  omega
/-- where the links to a state begin -/
def bkB (D : Nat → Nat → Nat → Int32) (F : Nat → Int32) (n : Nat) (L : Int) (B : Nat → Int32) : Prop := (B 0).toInt = 0 ∧ (∀ t, t < n → (B (t + 1)).toInt = (B t).toInt + cNl D F t n) ∧ (B n).toInt ≤ L
def bkC (D : Nat → Nat → Nat → Int32) (F : Nat → Int32) (n : Nat) (B cur : Nat → Int32) (k : Nat) (x : Int) : Prop := ∀ t, t < n → (cur t).toInt = (B t).toInt + cP D F t k x
def gdE (D : Nat → Nat → Nat → Int32) (F : Nat → Int32) (n t : Nat) (s e : Int32) : Prop := (0 ≤ s.toInt ∧ s.toInt < n) ∧ ((F s.toNatClampNeg).toInt ≤ e.toInt ∧ e.toInt < (F (s.toNatClampNeg + 1)).toInt) ∧ D t s.toNatClampNeg e.toNatClampNeg = 1
def bkE (D : Nat → Nat → Nat → Int32) (F : Nat → Int32) (n : Nat) (B cur Sr Ed : Nat → Int32) : Prop := ∀ t, t < n → ∀ b : Nat, (B t).toInt ≤ (b : Int) → (b : Int) < (cur t).toInt → gdE D F n t (Sr b) (Ed b)
theorem bkB_m {D : Nat → Nat → Nat → Int32} {F : Nat → Int32} {n : Nat} {L : Int} {B : Nat → Int32} (d : d01 D) (h : bkB D F n L B) : ∀ {t s : Nat}, s ≤ t → t ≤ n → (B s).toInt ≤ (B t).toInt := by
  intro t
  induction t with
  | zero =>
    intro s h1 _
    have : s = 0 := by omega
    rw [this]; exact Int.le_refl _
  | succ t ih =>
    intro s h1 h2
    by_cases z : s = t + 1
    · rw [z]; exact Int.le_refl _
    · have a1 := ih (s := s) (by omega) (by omega)
      have a2 := h.2.1 t (by omega)
      have a3 := cNl_p (F := F) (t := t) (k := n) d
      omega
theorem bk_n {D : Nat → Nat → Nat → Int32} {F : Nat → Int32} {n k : Nat} {B cur : Nat → Int32} {x : Int} (h : bkC D F n B cur k x) (h0 : 0 ≤ (F k).toInt) (h1 : (F k).toInt ≤ x) (z : ∀ t, t < n → D t k x.toNat = 0) : bkC D F n B cur k (x + 1) := fun t ht => by
  rw [cP_s h0 h1, z t ht, h t ht, t0i]; omega
/-- where the next link's place is -/
theorem bk_b {D : Nat → Nat → Nat → Int32} {F : Nat → Int32} {n k t : Nat} {B cur : Nat → Int32} {x L : Int} (d : d01 D) (hB : bkB D F n L B) (h : bkC D F n B cur k x) (h0 : 0 ≤ (F k).toInt) (h1 : (F k).toInt ≤ x) (h2 : x < (F (k + 1)).toInt) (hk : k < n) (ht : t < n) (z : D t k x.toNat = 1) : (0 ≤ (cur t).toInt ∧ (cur t).toInt < L) ∧ (B t).toInt ≤ (cur t).toInt ∧ (cur t).toInt < (B (t + 1)).toInt := by
  have a0 := bkB_m d hB (s := 0) (t := t) (Nat.zero_le _) (by omega)
  have a1 := bkB_m d hB (s := t + 1) (t := n) (by omega) (Nat.le_refl _)
  have a2 := h t ht
  have a3 := hB.2.1 t ht
  have a4 := cP_le (t := t) (n := n) d (x := x + 1) (F := F) (k := k) (by omega) hk
  rw [cP_s h0 h1, z, t1i] at a4
  have a5 := cP_p (F := F) (t := t) (k := k) (x := x) d
  have a6 := hB.2.2
  have a7 := hB.1
  omega
theorem bk_s {D : Nat → Nat → Nat → Int32} {F : Nat → Int32} {n k t : Nat} {B cur cur' Sr Ed Sr' Ed' : Nat → Int32} {L : Int} {K X p1 : Int32} (d : d01 D) (hB : bkB D F n L B) (h : bkC D F n B cur k X.toInt) (hE : bkE D F n B cur Sr Ed) (hn : n < 2147483648) (hK : K.toInt = (k : Int)) (h0 : 0 ≤ (F k).toInt) (h1 : (F k).toInt ≤ X.toInt) (h2 : X.toInt < (F (k + 1)).toInt) (hk : k < n) (ht : t < n) (z : D t k X.toInt.toNat = 1) (zo : ∀ s, s < n → s ≠ t → D s k X.toInt.toNat = 0) (ep : p1.toInt = (cur t).toInt + 1) (ec : cur' = upd cur t p1) (eS : Sr' = upd Sr (cur t).toNatClampNeg K) (eE : Ed' = upd Ed (cur t).toNatClampNeg X) : bkC D F n B cur' k (X.toInt + 1) ∧ bkE D F n B cur' Sr' Ed' := by
  obtain ⟨b1, b2, b3⟩ := bk_b d hB h h0 h1 h2 hk ht z
  have kc := cnk b1.1
  have kK : K.toNatClampNeg = k := by
    have := cnk (x := K) (by omega)
    omega
  refine ⟨fun s hs => ?_, fun s hs b g1 g2 => ?_⟩
  · rw [cP_s h0 h1, ec]
    by_cases e : s = t
    · subst e
      have q : upd cur s p1 s = p1 := if_pos rfl
      rw [q, z, t1i, ep, h s hs]; omega
    · have q : upd cur t p1 s = cur s := if_neg e
      rw [q, zo s hs e, t0i, h s hs]; omega
  · have q3 : s = t ∨ (upd cur t p1 s = cur s ∧ s ≠ t) := by
      by_cases e : s = t
      · exact Or.inl e
      · exact Or.inr ⟨if_neg e, e⟩
    rw [eS, eE]
    by_cases e : b = (cur t).toNatClampNeg
    · have ss : s = t := by
        rcases q3 with q | ⟨q, ne⟩
        · exact q
        · exfalso
          rw [ec, q] at g2
          have c1 : (cur s).toInt ≤ (B (s + 1)).toInt := by
            rw [h s hs, hB.2.1 s hs]
            have := cP_le (t := s) (n := n) d (x := X.toInt) (F := F) (k := k) (by omega) hk
            omega
          by_cases lt : s < t
          · have := bkB_m d hB (s := s + 1) (t := t) (by omega) (by omega)
            omega
          · have := bkB_m d hB (s := t + 1) (t := s) (by omega) (by omega)
            omega
      subst ss
      have q1 : upd Sr (cur s).toNatClampNeg K b = K := if_pos e
      have q2 : upd Ed (cur s).toNatClampNeg X b = X := if_pos e
      rw [q1, q2]
      unfold gdE
      rw [kK]
      exact ⟨by omega, ⟨h1, h2⟩, z⟩
    · have q1 : upd Sr (cur t).toNatClampNeg K b = Sr b := if_neg e
      have q2 : upd Ed (cur t).toNatClampNeg X b = Ed b := if_neg e
      rw [q1, q2]
      refine hE s hs b g1 ?_
      rcases q3 with q | ⟨q, ne⟩
      · subst q
        have q9 : upd cur s p1 s = p1 := if_pos rfl
        rw [ec, q9] at g2
        omega
      · rw [ec, q] at g2
        exact g2
/-- the atlas as the web reads it -/
def atW (κ : zS) (a n : Nat) : Prop := atM κ a ∧ atL κ a ∧ n ≤ 1000 ∧ (zI κ hoTotal (zR κ atStates a)).toInt = (n : Int) ∧ (zI κ atNexts a).toInt ≤ (zN κ (zR κ atNumbers a)) ∧ ∀ k, k < n → exK κ a k
/-- the sums of what was counted -/
def bkA (B0 B cur : Nat → Int32) (k : Nat) : Prop := (∀ t, t ≤ k → (B t).toInt = sgI (fun s => (B0 (s + 1)).toInt) t) ∧ (∀ t, k < t → B t = B0 t) ∧ ∀ t, t < k → cur t = B t
theorem bkA_s {B0 B cur B' cur' : Nat → Int32} {n k : Nat} (h : bkA B0 B cur k) (hk : k < n) (p : ∀ t, t < n → 0 ≤ (B0 (t + 1)).toInt) (hs : sgI (fun s => (B0 (s + 1)).toInt) n ≤ 20000) (eB : B' = upd B (k + 1) (B (k + 1) + B k)) (ec : cur' = upd cur k (B' k)) : bkA B0 B' cur' (k + 1) := by
  obtain ⟨h1, h2, h3⟩ := h
  have a1 := h1 k (Nat.le_refl _)
  have a2 := h2 (k + 1) (Nat.lt_succ_self k)
  have m1 := sgI_mo (f := fun s => (B0 (s + 1)).toInt) (n := k + 1) (m := n) (by omega) p
  have m0 := sgI_mo (f := fun s => (B0 (s + 1)).toInt) (n := 0) (m := k) (Nat.zero_le _) (fun i hi => p i (by omega))
  have pk := p k hk
  have sk : sgI (fun s => (B0 (s + 1)).toInt) (k + 1) = sgI (fun s => (B0 (s + 1)).toInt) k + (B0 (k + 1)).toInt := rfl
  have s0 : sgI (fun s => (B0 (s + 1)).toInt) 0 = 0 := rfl
  have e1 : (B (k + 1) + B k).toInt = sgI (fun s => (B0 (s + 1)).toInt) (k + 1) := by
    rw [add_i (by rw [a1, a2]; omega) (by rw [a1, a2]; omega), a1, a2, sk]; omega
  refine ⟨fun t ht => ?_, fun t ht => ?_, fun t ht => ?_⟩
  · rw [eB]
    by_cases z : t = k + 1
    · subst z
      have q : upd B (k + 1) (B (k + 1) + B k) (k + 1) = B (k + 1) + B k := if_pos rfl
      rw [q, e1]
    · have q : upd B (k + 1) (B (k + 1) + B k) t = B t := if_neg z
      rw [q]
      exact h1 t (by omega)
  · have q : upd B (k + 1) (B (k + 1) + B k) t = B t := if_neg (by omega)
    rw [eB, q]
    exact h2 t (by omega)
  · have q9 : B' t = B t := by rw [eB]; exact if_neg (by omega)
    by_cases z : t = k
    · rw [ec, z]; exact if_pos rfl
    · have q : upd cur k (B' k) t = cur t := if_neg z
      rw [ec, q, q9]
      exact h3 t (by omega)
theorem bkA_e {D : Nat → Nat → Nat → Int32} {F B0 B cur Sr Ed : Nat → Int32} {n : Nat} {L : Int} (h : bkA B0 B cur n) (p : ∀ t, t < n → (B0 (t + 1)).toInt = cNl D F t n) (hs : sgI (fun s => (B0 (s + 1)).toInt) n ≤ L) : bkB D F n L B ∧ bkC D F n B cur 0 (F 0).toInt ∧ bkE D F n B cur Sr Ed := by
  obtain ⟨h1, h2, h3⟩ := h
  refine ⟨⟨h1 0 (Nat.zero_le _), fun t ht => ?_, by rw [h1 n (Nat.le_refl _)]; exact hs⟩, fun t ht => ?_, fun t ht b g1 g2 => ?_⟩
  · rw [h1 (t + 1) ht, h1 t (by omega), ← p t ht]
    rfl
  · rw [cP_0, h3 t ht]
    have z : cNl D F t 0 = 0 := rfl
    rw [z]; omega
  · rw [h3 t ht] at g2
    omega
abbrev bkL : List Nat := [weBackFirsts, weCursor, weSources, weEdges]
def rwK (κ τ : zS) (a : Nat) (L : List Nat) : Prop := ∀ f, f ∈ weRf → f ∉ L → zA τ (zR κ f a) = zA κ (zR κ f a)
def bkI (κ τ : zS) (a b : Nat) (p : Int32) (n k : Nat) (x : Int) : Prop := weE κ τ a ∧ rwK κ τ a bkL ∧ bkB (lkD κ b p) (zA κ (zR κ atFirsts b)) n ((zN κ (zR κ weTargets a))) (zA τ (zR κ weBackFirsts a)) ∧ bkC (lkD κ b p) (zA κ (zR κ atFirsts b)) n (zA τ (zR κ weBackFirsts a)) (zA τ (zR κ weCursor a)) k x ∧ bkE (lkD κ b p) (zA κ (zR κ atFirsts b)) n (zA τ (zR κ weBackFirsts a)) (zA τ (zR κ weCursor a)) (zA τ (zR κ weSources a)) (zA τ (zR κ weEdges a))
theorem bkI_s {C : zC} {n0 a b n k t : Nat} {κ σ κ1 κ2 κ3 : zS} {p K X : Int32} (W : zW C n0 σ) (W1 : zW C n0 κ1) (W2 : zW C n0 κ2) (T : zT σ a = 14) (hL : (zN κ (zR κ weTargets a)) ≤ 20000) (H : bkI κ σ a b p n k X.toInt) (hn : n < 2147483648) (hK : K.toInt = (k : Int)) (h0 : 0 ≤ (zA κ (zR κ atFirsts b) k).toInt) (h1 : (zA κ (zR κ atFirsts b) k).toInt ≤ X.toInt) (h2 : X.toInt < (zA κ (zR κ atFirsts b) (k + 1)).toInt) (hk : k < n) (ht : t < n) (z : lkD κ b p t k X.toInt.toNat = 1) (zo : ∀ s, s < n → s ≠ t → lkD κ b p s k X.toInt.toNat = 0) (e1 : κ1 = ua σ (zR σ weSources a) (zA σ (zR σ weCursor a) t).toNatClampNeg K) (e2 : κ2 = ua κ1 (zR κ1 weEdges a) (zA κ1 (zR κ1 weCursor a) t).toNatClampNeg X) (e3 : κ3 = ua κ2 (zR κ2 weCursor a) t (zA κ2 (zR κ2 weCursor a) t + 1)) : bkI κ κ3 a b p n k (X.toInt + 1) := by
  obtain ⟨E, R, hB, hC, hE⟩ := H
  obtain ⟨u1, u2, u3, u4⟩ := we_u W T (f := weSources) (by decide) e1
  obtain ⟨v1, v2, v3, v4⟩ := we_u W1 u4 (f := weEdges) (by decide) e2
  obtain ⟨w1, w2, w3, w4⟩ := we_u W2 v4 (f := weCursor) (by decide) e3
  have rs := E.2.1
  have r1 : zR κ1 = zR κ := u1.2.1.trans rs
  have r2 : zR κ2 = zR κ := v1.2.1.trans r1
  rw [rs] at u2 u3
  rw [r1] at v2 v3
  rw [r2] at w2 w3
  have c1 : zA κ1 (zR κ weCursor a) = zA σ (zR κ weCursor a) := u3 weCursor (by decide) (by decide)
  have c2 : zA κ2 (zR κ weCursor a) = zA σ (zR κ weCursor a) := (v3 weCursor (by decide) (by decide)).trans c1
  have s3 : zA κ3 (zR κ weSources a) = upd (zA σ (zR κ weSources a)) (zA σ (zR κ weCursor a) t).toNatClampNeg K := (w3 weSources (by decide) (by decide)).trans ((v3 weSources (by decide) (by decide)).trans u2)
  have d3 : zA κ3 (zR κ weEdges a) = upd (zA σ (zR κ weEdges a)) (zA σ (zR κ weCursor a) t).toNatClampNeg X := by
    rw [w3 weEdges (by decide) (by decide), v2, u3 weEdges (by decide) (by decide), c1]
  have b3 : zA κ3 (zR κ weBackFirsts a) = zA σ (zR κ weBackFirsts a) := (w3 weBackFirsts (by decide) (by decide)).trans ((v3 weBackFirsts (by decide) (by decide)).trans (u3 weBackFirsts (by decide) (by decide)))
  rw [c2] at w2
  have d : d01 (lkD κ b p) := fun _ _ _ => lkD_01
  have bb := bk_b d hB hC h0 h1 h2 hk ht z
  have ep : (zA σ (zR κ weCursor a) t + 1).toInt = (zA σ (zR κ weCursor a) t).toInt + 1 := (cn1 bb.1.1 (by omega)).2
  obtain ⟨f1, f2⟩ := bk_s d hB hC hE hn hK h0 h1 h2 hk ht z zo ep w2 s3 d3
  refine ⟨((E.tr u1).tr v1).tr w1, fun f hf hl => ?_, by rw [b3]; exact hB, by rw [b3]; exact f1, by rw [b3]; exact f2⟩
  have n1 : f ≠ weSources := fun y => hl (by rw [y]; decide)
  have n2 : f ≠ weEdges := fun y => hl (by rw [y]; decide)
  have n3 : f ≠ weCursor := fun y => hl (by rw [y]; decide)
  rw [w3 f hf n3, v3 f hf n2, u3 f hf n1]
  exact R f hf hl
theorem lkD_1 {κ : zS} {a t k i : Nat} {p : Int32} (h : lkD κ a p t k i = 1) : (zA κ (zR κ atSorts a) i = 0 ∧ (p = 0 ∨ zA κ (zR κ atChooses a) k = 0 ∨ Int32.ofNat i = zA κ (zR κ atFirsts a) k + zA κ (zR κ atPlan a) k)) ∧ (zA κ (zR κ atNumbers a) i).toInt = (t : Int) := by
  unfold lkD at h
  split at h
  · assumption
  · exact absurd h (by decide)
/-- how many marks stand -/
def cBq (f : Nat → Int32) (n : Nat) : Int := sgI (fun k => if f k = 0 then 0 else 1) n
theorem cBq_up {f : Nat → Int32} {n k : Nat} {x : Int32} (hk : k < n) (h : f k = 0) (hx : x ≠ 0) : cBq (upd f k x) n = cBq f n + 1 := by
  refine sgI_up (j := k) hk (fun i _ hi => ?_) ?_
  · show (if (if i = k then x else f i) = 0 then (0 : Int) else 1) = if f i = 0 then 0 else 1
    rw [if_neg hi]
  · show (if (if k = k then x else f k) = 0 then (0 : Int) else 1) = (if f k = 0 then 0 else 1) + 1
    rw [if_pos rfl, if_neg hx, if_pos h]
    rfl
theorem cBq_le {f : Nat → Int32} : ∀ {n : Nat}, 0 ≤ cBq f n ∧ cBq f n ≤ n
  | 0 => ⟨Int.le_refl _, Int.le_refl _⟩
  | n + 1 => by
    have a := cBq_le (f := f) (n := n)
    have e : cBq f (n + 1) = cBq f n + (if f n = 0 then 0 else 1) := rfl
    rw [e]
    split <;> omega
abbrev rcL : List Nat := [weOpen, weHeap]
def rcI (κ τ : zS) (a n : Nat) (m : Int32) : Prop := weE κ τ a ∧ rwK κ τ a rcL ∧ m.toInt = cBq (zA τ (zR κ weOpen a)) n ∧ ∀ i : Nat, (i : Int) < m.toInt → 0 ≤ (zA τ (zR κ weHeap a) i).toInt ∧ (zA τ (zR κ weHeap a) i).toInt < n
theorem rcI_s {C : zC} {n0 a n : Nat} {κ σ κ1 κ2 : zS} {m x y : Int32} (W : zW C n0 σ) (W1 : zW C n0 κ1) (T : zT σ a = 14) (H : rcI κ σ a n m) (hn : n ≤ 1000) (hx : 0 ≤ x.toInt ∧ x.toInt < n) (h0 : zA σ (zR σ weOpen a) x.toNatClampNeg = 0) (hy : y ≠ 0) (e1 : κ1 = ua σ (zR σ weOpen a) x.toNatClampNeg y) (e2 : κ2 = ua κ1 (zR κ1 weHeap a) m.toNatClampNeg x) : m.toInt < n ∧ rcI κ κ2 a n (m + 1) := by
  obtain ⟨E, R, hm, hh⟩ := H
  obtain ⟨u1, u2, u3, u4⟩ := we_u W T (f := weOpen) (by decide) e1
  obtain ⟨v1, v2, v3, v4⟩ := we_u W1 u4 (f := weHeap) (by decide) e2
  have rs := E.2.1
  have r1 : zR κ1 = zR κ := u1.2.1.trans rs
  rw [rs] at u2 u3 h0
  rw [r1] at v2 v3
  have kx := cnk hx.1
  have a1 := cBq_le (f := zA κ2 (zR κ weOpen a)) (n := n)
  have a0 := cBq_le (f := zA σ (zR κ weOpen a)) (n := n)
  have o2 : zA κ2 (zR κ weOpen a) = upd (zA σ (zR κ weOpen a)) x.toNatClampNeg y := (v3 weOpen (by decide) (by decide)).trans u2
  have h2 : zA κ2 (zR κ weHeap a) = upd (zA σ (zR κ weHeap a)) m.toNatClampNeg x := by rw [v2, u3 weHeap (by decide) (by decide)]
  have c2 : cBq (zA κ2 (zR κ weOpen a)) n = cBq (zA σ (zR κ weOpen a)) n + 1 := by rw [o2]; exact cBq_up (by omega) h0 hy
  have em := cn1 (x := m) (by omega) (by omega)
  have km := cnk (x := m) (by omega)
  refine ⟨by omega, (E.tr u1).tr v1, fun f hf hl => ?_, by rw [em.2, c2, hm], fun i hi => ?_⟩
  · have n1 : f ≠ weOpen := fun z => hl (by rw [z]; decide)
    have n2 : f ≠ weHeap := fun z => hl (by rw [z]; decide)
    rw [v3 f hf n2, u3 f hf n1]
    exact R f hf hl
  · rw [h2]
    by_cases z : i = m.toNatClampNeg
    · have q : upd (zA σ (zR κ weHeap a)) m.toNatClampNeg x i = x := if_pos z
      rw [q]; exact hx
    · have q : upd (zA σ (zR κ weHeap a)) m.toNatClampNeg x i = zA σ (zR κ weHeap a) i := if_neg z
      rw [q]
      rw [em.2] at hi
      exact hh i (by omega)
theorem We_weaveBack_c {C : zC} {n0 : Nat} {a0 : Nat} {a1 : Nat} {a2 : Int32} {κ : zS} {Q : zS → Prop} (W : zW C n0 κ) (Ta0 : zT κ a0 = 14) (Ta1 : zT κ a1 = 3) (m9 : Nat) (hp : (weM κ a0 ∧ weL κ a0) ∧ (zI κ weTotal a0).toInt = (m9 : Int) ∧ atW κ a1 m9 ∧ (zA κ (zR κ weBackFirsts a0) 0).toInt = 0 ∧ (∀ t, t < m9 → (zA κ (zR κ weBackFirsts a0) (t + 1)).toInt = cNl (lkD κ a1 a2) (zA κ (zR κ atFirsts a1)) t m9) ∧ sgI (fun s => (zA κ (zR κ weBackFirsts a0) (s + 1)).toInt) m9 ≤ (zN κ (zR κ weTargets a0))) (h : ∀ (κ' : zS), (bkI κ κ' a0 a1 a2 m9 m9 (zA κ (zR κ atFirsts a1) m9).toInt) → Q κ') : zRun C 1 mWe_weaveBack [.ref a0, .ref a1, .int a2] κ (oV Q noX) := by
  refine We_weaveBack_run W Ta0 Ta1 ?_
  replace W := W.lo (Nat.le_trans W.1.2.1 W.1.2.2) (Nat.le_refl (zn κ))
  unfold w_We_weaveBack_0
  obtain ⟨⟨M, L⟩, tn, A, b0, bt, bs⟩ := hp
  obtain ⟨AM, AL, n1, nS, nb9, EK⟩ := A
  have lT := L.2.2
  have p0 : ∀ t, t < m9 → 0 ≤ (zA κ (zR κ weBackFirsts a0) (t + 1)).toInt := fun t ht => by rw [bt t ht]; exact cNl_p (fun _ _ _ => lkD_01)
  unfold w_We_weaveBack_2
  refine ⟨fun n l0 l1 l2 l3 τ => n = (1000 - l3.toInt).toNat ∧ (a0 = l0 ∧ a1 = l1 ∧ a2 = l2 ∧ weE κ τ a0 ∧ rwK κ τ a0 bkL ∧ (0 ≤ l3.toInt ∧ l3.toInt ≤ m9) ∧ bkA (zA κ (zR κ weBackFirsts a0)) (zA τ (zR κ weBackFirsts a0)) (zA τ (zR κ weCursor a0)) l3.toNatClampNeg), ⟨_, rfl, ?_⟩, ?_⟩
  · exact ⟨rfl, rfl, rfl, weE.rf, fun _ _ _ => rfl, ⟨by decide, by rw [t0i]; omega⟩, fun t ht => by
      have z : t = 0 := Nat.le_zero.mp ht
      rw [z]; exact b0, fun _ _ => rfl, fun t ht => absurd ht (Nat.not_lt_zero _)⟩
  rintro n2 _ _ _ x2_3 κ2 W2 T2_0 T2_1 ⟨hn2, rfl, rfl, rfl, i2⟩
  obtain ⟨E2, R2, k2, A2⟩ := i2
  have I2 := E2.2.2.1
  have kn2 := cnk k2.1
  refine ⟨fun c1 => ?_, fun c1 => ?_⟩
  · skip
    unfold w_We_weaveBack_47
    refine ⟨fun n l0 l1 l2 l3 τ => n = (1000 - l3.toInt).toNat ∧ (a0 = l0 ∧ a1 = l1 ∧ a2 = l2 ∧ (0 ≤ l3.toInt ∧ l3.toInt ≤ m9) ∧ bkI κ τ a0 a1 a2 m9 l3.toNatClampNeg (zA κ (zR κ atFirsts a1) l3.toNatClampNeg).toInt), ⟨_, rfl, ?_⟩, ?_⟩
    · rw [lei, I2] at c1
      have kk : x2_3.toNatClampNeg = m9 := by omega
      rw [kk] at A2
      have q := bkA_e (Sr := zA κ2 (zR κ weSources a0)) (Ed := zA κ2 (zR κ weEdges a0)) A2 bt bs
      exact ⟨rfl, rfl, rfl, ⟨by decide, by rw [t0i]; omega⟩, E2, R2, q.1, q.2.1, q.2.2⟩
    rintro n47 _ _ _ x47_3 κ47 W47 T47_0 T47_1 ⟨hn47, rfl, rfl, rfl, i47⟩
    obtain ⟨k47, H47⟩ := i47
    have E47 := H47.1
    have I47 := E47.2.2.1
    have kn47 := cnk k47.1
    refine ⟨fun c2 => ?_, fun c2 => ?_⟩
    · skip
      refine h _ ?_
      · rw [lei, I47] at c2
        have kk : x47_3.toNatClampNeg = m9 := by omega
        rw [kk] at H47
        exact H47
    · skip
      rw [lei, I47] at c2
      have lt47 : x47_3.toNatClampNeg < m9 := by omega
      have aF := at_E W Ta0 Ta1 E47.1 (f := atFirsts) (by decide)
      obtain ⟨X1, X2, X3, X4, X5⟩ := EK x47_3.toNatClampNeg lt47
      refine ⟨?_, ?_⟩
      · have l1 := AM.1
        rw [aF.2.2, inb_iff]; omega
      intro x3 hx3
      unfold w_We_weaveBack_63
      refine ⟨fun n l0 l1 l2 l3 l4 τ => n = (20000 - l4.toInt).toNat ∧ (a0 = l0 ∧ a1 = l1 ∧ a2 = l2 ∧ x47_3 = l3 ∧ (0 ≤ l4.toInt ∧ (zA κ (zR κ atFirsts a1) l3.toNatClampNeg).toInt ≤ l4.toInt ∧ l4.toInt ≤ (zA κ (zR κ atFirsts a1) (l3.toNatClampNeg + 1)).toInt) ∧ bkI κ τ a0 a1 a2 m9 l3.toNatClampNeg l4.toInt), ⟨_, rfl, ?_⟩, ?_⟩
      · rw [hx3, aF.2.1]
        exact ⟨rfl, rfl, rfl, rfl, ⟨X1.1, Int.le_refl _, X1.2.1⟩, H47⟩
      rintro n63 _ _ _ x63_3 x63_4 κ63 W63 T63_0 T63_1 ⟨hn63, rfl, rfl, rfl, i63⟩
      obtain ⟨rfl, x63, H63⟩ := i63
      have E63 := H63.1
      have gF := at_E W Ta0 Ta1 E63.1 (f := atFirsts) (by decide)
      have gS := at_E W Ta0 Ta1 E63.1 (f := atSorts) (by decide)
      have gN := at_E W Ta0 Ta1 E63.1 (f := atNumbers) (by decide)
      have kx := cnk x63.1
      have kx2 : x63_4.toInt.toNat = x63_4.toNatClampNeg := rfl
      have en := cn1 k47.1 (by omega)
      have x2 := X1.2.2
      have al := AL.1.1
      have al2 := AL.2.2
      have hj100 : ∀ (l0 : Nat) (l1 : Nat) (l2 : Int32) (l3 : Int32) (l4 : Int32) (τ : zS), zW C (zn κ) τ → zT τ l0 = 14 → zT τ l1 = 3 → (a0 = l0 ∧ a1 = l1 ∧ a2 = l2 ∧ κ63 = τ ∧ x47_3 = l3 ∧ x63_4 = l4 ∧ x63_4.toInt < (zA κ (zR κ atFirsts a1) (x47_3.toNatClampNeg + 1)).toInt ∧ lkD κ a1 a2 (zA κ (zR κ atNumbers a1) x63_4.toNatClampNeg).toNatClampNeg x47_3.toNatClampNeg x63_4.toNatClampNeg = 1) → w_We_weaveBack_100 C (zn κ) Q (fun (l0' : Nat) (l1' : Nat) (l2' : Int32) (l3' : Int32) (τ : zS) => ∃ k < n47, (fun (n : Nat) (l0 : Nat) (l1 : Nat) (l2 : Int32) (l3 : Int32) (τ : zS) => n = (1000 - l3.toInt).toNat ∧ (a0 = l0 ∧ a1 = l1 ∧ a2 = l2 ∧ (0 ≤ l3.toInt ∧ l3.toInt ≤ m9) ∧ bkI κ τ a0 a1 a2 m9 l3.toNatClampNeg (zA κ (zR κ atFirsts a1) l3.toNatClampNeg).toInt)) k l0' l1' l2' l3' τ) (fun (l0' : Nat) (l1' : Nat) (l2' : Int32) (l3' : Int32) (l4' : Int32) (τ : zS) => ∃ k < n63, (fun (n : Nat) (l0 : Nat) (l1 : Nat) (l2 : Int32) (l3 : Int32) (l4 : Int32) (τ : zS) => n = (20000 - l4.toInt).toNat ∧ (a0 = l0 ∧ a1 = l1 ∧ a2 = l2 ∧ x47_3 = l3 ∧ (0 ≤ l4.toInt ∧ (zA κ (zR κ atFirsts a1) l3.toNatClampNeg).toInt ≤ l4.toInt ∧ l4.toInt ≤ (zA κ (zR κ atFirsts a1) (l3.toNatClampNeg + 1)).toInt) ∧ bkI κ τ a0 a1 a2 m9 l3.toNatClampNeg l4.toInt)) k l0' l1' l2' l3' l4' τ) l0 l1 l2 l3 l4 τ := by
        rintro _ _ _ y100_3 y100_4 τ100 W100 T100_0 T100_1 ⟨rfl, rfl, rfl, j100⟩
        unfold w_We_weaveBack_100
        obtain ⟨rfl, rfl, rfl, c12, zk⟩ := j100
        have zs := lkD_1 zk
        have nx := (X2 x63_4.toNatClampNeg (by omega) (by omega)).1 zs.1.1
        have e1 := cn1 x63.1 (by omega)
        refine ⟨?_, ?_⟩
        · rw [gN.2.2, inb_iff]; omega  -- b6
        intro x4 hx4
        rw [gN.2.1] at hx4
        rw [← hx4] at nx zk
        have kt := cnk nx.1
        have tn4 : x4.toNatClampNeg < m9 := by omega
        have bb := bk_b (fun _ _ _ => lkD_01) H63.2.2.1 H63.2.2.2.1 X1.1 x63.2.1 c12 lt47 tn4 (by rw [kx2]; exact zk)
        have mC := M.2.2.2.2.2.2.2.2.1
        have rs := E63.2.1
        have ns := E63.2.2.2
        refine ⟨?_, ?_⟩
        · rw [rs, ns, inb_iff]; omega  -- b7
        refine ⟨?_, ?_⟩
        · have l1 := L.1.1
          rw [rs, ns, inb_iff]; omega
        intro κ_5 hκ_5
        intro W6
        have U1 := we_u W63 T63_0 (f := weSources) (by decide) hκ_5
        have r5 : zR κ_5 = zR κ := U1.1.2.1.trans rs
        have n5 : zN κ_5 = zN κ := U1.1.2.2.2.trans ns
        have c5 : zA κ_5 (zR κ weCursor a0) = zA κ63 (zR κ weCursor a0) := by
          have q := U1.2.2.1 weCursor (by decide) (by decide)
          rw [rs] at q
          exact q
        refine ⟨?_, ?_⟩
        · rw [r5, n5, inb_iff]; omega  -- b9
        refine ⟨?_, ?_⟩
        · have l1 := L.1.2
          rw [r5, n5, c5, inb_iff]; omega
        intro κ_7 hκ_7
        intro W8
        have U2 := we_u W6 U1.2.2.2 (f := weEdges) (by decide) hκ_7
        have r7 : zR κ_7 = zR κ := U2.1.2.1.trans r5
        have n7 : zN κ_7 = zN κ := U2.1.2.2.2.trans n5
        refine ⟨?_, ?_⟩
        · rw [r7, n7, inb_iff]; omega  -- b11
        refine ⟨?_, ?_⟩
        · rw [r7, n7, inb_iff]; omega  -- b12
        intro κ_9 hκ_9
        intro W10
        intro x11 hx11
        refine ⟨_, ?_, rfl, ?_⟩
        · rw [hn63, hx11, e1.2]; omega  -- d13
        · rw [hx11, e1.2]
          exact ⟨rfl, rfl, rfl, rfl, by omega, bkI_s W63 W6 W8 T63_0 (by omega) H63 (by omega) (by omega) X1.1 x63.2.1 c12 lt47 tn4 zk (fun t _ ht => if_neg (fun z => by
            have y := z.2
            rw [kx2, ← hx4] at y
            omega)) hκ_5 hκ_7 hκ_9⟩
      refine ⟨?_, ?_⟩
      · have l1 := AM.1
        rw [gF.2.2, inb_iff, en.2]; omega
      refine ⟨fun c12 => ?_, fun c12 => ?_⟩
      · skip
        intro x13 hx13
        refine ⟨_, ?_, rfl, ?_⟩
        · rw [hn47, hx13, en.2]; omega  -- d16
        · rw [lei, en.1, gF.2.1] at c12
          have e9 : x63_4.toInt = (zA κ (zR κ atFirsts a1) (x47_3.toNatClampNeg + 1)).toInt := by omega
          rw [hx13, en.1, en.2]
          refine ⟨rfl, rfl, rfl, by omega, H63.1, H63.2.1, H63.2.2.1, ?_, H63.2.2.2.2⟩
          intro t ht
          have y := H63.2.2.2.1 t ht
          rw [e9, cP_e, ← cP_0] at y
          exact y
      · skip
        rw [lei, en.1, gF.2.1] at c12
        have e1 := cn1 x63.1 (by omega)
        refine ⟨?_, ?_⟩
        · rw [gS.2.2, inb_iff]; omega  -- b18
        refine ⟨fun c14 => ?_, fun c14 => ?_⟩
        · skip
          intro x15 hx15
          refine ⟨_, ?_, rfl, ?_⟩
          · rw [hn63, hx15, e1.2]; omega  -- d19
          · rw [gS.2.1] at c14
            rw [hx15, e1.2]
            refine ⟨rfl, rfl, rfl, rfl, by omega, H63.1, H63.2.1, H63.2.2.1, bk_n H63.2.2.2.1 X1.1 (by omega) (fun t _ => if_neg (fun z => c14 z.1.1)), H63.2.2.2.2⟩
        · skip
          refine ⟨fun c16 => ?_, fun c16 => ?_⟩
          · skip
            refine hj100 _ _ _ _ _ _ W63 ?_ ?_ ?_
            · exact T63_0  -- t21
            · exact T63_1  -- t22
            · rw [gS.2.1] at c14
              have nx := (X2 x63_4.toNatClampNeg (by omega) (by omega)).1 c14
              exact ⟨rfl, rfl, rfl, rfl, rfl, rfl, by omega, if_pos ⟨⟨c14, Or.inl c16⟩, by rw [cnk nx.1]⟩⟩
          · skip
            intro T17
            refine At_isTaken_c W63 T17  ?_ (fun r18 q20 => ?_)
            · have M63 : atM κ63 a1 := by
                have g := fun f hf => (at_E W Ta0 Ta1 E63.1 (f := f) hf).2.2
                unfold atM
                rw [g atFirsts (by decide), g atTotals (by decide), g atGains (by decide), g atPlan (by decide), g atChooses (by decide), g atHopeless (by decide)]
                exact AM
              exact ⟨M63, k47.1, by omega⟩
            have gC := at_E W Ta0 Ta1 E63.1 (f := atChooses) (by decide)
            have gP := at_E W Ta0 Ta1 E63.1 (f := atPlan) (by decide)
            rw [gC.2.1, gF.2.1, gP.2.1] at q20
            have eo : Int32.ofNat x63_4.toNatClampNeg = x63_4 := Int32.toInt_inj.mp (by rw [ofn_i (by omega)]; omega)
            intro W21
            intro M22
            refine ⟨fun c23 => ?_, fun c23 => ?_⟩
            · skip
              intro x24 hx24
              refine ⟨_, ?_, rfl, ?_⟩
              · rw [hn63, hx24, e1.2]; omega  -- d25
              · rw [gS.2.1] at c14
                rw [hx24, e1.2]
                refine ⟨rfl, rfl, rfl, rfl, by omega, H63.1, H63.2.1, H63.2.2.1, bk_n H63.2.2.2.1 X1.1 (by omega) (fun t _ => if_neg (fun z => ?_)), H63.2.2.2.2⟩
                rcases z.1.2 with y | y | y
                · exact c16 y
                · exact q20.2.mpr (Or.inl y) c23
                · rw [kx2, eo] at y
                  exact q20.2.mpr (Or.inr y) c23
            · skip
              refine hj100 _ _ _ _ _ _ W21 ?_ ?_ ?_
              · exact T63_0  -- t27
              · exact T63_1  -- t28
              · rw [gS.2.1] at c14
                have nx := (X2 x63_4.toNatClampNeg (by omega) (by omega)).1 c14
                refine ⟨rfl, rfl, rfl, rfl, rfl, rfl, by omega, if_pos ⟨⟨c14, Or.inr ?_⟩, by rw [cnk nx.1]⟩⟩
                rcases q20.2.mp c23 with y | y
                · exact Or.inl y
                · exact Or.inr (by rw [eo]; exact y)
  · skip
    rw [lei, I2] at c1
    have en2 := cn1 k2.1 (by omega)
    have mB := M.2.1
    have mC := M.2.2.2.2.2.2.2.2.1
    have rs := E2.2.1
    have ns := E2.2.2.2
    refine ⟨?_, ?_⟩
    · rw [rs, ns, inb_iff, en2.2]; omega  -- b30
    refine ⟨?_, ?_⟩
    · rw [rs, ns, inb_iff]; omega  -- b31
    refine ⟨?_, ?_⟩
    · rw [rs, ns, inb_iff, en2.2]; omega  -- b32
    intro κ_25 hκ_25
    intro W26
    have U := we_u W2 T2_0 (f := weBackFirsts) (by decide) hκ_25
    have r5 : zR κ_25 = zR κ := U.1.2.1.trans rs
    have n5 : zN κ_25 = zN κ := U.1.2.2.2.trans ns
    refine ⟨?_, ?_⟩
    · rw [r5, n5, inb_iff]; omega  -- b33
    refine ⟨?_, ?_⟩
    · rw [r5, n5, inb_iff]; omega  -- b34
    intro κ_27 hκ_27
    intro W28
    intro x29 hx29
    refine ⟨_, ?_, rfl, ?_⟩
    · rw [hn2, hx29, en2.2]; omega  -- d35
    · have V := we_u W26 U.2.2.2 (f := weCursor) (by decide) hκ_27
      have u2 := U.2.1
      have u3 := U.2.2.1
      have v2 := V.2.1
      have v3 := V.2.2.1
      rw [rs] at u2 u3
      rw [r5] at v2 v3
      rw [en2.1] at u2
      have eB : zA κ_27 (zR κ weBackFirsts a0) = upd (zA κ2 (zR κ weBackFirsts a0)) (x2_3.toNatClampNeg + 1) (zA κ2 (zR κ weBackFirsts a0) (x2_3.toNatClampNeg + 1) + zA κ2 (zR κ weBackFirsts a0) x2_3.toNatClampNeg) := (v3 weBackFirsts (by decide) (by decide)).trans u2
      have eC : zA κ_27 (zR κ weCursor a0) = upd (zA κ2 (zR κ weCursor a0)) x2_3.toNatClampNeg (zA κ_27 (zR κ weBackFirsts a0) x2_3.toNatClampNeg) := by
        rw [v2, u3 weCursor (by decide) (by decide), v3 weBackFirsts (by decide) (by decide)]
      rw [hx29, en2.1, en2.2]
      refine ⟨rfl, rfl, rfl, (E2.tr U.1).tr V.1, fun f hf hl => ?_, by omega, bkA_s A2 (by omega) p0 (by omega) eB eC⟩
      have n1 : f ≠ weBackFirsts := fun y => hl (by rw [y]; decide)
      have n2 : f ≠ weCursor := fun y => hl (by rw [y]; decide)
      rw [v3 f hf n2, u3 f hf n1]
      exact R2 f hf hl

theorem We_reach_c {C : zC} {n0 : Nat} {a0 : Nat} {a1 : Int32} {κ : zS} {Q : zS → Prop} (W : zW C n0 κ) (Ta0 : zT κ a0 = 14) (m9 : Nat) (hp : (weM κ a0 ∧ weL κ a0) ∧ ((zI κ weTotal a0).toInt = (m9 : Int) ∧ m9 ≤ 1000) ∧ a1.toInt = cBq (zA κ (zR κ weOpen a0)) m9 ∧ (∀ i : Nat, (i : Int) < a1.toInt → 0 ≤ (zA κ (zR κ weHeap a0) i).toInt ∧ (zA κ (zR κ weHeap a0) i).toInt < m9) ∧ ∀ t, t < m9 → (0 ≤ (zA κ (zR κ weBackFirsts a0) t).toInt ∧ (zA κ (zR κ weBackFirsts a0) (t + 1)).toInt ≤ (zN κ (zR κ weTargets a0))) ∧ ∀ b : Nat, (zA κ (zR κ weBackFirsts a0) t).toInt ≤ (b : Int) → (b : Int) < (zA κ (zR κ weBackFirsts a0) (t + 1)).toInt → 0 ≤ (zA κ (zR κ weSources a0) b).toInt ∧ (zA κ (zR κ weSources a0) b).toInt < m9) (h : ∀ (κ' : zS), (weE κ κ' a0 ∧ rwK κ κ' a0 rcL) → Q κ') : zRun C 0 mWe_reach [.ref a0, .int a1] κ (oV Q noX) := by
  refine We_reach_run W Ta0 ?_
  replace W := W.lo (Nat.le_trans W.1.2.1 W.1.2.2) (Nat.le_refl (zn κ))
  unfold w_We_reach_0
  obtain ⟨⟨M, L⟩, ⟨tn, n1⟩, ac, hh, BK⟩ := hp
  have lT := L.2.2
  have lS := L.1.1
  have m2 := M.2.1
  have m3 := M.2.2.1
  have m11 := M.2.2.2.2.2.2.2.2.2.2
  unfold w_We_reach_4
  refine ⟨fun n l0 l2 l3 τ => n = (1000 - l3.toInt).toNat ∧ (a0 = l0 ∧ 0 ≤ l3.toInt ∧ rcI κ τ a0 m9 l2), ⟨_, rfl, ?_⟩, ?_⟩
  · exact ⟨rfl, by decide, weE.rf, fun _ _ _ => rfl, ac, hh⟩  -- j1
  rintro n4 _ x4_2 x4_3 κ4 W4 T4_0 ⟨hn4, rfl, i4⟩
  obtain ⟨k4, H4⟩ := i4
  have rs := H4.1.2.1
  have ns := H4.1.2.2.2
  have is := H4.1.2.2.1
  have kn := cnk k4
  refine ⟨fun c1 => ?_, fun c1 => ?_⟩
  · skip
    refine h _ ?_
    · exact ⟨H4.1, H4.2.1⟩  -- q2
  · skip
    refine ⟨fun c2 => ?_, fun c2 => ?_⟩
    · skip
      refine h _ ?_
      · exact ⟨H4.1, H4.2.1⟩  -- q3
    · skip
      rw [lei] at c1 c2
      rw [is] at c2
      refine ⟨?_, ?_⟩
      · rw [rs, ns, inb_iff]; omega  -- b4
      intro x3 hx3
      rw [rs] at hx3
      have hk := H4.2.2.2 x4_3.toNatClampNeg (by omega)
      rw [← hx3] at hk
      refine ⟨?_, ?_⟩
      · rw [rs, ns, inb_iff]; omega  -- b5
      intro x4 hx4
      unfold w_We_reach_34
      refine ⟨fun n l0 l2 l3 l4 l5 τ => n = (20000 - l5.toInt).toNat ∧ (a0 = l0 ∧ x4_3 = l3 ∧ (0 ≤ l4.toInt ∧ l4.toInt < m9) ∧ (zA κ (zR κ weBackFirsts a0) l4.toNatClampNeg).toInt ≤ l5.toInt ∧ rcI κ τ a0 m9 l2), ⟨_, rfl, ?_⟩, ?_⟩
      · have bF : zA κ4 (zR κ weBackFirsts a0) = zA κ (zR κ weBackFirsts a0) := H4.2.1 weBackFirsts (by decide) (by decide)
        rw [hx4, rs, bF]
        exact ⟨rfl, rfl, hk, Int.le_refl _, H4⟩
      rintro n34 _ x34_2 x34_3 x34_4 x34_5 κ34 W34 T34_0 ⟨hn34, rfl, i34⟩
      obtain ⟨rfl, k34, b34, H34⟩ := i34
      have rt := H34.1.2.1
      have nt := H34.1.2.2.2
      have kq := cnk k34.1
      have eq := cn1 k34.1 (by omega)
      have BB := BK x34_4.toNatClampNeg (by omega)
      have bF : zA κ34 (zR κ weBackFirsts a0) = zA κ (zR κ weBackFirsts a0) := H34.2.1 weBackFirsts (by decide) (by decide)
      have bS : zA κ34 (zR κ weSources a0) = zA κ (zR κ weSources a0) := H34.2.1 weSources (by decide) (by decide)
      refine ⟨?_, ?_⟩
      · rw [rt, nt, inb_iff, eq.2]; omega  -- b7
      refine ⟨fun c5 => ?_, fun c5 => ?_⟩
      · skip
        intro x6 hx6
        refine ⟨_, ?_, rfl, ?_⟩
        · have e3 := cn1 k4 (by omega)
          rw [hn4, hx6, e3.2]; omega
        · have e3 := cn1 k4 (by omega)
          exact ⟨rfl, by rw [hx6, e3.2]; omega, H34⟩
      · skip
        rw [lei, rt, bF, eq.1] at c5
        have k5 := cnk (x := x34_5) (by omega)
        have e5 := cn1 (x := x34_5) (by omega) (by omega)
        refine ⟨?_, ?_⟩
        · rw [rt, nt, inb_iff]; omega  -- b10
        intro x7 hx7
        rw [rt, bS] at hx7
        have hs := BB.2 x34_5.toNatClampNeg (by omega) (by omega)
        rw [← hx7] at hs
        refine ⟨?_, ?_⟩
        · rw [rt, nt, inb_iff]; omega  -- b11
        refine ⟨fun c8 => ?_, fun c8 => ?_⟩
        · skip
          intro x9 hx9
          refine ⟨_, ?_, rfl, ?_⟩
          · rw [hn34, hx9, e5.2]; omega  -- d12
          · exact ⟨rfl, rfl, k34, by rw [hx9, e5.2]; omega, H34⟩  -- i13
        · skip
          refine ⟨?_, ?_⟩
          · rw [rt, nt, inb_iff]; omega  -- b14
          intro κ_10 hκ_10
          intro W11
          have U := we_u W34 T34_0 (f := weOpen) (by decide) hκ_10
          have lm : x34_2.toInt < m9 := by
            have z := rcI_s (κ2 := ua κ_10 (zR κ_10 weHeap a0) x34_2.toNatClampNeg x7) W34 W11 T34_0 H34 n1 hs c8 (by decide) hκ_10 rfl
            exact z.1
          have lm0 : 0 ≤ x34_2.toInt := by rw [H34.2.2.1]; exact cBq_le.1
          refine ⟨?_, ?_⟩
          · rw [U.1.2.1, U.1.2.2.2, rt, nt, inb_iff]; omega  -- b15
          intro κ_12 hκ_12
          intro W13
          intro x14 hx14
          intro x15 hx15
          refine ⟨_, ?_, rfl, ?_⟩
          · rw [hn34, hx15, e5.2]; omega  -- d16
          · rw [hx14]
            exact ⟨rfl, rfl, k34, by rw [hx15, e5.2]; omega, (rcI_s W34 W11 T34_0 H34 n1 hs c8 (by decide) hκ_10 hκ_12).2⟩
