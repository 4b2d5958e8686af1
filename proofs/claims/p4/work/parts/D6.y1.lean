set_option maxHeartbeats 1600000
/-! the class: what findVisits needs -/
/-- a frame that leaves web, atlas and hoards alone -/
def frV9 (m : Nat) (F : Nat → Nat → Prop) : Prop := ∀ f b, F f b → m ≤ b ∨ f / 100 = 8 ∨ f / 100 = 11 ∨ f / 100 = 4 ∨ f / 100 = 12 ∨ f = 0
theorem frV9_n {C : zC} {n0 f b c : Nat} {F : Nat → Nat → Prop} {κ : zS} (W : zW C n0 κ) (H : frV9 (zn κ) F) (T : zT κ b = c + 1) (hf : f / 100 ≠ 8 ∧ f / 100 ≠ 11 ∧ f / 100 ≠ 4 ∧ f / 100 ≠ 12 ∧ f ≠ 0) : ¬ F f b := fun z => by
  have l := (W.2.1 b (by omega)).2
  rcases H f b z with h | h | h | h | h | h
  · omega
  · exact hf.1 h
  · exact hf.2.1 h
  · exact hf.2.2.1 h
  · exact hf.2.2.2.1 h
  · exact hf.2.2.2.2 h
theorem frV9_w {C : zC} {n0 f b t : Nat} {F : Nat → Nat → Prop} {κ τ : zS} (W : zW C n0 κ) (H : frV9 (zn κ) F) (Z : zF F κ τ) (hr : zr f = some t) (ht : 20 ≤ t) (T : zT κ b = f / 100) (hf : f / 100 ≠ 8 ∧ f / 100 ≠ 11 ∧ f / 100 ≠ 4 ∧ f / 100 ≠ 12 ∧ f ≠ 0) (h0 : f / 100 ≠ 0) : zR τ f b = zR κ f b ∧ zA τ (zR τ f b) = zA κ (zR κ f b) ∧ zN τ (zR τ f b) = zN κ (zR κ f b) := by
  have T9 : zT κ b = (f / 100 - 1) + 1 := by omega
  have n := frV9_n W H T9 hf
  have ty := W.r hr T
  have t1 : zT κ (zR κ f b) = (t - 1) + 1 := by omega
  refine ⟨Z.r n, (Z.row W hr ht T n).1, ?_⟩
  rw [Z.r n]
  exact Z.l t1
theorem at_v9 {C : zC} {n0 b f : Nat} {F : Nat → Nat → Prop} {κ τ : zS} (W : zW C n0 κ) (H : frV9 (zn κ) F) (Z : zF F κ τ) (Tb : zT κ b = 3) (hf : f ∈ atRf) : zR τ f b = zR κ f b ∧ zA τ (zR τ f b) = zA κ (zR κ f b) ∧ zN τ (zR τ f b) = zN κ (zR κ f b) := by
  obtain ⟨⟨t, h1, h2⟩, h3⟩ := atRf_r f hf
  refine frV9_w W H Z h1 h2 (Tb.trans h3.symm) ⟨by omega, by omega, by omega, by omega, by omega⟩ (by omega)
theorem we_v9 {C : zC} {n0 b f : Nat} {F : Nat → Nat → Prop} {κ τ : zS} (W : zW C n0 κ) (H : frV9 (zn κ) F) (Z : zF F κ τ) (Tb : zT κ b = 14) (hf : f ∈ weRf) : zR τ f b = zR κ f b ∧ zA τ (zR τ f b) = zA κ (zR κ f b) ∧ zN τ (zR τ f b) = zN κ (zR κ f b) := by
  obtain ⟨⟨t, h1, h2⟩, h3⟩ := weRf_r f hf
  refine frV9_w W H Z h1 h2 (Tb.trans h3.symm) ⟨by omega, by omega, by omega, by omega, by omega⟩ (by omega)
theorem atW_v9 {C : zC} {n0 b n : Nat} {F : Nat → Nat → Prop} {κ τ : zS} (W : zW C n0 κ) (H : frV9 (zn κ) F) (Z : zF F κ τ) (Tb : zT κ b = 3) (A : atW κ b n) : atW τ b n := by
  have ts := ty_atStates W Tb
  have te := ty_atEndings W Tb
  have g := fun f hf => at_v9 W H Z Tb (f := f) hf
  obtain ⟨A1, A2, A3, A4, A5, A6⟩ := A
  have rs : zR τ atStates b = zR κ atStates b := Z.r (frV9_n W H Tb (by decide))
  have re : zR τ atEndings b = zR κ atEndings b := Z.r (frV9_n W H Tb (by decide))
  have is : zI τ hoTotal (zR κ atStates b) = zI κ hoTotal (zR κ atStates b) := Z.i (frV9_n W H ts (by decide))
  have ie : zI τ hoTotal (zR κ atEndings b) = zI κ hoTotal (zR κ atEndings b) := Z.i (frV9_n W H te (by decide))
  have ix : zI τ atNexts b = zI κ atNexts b := Z.i (frV9_n W H Tb (by decide))
  refine ⟨?_, ?_, A3, ?_, ?_, fun k hk => ?_⟩
  · unfold atM
    rw [(g atFirsts (by decide)).2.2, (g atTotals (by decide)).2.2, (g atGains (by decide)).2.2, (g atPlan (by decide)).2.2, (g atChooses (by decide)).2.2, (g atHopeless (by decide)).2.2]
    exact A1
  · unfold atL
    rw [(g atSorts (by decide)).2.2, (g atNumbers (by decide)).2.2, (g atWeights (by decide)).2.2]
    exact A2
  · rw [rs, is]; exact A4
  · rw [ix, (g atNumbers (by decide)).2.2]; exact A5
  · unfold exK
    rw [rs, re, is, ie, ix, (g atFirsts (by decide)).2.1, (g atTotals (by decide)).2.1, (g atChooses (by decide)).2.1, (g atSorts (by decide)).2.1, (g atNumbers (by decide)).2.1, (g atWeights (by decide)).2.1]
    exact A6 k hk
theorem lkD_v9 {C : zC} {n0 b : Nat} {F : Nat → Nat → Prop} {κ τ : zS} {p : Int32} (W : zW C n0 κ) (H : frV9 (zn κ) F) (Z : zF F κ τ) (Tb : zT κ b = 3) : lkD τ b p = lkD κ b p := by
  have g := fun f hf => at_v9 W H Z Tb (f := f) hf
  funext t k i
  unfold lkD
  rw [(g atSorts (by decide)).2.1, (g atChooses (by decide)).2.1, (g atFirsts (by decide)).2.1, (g atPlan (by decide)).2.1, (g atNumbers (by decide)).2.1]
theorem weG_v9 {C : zC} {n0 w b n : Nat} {F : Nat → Nat → Prop} {κ τ : zS} {p : Int32} (W : zW C n0 κ) (H : frV9 (zn κ) F) (Z : zF F κ τ) (Tw : zT κ w = 14) (Tb : zT κ b = 3) (G : weG κ w b p n) : weG τ w b p n := by
  have g := fun f hf => we_v9 W H Z Tw (f := f) hf
  have ix : zI τ weTotal w = zI κ weTotal w := Z.i (frV9_n W H Tw (by decide))
  have e0 := lkD_v9 (p := p) W H Z Tb
  have e1 := (at_v9 W H Z Tb (f := atFirsts) (by decide)).2.1
  unfold weG weM weL
  rw [ix, e0, e1, (g weFirsts (by decide)).2.1, (g weTargets (by decide)).2.1, (g weBackFirsts (by decide)).2.1, (g weSources (by decide)).2.1, (g weEdges (by decide)).2.1, (g weFirsts (by decide)).2.2, (g weBackFirsts (by decide)).2.2, (g weOpen (by decide)).2.2, (g weKnotFirsts (by decide)).2.2, (g weKnotOf (by decide)).2.2, (g weOrder (by decide)).2.2, (g weSeen (by decide)).2.2, (g weLow (by decide)).2.2, (g weCursor (by decide)).2.2, (g wePath (by decide)).2.2, (g weHeap (by decide)).2.2, (g weSources (by decide)).2.2, (g weTargets (by decide)).2.2, (g weEdges (by decide)).2.2]
  exact G
theorem weKn_v9 {C : zC} {n0 w n : Nat} {F : Nat → Nat → Prop} {κ τ : zS} (W : zW C n0 κ) (H : frV9 (zn κ) F) (Z : zF F κ τ) (Tw : zT κ w = 14) (G : weKn κ w n) : weKn τ w n := by
  have g := fun f hf => we_v9 W H Z Tw (f := f) hf
  have ix : zI τ weKnots w = zI κ weKnots w := Z.i (frV9_n W H Tw (by decide))
  unfold weKn
  rw [ix, (g weKnotFirsts (by decide)).2.1, (g weOrder (by decide)).2.1, (g weKnotOf (by decide)).2.1]
  exact G
/-- a field's row is exchanged for another: what the rows allow -/
theorem pot_uo9 {C : zC} {n0 f a q r : Nat} {w : Nat → Nat → Nat} {κ : zS} (W : zW C n0 κ) (hr : zr f = some q) (hq : 20 ≤ q) (hT : zT κ a = f / 100) : pot w (uo κ f a r) + w f (zN κ (zR κ f a)) = pot w κ + w f (zN κ r) := by
  have cl := zr_cls hr
  have hlt : a < zn κ := (W.2.1 a (by omega)).2
  have e5 : ∀ g b, ¬ (g = f ∧ b = a) → zR (uo κ f a r) g b = zR κ g b := fun g b h => if_neg h
  have e6 : zR (uo κ f a r) f a = r := if_pos ⟨rfl, rfl⟩
  have pb : ∀ b, b < zn κ → b ≠ a → po w (uo κ f a r) b = po w κ b := by
    intro b _ hne
    unfold po
    show ((arF (zT κ b)).map fun g => w g (zN κ (zR (uo κ f a r) g b))).sum + w 0 (zT κ b) = _
    congr 2
    exact List.map_congr_left (fun g _ => by rw [e5 g b (fun e => hne e.2)])
  have pa : po w (uo κ f a r) a + w f (zN κ (zR κ f a)) = po w κ a + w f (zN κ r) := by
    have hnd := arF_nd (f / 100) (by omega)
    have hin := arF_in hr hq
    have key : ∀ l : List Nat, l.Nodup → f ∈ l → (l.map fun g => w g (zN κ (zR (uo κ f a r) g a))).sum + w f (zN κ (zR κ f a)) = (l.map fun g => w g (zN κ (zR κ g a))).sum + w f (zN κ r) := by
      intro l
      induction l with
      | nil => intro _ h; cases h
      | cons g l ih =>
        intro nd hf
        rw [List.nodup_cons] at nd
        by_cases hg : g = f
        · subst hg
          have e9 : (l.map fun x => w x (zN κ (zR (uo κ g a r) x a))) = l.map fun x => w x (zN κ (zR κ x a)) := List.map_congr_left (fun x hx => by rw [e5 x a (fun e => nd.1 (by rw [← e.1]; exact hx))])
          rw [List.map_cons, List.map_cons, List.sum_cons, List.sum_cons, e9, e6]
          omega
        · have hf2 : f ∈ l := by
            rcases List.mem_cons.mp hf with z | z
            · exact absurd z.symm hg
            · exact z
          have i := ih nd.2 hf2
          have eg : w g (zN κ (zR (uo κ f a r) g a)) = w g (zN κ (zR κ g a)) := by rw [e5 g a (fun e => hg e.1)]
          rw [List.map_cons, List.map_cons, List.sum_cons, List.sum_cons, eg]
          omega
    unfold po
    show ((arF (zT κ a)).map fun g => w g (zN κ (zR (uo κ f a r) g a))).sum + w 0 (zT κ a) + _ = _
    rw [hT]
    have k := key _ hnd hin
    omega
  have z := zSum_one (f := po w κ) (g := po w (uo κ f a r)) hlt pb
  unfold pot
  show zSum (zn κ) (po w (uo κ f a r)) + _ = _
  omega
/-- a row is made, then other things, then it becomes a field's -/
theorem zF_nu9 {C : zC} {n0 f a q n t : Nat} {F : Nat → Nat → Prop} {κ κ1 τ τ1 : zS} (W : zW C n0 κ) (Wt : zW C n0 τ) (hr : zr f = some q) (hq : 20 ≤ q) (hT : zT κ a = f / 100) (ht : 20 ≤ t ∧ t < 40) (hF : F f a) (e1 : κ1 = na κ t n) (Z : zF F κ1 τ) (er : zR τ f a = zR κ f a) (e : τ1 = uo τ f a (zn κ)) (cS : n + wS f (zN κ (zR κ f a)) ≤ wS f n) (cC : 4 + wC f (zN κ (zR κ f a)) ≤ wC f n) : zF F κ τ1 := by
  have cl := zr_cls hr
  have ne : ∀ b, zT κ b ≠ 0 → b ≠ zn κ := fun b h => Nat.ne_of_lt (W.2.1 b h).2
  have t1 : ∀ b, zT κ b ≠ 0 → zT κ1 b = zT κ b := fun b h => by rw [e1]; exact if_neg (ne b h)
  have t0 : zT κ1 (zn κ) = t := by rw [e1]; exact if_pos rfl
  have m1 : ∀ b, zT κ b ≠ 0 → zN κ1 b = zN κ b := fun b h => by rw [e1]; exact if_neg (ne b h)
  have i1 : zI κ1 = zI κ := by rw [e1]; rfl
  have r1 : zR κ1 = zR κ := by rw [e1]; rfl
  have rows : ∀ x, x ≠ zn κ → zA κ1 x = zA κ x ∧ zJ κ1 x = zJ κ x ∧ zQ κ1 x = zQ κ x ∧ zO κ1 x = zO κ x := fun x hx => by
    rw [e1]
    exact ⟨if_neg hx, if_neg hx, if_neg hx, if_neg hx⟩
  have n1 : zn κ1 = zn κ + 1 := by rw [e1]; rfl
  have p1 : ∀ w : Nat → Nat → Nat, w 0 t = 0 → pot w κ1 = pot w κ := fun w hw => by
    have lt : ∀ b, b < zn κ → b ≠ zn κ := fun b h => Nat.ne_of_lt h
    have p0 := pot_x9 (w := w) (κ6 := κ1) W (fun b hb => by rw [e1]; exact if_neg (lt b hb)) (fun b hb => by rw [e1]; exact if_neg (lt b hb)) (fun g b _ => by rw [r1])
    unfold pot at p0 ⊢
    rw [n1]
    show zSum (zn κ) (po w κ1) + po w κ1 (zn κ) = _
    rw [p0]
    have q0 : po w κ1 (zn κ) = 0 := by
      unfold po
      rw [t0, arF_no (Or.inl ht.1), hw]
      rfl
    rw [q0]
    rfl
  have w0 : wS 0 t = 0 ∧ wC 0 t = 0 := ⟨by unfold wS; rw [if_pos rfl, if_neg (by omega)], by unfold wC; rw [if_pos rfl, if_neg (by omega)]⟩
  obtain ⟨t9, ht9⟩ : ∃ c, t = c + 1 := ⟨t - 1, by omega⟩
  have nr : zN τ (zn κ) = n := by
    have q := Z.l (a := zn κ) (c := t9) (t0.trans ht9)
    rw [q, e1]
    exact if_pos rfl
  have tq := W.r hr hT
  have no : zN τ (zR κ f a) = zN κ (zR κ f a) := by
    obtain ⟨c9, hc9⟩ : ∃ c, q = c + 1 := ⟨q - 1, by omega⟩
    have y := Z.l (a := zR κ f a) (c := c9) ((t1 _ (by omega)).trans (tq.trans hc9))
    rw [y]
    exact m1 _ (by omega)
  have ta : zT τ a = f / 100 := by
    obtain ⟨c9, hc9⟩ : ∃ c, f / 100 = c + 1 := ⟨f / 100 - 1, by omega⟩
    have y := Z.t (a := a) (c := c9) ((t1 a (by omega)).trans (hT.trans hc9)) (by omega)
    rw [y, hc9]
  obtain ⟨Z1, Z2, Z3, ⟨⟨⟨Z4, Z5⟩, Zz⟩, Zt⟩, Z6, Z7, Z8⟩ := Z
  subst e
  have pS := pot_uo9 (w := wS) (r := zn κ) Wt hr hq ta
  have pC := pot_uo9 (w := wC) (r := zn κ) Wt hr hq ta
  rw [er, no, nr] at pS pC
  refine ⟨fun g b z => ?_, fun x hx z => ?_, fun x hx z => ?_, ⟨⟨⟨?_, ?_⟩, fun b hb e8 => Zz b (by omega) (by rw [e1]; exact (if_neg (Nat.ne_of_lt hb)).trans e8)⟩, fun b t8 h3 h20 e8 => ?_⟩, fun x c hc h => ?_, fun x h => ?_, ?_⟩
  · have y := Z1 g b z
    rw [i1, r1] at y
    refine ⟨y.1, ?_⟩
    show (if g = f ∧ b = a then zn κ else zR τ g b) = zR κ g b
    rw [if_neg (fun p => z (by rw [p.1, p.2]; exact hF))]
    exact y.2
  · obtain ⟨o1, o2, o3, o4⟩ := rows x (ne x hx)
    obtain ⟨y1, y2, y3, y4⟩ := Z2 x (by rw [t1 x hx]; exact hx) (by rw [o4]; exact z)
    refine ⟨y1.trans o1, y2.trans o2, y3.trans o3, ?_⟩
    show (if x = zn κ then (f, a) else zO τ x) = zO κ x
    rw [if_neg (ne x hx)]
    exact y4.trans o4
  · have o4 := (rows x (ne x hx)).2.2.2
    show (if x = zn κ then (f, a) else zO τ x) = zO κ x
    rw [if_neg (ne x hx)]
    exact (Z3 x (by rw [t1 x hx]; exact hx) (by rw [o4]; exact z)).trans o4
  · rw [p1 wS w0.1] at Z4
    have s1 : zs κ1 = zs κ + n := by rw [e1]; rfl
    show zs τ + _ ≤ _
    omega
  · rw [p1 wC w0.2] at Z5
    have s1 : zc κ1 = zc κ + 1 := by rw [e1]; rfl
    show 4 * zc τ + _ ≤ _
    omega
  · rcases Zt b t8 h3 h20 e8 with q9 | ⟨q1, q2, q3⟩
    · by_cases z : b = zn κ
      · rw [z, t0] at q9
        omega
      · have y : zT κ1 b = zT κ b := by rw [e1]; exact if_neg z
        rw [y] at q9
        exact Or.inl q9
    · exact Or.inr ⟨q1, q2, by omega⟩
  · exact Z6 x c hc (by rw [t1 x (by omega)]; exact h)
  · have y := Z7 x (by rw [t1 x h]; exact h)
    rw [m1 x h] at y
    exact y
  · show zn κ ≤ zn τ
    omega
theorem uo_id9 {κ : zS} {f a r : Nat} (h1 : zR κ f a = r) (h2 : zO κ r = (f, a)) : uo κ f a r = κ := by
  obtain ⟨k1, k2, k3, k4, k5, k6, k7, k8, k9⟩ := κ
  have e1 : (fun g b => if g = f ∧ b = a then r else k4 g b) = k4 := by
    funext g b
    by_cases z : g = f ∧ b = a
    · rw [if_pos z, z.1, z.2]; exact h1.symm
    · exact if_neg z
  have e2 : (fun b => if b = r then (f, a) else k8 b) = k8 := by
    funext b
    by_cases z : b = r
    · rw [if_pos z, z]; exact h2.symm
    · exact if_neg z
  show (k1, k2, k3, (fun g b => if g = f ∧ b = a then r else k4 g b), k5, k6, k7, (fun b => if b = r then (f, a) else k8 b), k9) = _
  rw [e1, e2]
/-- fresh, and its row stored -/
theorem fr_u9 {C : zC} {n0 s b f9 o r : Nat} {ρ : Nat → Nat} {κ τ τ1 : zS} {m : Int32} {k : Nat} {X : (Nat → Nat) → Prop} (W : zW C n0 κ) (Wt : zW C n0 τ) (hs : zT κ s = 12) (hf : f9 = soVisits ∨ f9 = soWorths) (ho : zR κ f9 s = o) (hm : 0 ≤ m.toInt ∧ m.toInt ≤ 1000) (H : frX9 ρ s b f9 κ τ o r m k X) (e : τ1 = uo τ f9 s r) : zF (frF9 ρ κ f9 s) κ τ1 := by
  obtain ⟨κ1, ρ', Hw, _, _, Z, ⟨O1, O2, O3⟩, _⟩ := H
  have hz : zr f9 = some 25 := by rcases hf with q | q <;> rw [q] <;> decide +kernel
  have h12 : f9 / 100 = 12 := by rcases hf with q | q <;> rw [q] <;> decide
  have T9 : zT κ s = f9 / 100 := by rw [h12]; exact hs
  have ow := W.o hz (by decide) T9
  rw [ho] at ow
  rcases Hw with ⟨h1, h2, _⟩ | ⟨h1, h2, h3⟩
  · rw [h2] at Z
    have q : τ1 = τ := by
      rw [e]
      exact uo_id9 (by rw [O3, ho, h1]) (by rw [h1, O2]; exact ow)
    rw [q]
    exact Z
  · have v := frN9_v hm
    have cp : cap9 f9 = 1000 := by rcases hf with q | q <;> rw [q] <;> rfl
    have n0' : f9 ≠ 0 ∧ f9 ≠ 605 ∧ f9 ≠ 800 := by omega
    refine zF_nu9 W Wt hz (by decide) T9 (by decide) (Or.inr (Or.inl ⟨rfl, rfl⟩)) h2 Z O3 (by rw [e, h1]) ?_ ?_
    · rw [ho]
      unfold wS
      rw [if_neg n0'.1, if_neg n0'.2.1, if_neg n0'.2.2, if_neg n0'.1, if_neg n0'.2.1, if_neg n0'.2.2, cp]
      split <;> split <;> omega
    · rw [ho]
      unfold wC
      rw [if_neg n0'.1, if_neg n0'.2.1, if_neg n0'.2.2, if_neg n0'.1, if_neg n0'.2.1, if_neg n0'.2.2, cp]
      split <;> split <;> omega
theorem frF9_v {ρ : Nat → Nat} {κ : zS} {f9 s : Nat} (hf : f9 = soVisits ∨ f9 = soWorths) : frV9 (zn κ) (frF9 ρ κ f9 s) := fun f b z => by
  rcases z with z | z | z | z
  · rcases z with ⟨_, z | z | z⟩ | ⟨_, z | z | z | z⟩ <;> rw [z]
    · exact Or.inr (Or.inl (by decide))
    · exact Or.inr (Or.inl (by decide))
    · exact Or.inr (Or.inr (Or.inl (by decide)))
    · exact Or.inr (Or.inr (Or.inr (Or.inl (by decide))))
    · exact Or.inr (Or.inr (Or.inr (Or.inl (by decide))))
    · exact Or.inr (Or.inr (Or.inr (Or.inl (by decide))))
    · exact Or.inr (Or.inr (Or.inr (Or.inl (by decide))))
  · rw [z.1]
    rcases hf with q | q <;> rw [q] <;> exact Or.inr (Or.inr (Or.inr (Or.inr (Or.inl (by decide)))))
  · exact Or.inr (Or.inr (Or.inr (Or.inr (Or.inr z))))
  · exact Or.inl z
