set_option maxHeartbeats 1600000
/-! the class: Web's weave -/
theorem we_gr {C : zC} {n0 f c t n : Nat} {κ κ1 κ2 : zS} (W : zW C n0 κ) (hr : zr f = some t) (ht : 20 ≤ t) (T : zT κ c = f / 100) (e1 : κ1 = na κ t n) (e : κ2 = uo κ1 f c (zn κ)) (cS : n + wS f (zN κ (zR κ f c)) ≤ wS f n) (cC : 4 + wC f (zN κ (zR κ f c)) ≤ wC f n) : zF (fun g b => g = f ∧ b = c) κ κ2 ∧ zI κ2 = zI κ ∧ (∀ g b, ¬ (g = f ∧ b = c) → zR κ2 g b = zR κ g b) ∧ zR κ2 f c = zn κ ∧ zN κ2 (zn κ) = n ∧ (∀ x d, zT κ x = d + 1 → zN κ2 x = zN κ x ∧ zA κ2 x = zA κ x) := by
  have F : zF (fun g b => g = f ∧ b = c) κ κ2 := zF_uo W hr ht T ht ⟨rfl, rfl⟩ (na_h e1) e cS cC
  refine ⟨F, by rw [e, e1]; rfl, fun g b h => by rw [e, e1]; exact if_neg h, by rw [e]; exact if_pos ⟨rfl, rfl⟩, ?_, fun x d hx => ⟨F.l hx, ?_⟩⟩
  · rw [e, e1]
    exact if_pos rfl
  · rw [e, e1]
    exact if_neg (W.nw hx)
theorem we_c {f o n : Nat} (hf : f = 1402 ∨ f = 1404 ∨ f = 1405) (h64 : 64 ≤ o) (ho : o < 20000) (hn : n = 20000 ∨ (2 * o ≤ n ∧ n < 20000)) : n + wS f o ≤ wS f n ∧ 4 + wC f o ≤ wC f n := by
  have c : cap9 f = 20000 := by
    rcases hf with rfl | rfl | rfl <;> rfl
  have h0 : f ≠ 0 ∧ f ≠ 605 ∧ f ≠ 800 := by omega
  unfold wS wC
  rw [if_neg h0.1, if_neg h0.2.1, if_neg h0.2.2, if_neg h0.1, if_neg h0.2.1, if_neg h0.2.2, if_neg h0.1, if_neg h0.2.1, if_neg h0.2.2, if_neg h0.1, if_neg h0.2.1, if_neg h0.2.2, c]
  split <;> split <;> omega
/-- the atlas as it was -/
theorem atW_E {C : zC} {n0 a b n : Nat} {κ τ : zS} (W : zW C n0 κ) (T : zT κ a = 14) (Tb : zT κ b = 3) (h : zF (objF a) κ τ) (A : atW κ b n) : atW τ b n := by
  have ne : b ≠ a := fun z => by rw [z, T] at Tb; exact absurd Tb (by decide)
  have ts := ty_atStates W Tb
  have te := ty_atEndings W Tb
  have ns : zR κ atStates b ≠ a := fun z => by rw [z, T] at ts; exact absurd ts (by decide)
  have ne2 : zR κ atEndings b ≠ a := fun z => by rw [z, T] at te; exact absurd te (by decide)
  have g := fun f hf => at_E W T Tb h (f := f) hf
  obtain ⟨A1, A2, A3, A4, A5, A6⟩ := A
  have rs : zR τ atStates b = zR κ atStates b := h.r ne
  have re : zR τ atEndings b = zR κ atEndings b := h.r ne
  refine ⟨?_, ?_, A3, ?_, ?_, fun k hk => ?_⟩
  · unfold atM
    rw [(g atFirsts (by decide)).2.2, (g atTotals (by decide)).2.2, (g atGains (by decide)).2.2, (g atPlan (by decide)).2.2, (g atChooses (by decide)).2.2, (g atHopeless (by decide)).2.2]
    exact A1
  · unfold atL
    rw [(g atSorts (by decide)).2.2, (g atNumbers (by decide)).2.2, (g atWeights (by decide)).2.2]
    exact A2
  · rw [rs, h.i ns]; exact A4
  · rw [h.i ne, (g atNumbers (by decide)).2.2]; exact A5
  · unfold exK
    rw [rs, re, h.i ns, h.i ne2, h.i ne, (g atFirsts (by decide)).2.1, (g atTotals (by decide)).2.1, (g atChooses (by decide)).2.1, (g atSorts (by decide)).2.1, (g atNumbers (by decide)).2.1, (g atWeights (by decide)).2.1]
    exact A6 k hk
def wfO (n : Nat) (L : Int) (wf tg : Nat → Int32) : Prop := (∀ k, k ≤ n → 0 ≤ (wf k).toInt ∧ (wf k).toInt ≤ (wf n).toInt) ∧ (∀ k, k < n → (wf k).toInt ≤ (wf (k + 1)).toInt) ∧ (wf n).toInt ≤ L ∧ ∀ i : Nat, (i : Int) < (wf n).toInt → 0 ≤ (tg i).toInt ∧ (tg i).toInt < n
/-- a web in order -/
def weG (κ : zS) (w a : Nat) (p : Int32) (n : Nat) : Prop := (weM κ w ∧ weL κ w) ∧ ((zI κ weTotal w).toInt = (n : Int) ∧ n ≤ 1000) ∧ wfO n ((zN κ (zR κ weTargets w))) (zA κ (zR κ weFirsts w)) (zA κ (zR κ weTargets w)) ∧ bkB (lkD κ a p) (zA κ (zR κ atFirsts a)) n ((zN κ (zR κ weTargets w))) (zA κ (zR κ weBackFirsts w)) ∧ ∀ t, t < n → ∀ b : Nat, (zA κ (zR κ weBackFirsts w) t).toInt ≤ (b : Int) → (b : Int) < (zA κ (zR κ weBackFirsts w) (t + 1)).toInt → gdE (lkD κ a p) (zA κ (zR κ atFirsts a)) n t (zA κ (zR κ weSources w) b) (zA κ (zR κ weEdges w) b)
/-- on the way through the nexts -/
def wvI (κ τ : zS) (w a : Nat) (p : Int32) (n k : Nat) (x : Int) (q : Nat) (ln wt : Int32) : Prop := weE κ τ w ∧ ((zA τ (zR κ weBackFirsts w) 0).toInt = 0 ∧ (∀ t, t < n → (zA τ (zR κ weBackFirsts w) (t + 1)).toInt = cP (lkD κ a p) (zA κ (zR κ atFirsts a)) t k x ∧ (zA τ (zR κ weBackFirsts w) (t + 1)).toInt ≤ ln.toInt) ∧ sgI (fun s => (zA τ (zR κ weBackFirsts w) (s + 1)).toInt) n = ln.toInt) ∧ (0 ≤ ln.toInt ∧ (ln.toInt = 0 ∨ ln.toInt ≤ x)) ∧ ((∀ j, j < q → 0 ≤ (zA τ (zR κ weFirsts w) j).toInt ∧ (zA τ (zR κ weFirsts w) j).toInt ≤ ln.toInt) ∧ ∀ j, j + 1 < q → (zA τ (zR κ weFirsts w) j).toInt ≤ (zA τ (zR κ weFirsts w) (j + 1)).toInt) ∧ (∀ i : Nat, (i : Int) < ln.toInt → 0 ≤ (zA τ (zR κ weTargets w) i).toInt ∧ (zA τ (zR κ weTargets w) i).toInt < n) ∧ wt.toInt = cBq (zA τ (zR κ weOpen w)) q ∧ ∀ i : Nat, (i : Int) < wt.toInt → 0 ≤ (zA τ (zR κ weHeap w) i).toInt ∧ (zA τ (zR κ weHeap w) i).toInt < n
/-- no link -/
theorem wv_n {κ σ : zS} {w a n k q : Nat} {p ln wt : Int32} {x : Int} (H : wvI κ σ w a p n k x q ln wt) (h0 : 0 ≤ (zA κ (zR κ atFirsts a) k).toInt) (h1 : (zA κ (zR κ atFirsts a) k).toInt ≤ x) (z : ∀ t, t < n → lkD κ a p t k x.toNat = 0) : wvI κ σ w a p n k (x + 1) q ln wt := by
  obtain ⟨E, ⟨B0, B1, B2⟩, l, R⟩ := H
  refine ⟨E, ⟨B0, fun t ht => ⟨?_, (B1 t ht).2⟩, B2⟩, ⟨l.1, by omega⟩, R⟩
  rw [cP_s h0 h1, z t ht, t0i, (B1 t ht).1]
  omega
/-- a link -/
theorem wv_l {C : zC} {n0 w a n k q t : Nat} {κ σ κ1 κ2 : zS} {p ln wt X to i1 : Int32} (W : zW C n0 σ) (W1 : zW C n0 κ1) (T : zT σ w = 14) (H : wvI κ σ w a p n k X.toInt q ln wt) (hn : n ≤ 1000) (hl : ln.toInt < 20000) (h0 : 0 ≤ (zA κ (zR κ atFirsts a) k).toInt) (h1 : (zA κ (zR κ atFirsts a) k).toInt ≤ X.toInt) (ht : t < n) (et : to.toInt = (t : Int)) (ei : i1.toNatClampNeg = t + 1) (z : lkD κ a p t k X.toInt.toNat = 1) (zo : ∀ s, s < n → s ≠ t → lkD κ a p s k X.toInt.toNat = 0) (e1 : κ1 = ua σ (zR σ weTargets w) ln.toNatClampNeg to) (e2 : κ2 = ua κ1 (zR κ1 weBackFirsts w) i1.toNatClampNeg (zA κ1 (zR κ1 weBackFirsts w) i1.toNatClampNeg + 1)) : wvI κ κ2 w a p n k (X.toInt + 1) q (ln + 1) wt := by
  obtain ⟨E, ⟨B0, B1, B2⟩, l, ⟨f1, f2⟩, tg, ct, hp⟩ := H
  obtain ⟨u1, u2, u3, u4⟩ := we_u W T (f := weTargets) (by decide) e1
  obtain ⟨v1, v2, v3, v4⟩ := we_u W1 u4 (f := weBackFirsts) (by decide) e2
  have rs := E.2.1
  have r1 : zR κ1 = zR κ := u1.2.1.trans rs
  rw [rs] at u2 u3
  rw [r1, u3 weBackFirsts (by decide) (by decide), ei] at v2
  rw [r1] at v3
  have el := cn1 l.1 (by omega)
  have kl := cnk l.1
  have b1 := B1 t ht
  have bp : 0 ≤ (zA σ (zR κ weBackFirsts w) (t + 1)).toInt := by rw [b1.1]; exact cP_p (fun _ _ _ => lkD_01)
  have eb : (zA σ (zR κ weBackFirsts w) (t + 1) + 1).toInt = (zA σ (zR κ weBackFirsts w) (t + 1)).toInt + 1 := (cn1 bp (by omega)).2
  have g1 : zA κ2 (zR κ weTargets w) = upd (zA σ (zR κ weTargets w)) ln.toNatClampNeg to := (v3 weTargets (by decide) (by decide)).trans u2
  have g2 : zA κ2 (zR κ weFirsts w) = zA σ (zR κ weFirsts w) := (v3 weFirsts (by decide) (by decide)).trans (u3 weFirsts (by decide) (by decide))
  have g3 : zA κ2 (zR κ weOpen w) = zA σ (zR κ weOpen w) := (v3 weOpen (by decide) (by decide)).trans (u3 weOpen (by decide) (by decide))
  have g4 : zA κ2 (zR κ weHeap w) = zA σ (zR κ weHeap w) := (v3 weHeap (by decide) (by decide)).trans (u3 weHeap (by decide) (by decide))
  have ub : ∀ s, s ≠ t + 1 → zA κ2 (zR κ weBackFirsts w) s = zA σ (zR κ weBackFirsts w) s := fun s hs => by rw [v2]; exact if_neg hs
  have ut : zA κ2 (zR κ weBackFirsts w) (t + 1) = zA σ (zR κ weBackFirsts w) (t + 1) + 1 := by rw [v2]; exact if_pos rfl
  unfold wvI
  rw [g1, g2, g3, g4, el.2]
  refine ⟨(E.tr u1).tr v1, ⟨by rw [ub 0 (by omega)]; exact B0, fun s hs => ?_, ?_⟩, by omega, ⟨fun j hj => ⟨(f1 j hj).1, by have := (f1 j hj).2; omega⟩, f2⟩, fun i hi => ?_, ct, hp⟩
  · have c1 := B1 s hs
    rw [cP_s h0 h1]
    by_cases y : s = t
    · subst y
      rw [ut, eb, z, t1i]
      omega
    · rw [ub (s + 1) (by omega), zo s hs y, t0i]
      omega
  · rw [sgI_up (f := fun s => (zA σ (zR κ weBackFirsts w) (s + 1)).toInt) (j := t) (d := 1) ht (fun i _ hi => by
      show (zA κ2 (zR κ weBackFirsts w) (i + 1)).toInt = _
      rw [ub (i + 1) (by omega)]) (by
      show (zA κ2 (zR κ weBackFirsts w) (t + 1)).toInt = _
      rw [ut, eb]), B2]
  · by_cases y : i = ln.toNatClampNeg
    · have q9 : upd (zA σ (zR κ weTargets w)) ln.toNatClampNeg to i = to := if_pos y
      rw [q9]; omega
    · have q9 : upd (zA σ (zR κ weTargets w)) ln.toNatClampNeg to i = zA σ (zR κ weTargets w) i := if_neg y
      rw [q9]
      exact tg i (by omega)
theorem cBq_x {f g : Nat → Int32} {n : Nat} (h : ∀ i, i < n → f i = g i) : cBq f n = cBq g n := sgI_eq (fun i hi => by
  show (if f i = 0 then (0 : Int) else 1) = if g i = 0 then 0 else 1
  rw [h i hi])
/-- the state is open -/
theorem wv_o {C : zC} {n0 w a n k : Nat} {κ σ κ1 κ2 : zS} {p ln wt K : Int32} {x : Int} (W : zW C n0 σ) (W1 : zW C n0 κ1) (T : zT σ w = 14) (H : wvI κ σ w a p n k x (k + 1) ln wt) (hn : n ≤ 1000) (hk : k < n) (eK : K.toInt = (k : Int)) (h : zA σ (zR σ weOpen w) k = 0) (e1 : κ1 = ua σ (zR σ weOpen w) k 1) (e2 : κ2 = ua κ1 (zR κ1 weHeap w) wt.toNatClampNeg K) : (0 ≤ wt.toInt ∧ wt.toInt < n) ∧ wvI κ κ2 w a p n k x (k + 1) ln (wt + 1) := by
  obtain ⟨E, Bq, l, ff, tg, ct, hp⟩ := H
  obtain ⟨u1, u2, u3, u4⟩ := we_u W T (f := weOpen) (by decide) e1
  obtain ⟨v1, v2, v3, v4⟩ := we_u W1 u4 (f := weHeap) (by decide) e2
  have rs := E.2.1
  have r1 : zR κ1 = zR κ := u1.2.1.trans rs
  rw [rs] at u2 u3 h
  rw [r1, u3 weHeap (by decide) (by decide)] at v2
  rw [r1] at v3
  have g1 : zA κ2 (zR κ weTargets w) = zA σ (zR κ weTargets w) := (v3 weTargets (by decide) (by decide)).trans (u3 weTargets (by decide) (by decide))
  have g2 : zA κ2 (zR κ weFirsts w) = zA σ (zR κ weFirsts w) := (v3 weFirsts (by decide) (by decide)).trans (u3 weFirsts (by decide) (by decide))
  have g3 : zA κ2 (zR κ weBackFirsts w) = zA σ (zR κ weBackFirsts w) := (v3 weBackFirsts (by decide) (by decide)).trans (u3 weBackFirsts (by decide) (by decide))
  have g4 : zA κ2 (zR κ weOpen w) = upd (zA σ (zR κ weOpen w)) k 1 := (v3 weOpen (by decide) (by decide)).trans u2
  have ck : cBq (zA σ (zR κ weOpen w)) (k + 1) = cBq (zA σ (zR κ weOpen w)) k + 0 := by
    show cBq (zA σ (zR κ weOpen w)) k + (if zA σ (zR κ weOpen w) k = 0 then 0 else 1) = _
    rw [if_pos h]
  have cl := cBq_le (f := zA σ (zR κ weOpen w)) (n := k)
  have c2 : cBq (zA κ2 (zR κ weOpen w)) (k + 1) = cBq (zA σ (zR κ weOpen w)) (k + 1) + 1 := by
    rw [g4]; exact cBq_up (Nat.lt_succ_self k) h (by decide)
  have ew := cn1 (x := wt) (by omega) (by omega)
  have kw := cnk (x := wt) (by omega)
  refine ⟨by omega, ?_⟩
  unfold wvI
  rw [g1, g2, g3, ew.2, c2]
  refine ⟨(E.tr u1).tr v1, Bq, l, ff, tg, by omega, fun i hi => ?_⟩
  rw [v2]
  by_cases y : i = wt.toNatClampNeg
  · have q9 : upd (zA σ (zR κ weHeap w)) wt.toNatClampNeg K i = K := if_pos y
    rw [q9]; omega
  · have q9 : upd (zA σ (zR κ weHeap w)) wt.toNatClampNeg K i = zA σ (zR κ weHeap w) i := if_neg y
    rw [q9]
    exact hp i (by omega)
/-- a state begins -/
theorem wv_b {C : zC} {n0 w a n k : Nat} {κ σ κ1 κ2 : zS} {p ln wt : Int32} {x : Int} (W : zW C n0 σ) (W1 : zW C n0 κ1) (T : zT σ w = 14) (H : wvI κ σ w a p n k x k ln wt) (e1 : κ1 = ua σ (zR σ weFirsts w) k ln) (e2 : κ2 = ua κ1 (zR κ1 weOpen w) k 0) : wvI κ κ2 w a p n k x (k + 1) ln wt := by
  obtain ⟨E, Bq, l, ⟨f1, f2⟩, tg, ct, hp⟩ := H
  obtain ⟨u1, u2, u3, u4⟩ := we_u W T (f := weFirsts) (by decide) e1
  obtain ⟨v1, v2, v3, v4⟩ := we_u W1 u4 (f := weOpen) (by decide) e2
  have rs := E.2.1
  have r1 : zR κ1 = zR κ := u1.2.1.trans rs
  rw [rs] at u2 u3
  rw [r1, u3 weOpen (by decide) (by decide)] at v2
  rw [r1] at v3
  have g1 : zA κ2 (zR κ weTargets w) = zA σ (zR κ weTargets w) := (v3 weTargets (by decide) (by decide)).trans (u3 weTargets (by decide) (by decide))
  have g2 : zA κ2 (zR κ weFirsts w) = upd (zA σ (zR κ weFirsts w)) k ln := (v3 weFirsts (by decide) (by decide)).trans u2
  have g3 : zA κ2 (zR κ weBackFirsts w) = zA σ (zR κ weBackFirsts w) := (v3 weBackFirsts (by decide) (by decide)).trans (u3 weBackFirsts (by decide) (by decide))
  have g4 : zA κ2 (zR κ weHeap w) = zA σ (zR κ weHeap w) := (v3 weHeap (by decide) (by decide)).trans (u3 weHeap (by decide) (by decide))
  have c2 : cBq (zA κ2 (zR κ weOpen w)) (k + 1) = cBq (zA σ (zR κ weOpen w)) k := by
    show cBq (zA κ2 (zR κ weOpen w)) k + (if zA κ2 (zR κ weOpen w) k = 0 then 0 else 1) = _
    have z : zA κ2 (zR κ weOpen w) k = 0 := by rw [v2]; exact if_pos rfl
    rw [if_pos z, cBq_x (g := zA σ (zR κ weOpen w)) (fun i hi => by rw [v2]; exact if_neg (Nat.ne_of_lt hi))]
    omega
  unfold wvI
  rw [g1, g3, g4, c2]
  have uk : zA κ2 (zR κ weFirsts w) k = ln := by rw [g2]; exact if_pos rfl
  have uj : ∀ j, j ≠ k → zA κ2 (zR κ weFirsts w) j = zA σ (zR κ weFirsts w) j := fun j hj => by rw [g2]; exact if_neg hj
  refine ⟨(E.tr u1).tr v1, Bq, l, ⟨fun j hj => ?_, fun j hj => ?_⟩, tg, ct, hp⟩
  · by_cases y : j = k
    · rw [y, uk]; exact ⟨l.1, Int.le_refl _⟩
    · rw [uj j y]; exact f1 j (by omega)
  · rw [uj j (by omega)]
    by_cases y : j + 1 = k
    · rw [y, uk]; exact (f1 j (by omega)).2
    · rw [uj (j + 1) y]; exact f2 j (by omega)
/-- and ends -/
theorem wv_e {κ σ : zS} {w a n k q : Nat} {p ln wt : Int32} (H : wvI κ σ w a p n k (zA κ (zR κ atFirsts a) (k + 1)).toInt q ln wt) : wvI κ σ w a p n (k + 1) (zA κ (zR κ atFirsts a) (k + 1)).toInt q ln wt := by
  obtain ⟨E, ⟨B0, B1, B2⟩, R⟩ := H
  refine ⟨E, ⟨B0, fun t ht => ⟨?_, (B1 t ht).2⟩, B2⟩, R⟩
  rw [cP_0, (B1 t ht).1, cP_e]
theorem sgI_z {f : Nat → Int} : ∀ {n : Nat}, (∀ i, i < n → f i = 0) → sgI f n = 0
  | 0, _ => rfl
  | n + 1, h => by
    show sgI f n + f n = 0
    rw [sgI_z (fun i hi => h i (Nat.lt_succ_of_lt hi)), h n (Nat.lt_succ_self n)]
    rfl
theorem We_weave_c {C : zC} {n0 : Nat} {a0 : Nat} {a1 : Nat} {a2 : Int32} {κ : zS} {Q : zS → Prop} (W : zW C n0 κ) (Ta0 : zT κ a0 = 14) (Ta1 : zT κ a1 = 3) (m9 : Nat) (hp : (weU κ a0 ∨ weM κ a0) ∧ weL κ a0 ∧ atW κ a1 m9) (h : ∀ (κ' : zS), (zF (objF a0) κ κ' ∧ weG κ' a0 a1 a2 m9 ∧ atW κ' a1 m9) → Q κ') : zRun C 2 mWe_weave [.ref a0, .ref a1, .int a2] κ (oV Q noX) := by
  refine We_weave_run W Ta0 Ta1 ?_
  replace W := W.lo (Nat.le_trans W.1.2.1 W.1.2.2) (Nat.le_refl (zn κ))
  unfold w_We_weave_0
  obtain ⟨U0, L0, A0⟩ := hp
  have hj61 : ∀ (l0 : Nat) (l1 : Nat) (l2 : Int32) (τ : zS), zW C (zn κ) τ → zT τ l0 = 14 → zT τ l1 = 3 → (a0 = l0 ∧ a1 = l1 ∧ a2 = l2 ∧ (weM τ a0 ∧ weL τ a0) ∧ zF (objF a0) κ τ ∧ (zI τ weTotal a0).toInt = (m9 : Int) ∧ (zI κ atNexts a1).toInt ≤ (zN τ (zR τ weTargets a0))) → w_We_weave_61 C (zn κ) Q  l0 l1 l2 τ := by
    rintro _ _ _ τ61 W61 T61_0 T61_1 ⟨rfl, rfl, rfl, j61⟩
    unfold w_We_weave_61
    intro T1
    refine Ar_fill_c W61 T1  (fun κ_2 q3 => ?_)
    have Zf : zF (objF a0) τ61 κ_2 := by rw [q3]; exact zF_uf (by rw [weRf_o W61 T61_0 (by decide)])
    have R2 : zR κ_2 = zR τ61 := by rw [q3]; rfl
    have N2 : zN κ_2 = zN τ61 := by rw [q3]; rfl
    have I2 : zI κ_2 = zI τ61 := by rw [q3]; rfl
    have T2 : zT κ_2 a0 = 14 := Zf.t T61_0 (by decide)
    have T2b : zT κ_2 a1 = 3 := Zf.t T61_1 (by decide)
    have ZZ := j61.2.1.tr Zf
    have M2 : weM κ_2 a0 := by unfold weM; rw [R2, N2]; exact j61.1.1
    have L2 : weL κ_2 a0 := by unfold weL; rw [R2, N2]; exact j61.1.2
    have t2 : (zI κ_2 weTotal a0).toInt = (m9 : Int) := by rw [I2]; exact j61.2.2.1
    have A2 : atW κ_2 a1 m9 := atW_E W Ta0 Ta1 ZZ A0
    have nx2 : (zI κ_2 atNexts a1).toInt ≤ zN κ_2 (zR κ_2 weTargets a0) := by
      have ne : a1 ≠ a0 := fun z => by rw [z, Ta0] at Ta1; exact absurd Ta1 (by decide)
      rw [ZZ.i ne, N2, R2]
      exact j61.2.2.2
    have b2 : ∀ t, t ≤ 1000 → zA κ_2 (zR κ_2 weBackFirsts a0) t = 0 := fun t ht => by
      rw [R2, q3]
      have l := j61.1.1.2.1
      refine (congrFun (if_pos rfl) t).trans ?_
      exact if_pos ⟨Nat.zero_le _, by omega⟩
    have A9 := A2
    obtain ⟨AM, AL, n1, nS, nb9, EK⟩ := A2
    have lT := L2.2.2
    have lS := L2.1.1
    have m1 := M2.1
    have m2 := M2.2.1
    have m3 := M2.2.2.1
    have m11 := M2.2.2.2.2.2.2.2.2.2.2
    have al := AL.1.1
    have al2 := AL.2.2
    intro W4
    intro M5
    unfold w_We_weave_77
    refine ⟨fun n l0 l1 l2 l3 l4 l5 τ => n = (1000 - l5.toInt).toNat ∧ (a0 = l0 ∧ a1 = l1 ∧ a2 = l2 ∧ (0 ≤ l5.toInt ∧ l5.toInt ≤ m9) ∧ wvI κ_2 τ a0 a1 a2 m9 l5.toNatClampNeg (zA κ_2 (zR κ_2 atFirsts a1) l5.toNatClampNeg).toInt l5.toNatClampNeg l3 l4), ⟨_, rfl, ?_⟩, ?_⟩
    · refine ⟨rfl, rfl, rfl, ⟨by decide, by rw [t0i]; omega⟩, weE.rf, ⟨by rw [b2 0 (by omega)]; rfl, fun t ht => ?_, ?_⟩, ⟨by decide, Or.inl rfl⟩, ⟨fun j hj => absurd hj (Nat.not_lt_zero _), fun j hj => absurd hj (Nat.not_lt_zero _)⟩, fun i hi => ?_, rfl, fun i hi => ?_⟩
      · rw [b2 (t + 1) (by omega)]
        refine ⟨?_, Int.le_refl _⟩
        show _ = cP _ _ t 0 (zA κ_2 (zR κ_2 atFirsts a1) 0).toInt
        rw [cP_0]
        rfl
      · refine sgI_z (fun i hi => ?_)
        rw [b2 (i + 1) (by omega)]
        rfl
      · rw [t0i] at hi; omega
      · rw [t0i] at hi; omega
    rintro n77 _ _ _ x77_3 x77_4 x77_5 κ77 W77 T77_0 T77_1 ⟨hn77, rfl, rfl, rfl, i77⟩
    obtain ⟨k77, H77⟩ := i77
    have rs := H77.1.2.1
    have ns := H77.1.2.2.2
    have is := H77.1.2.2.1
    have kn := cnk k77.1
    have l77 := H77.2.2.1
    refine ⟨fun c6 => ?_, fun c6 => ?_⟩
    · skip
      refine ⟨?_, ?_⟩
      · rw [rs, ns, is, inb_iff]; omega  -- b2
      intro κ_7 hκ_7
      intro W8
      intro T9
      intro T10
      rw [lei, is] at c6
      have kk : x77_5.toNatClampNeg = m9 := by omega
      rw [kk] at H77
      have U := we_u W77 T77_0 (f := weFirsts) (by decide) hκ_7
      have E7 := H77.1.tr U.1
      have M7 := weM_E E7 M2
      have L7 := weL_E E7 L2
      have A7 := atW_E W4 T2 T2b E7.1 A9
      have lk7 := lkD_E (p := a2) W4 T2 T2b E7.1
      have f7 := (at_E W4 T2 T2b E7.1 (f := atFirsts) (by decide)).2.1
      have r7 := E7.2.1
      have u3 := U.2.2.1
      have u2 := U.2.1
      rw [rs] at u3
      have tk : (zI κ_2 weTotal a0).toNatClampNeg = m9 := by
        have := cnk (x := zI κ_2 weTotal a0) (by omega)
        omega
      rw [rs, is, tk] at u2
      have b7 : zA κ_7 (zR κ_2 weBackFirsts a0) = zA κ77 (zR κ_2 weBackFirsts a0) := u3 weBackFirsts (by decide) (by decide)
      obtain ⟨-, ⟨B0, B1, B2⟩, ll, ⟨f1, f2⟩, tg, ct, hh⟩ := H77
      have lnb : x77_3.toInt ≤ zN κ_2 (zR κ_2 weTargets a0) := by
        by_cases z : m9 = 0
        · have y : x77_3.toInt = 0 := by rw [← B2, z]; rfl
          omega
        · have y := (EK (m9 - 1) (by omega)).1.2.2
          have e : m9 - 1 + 1 = m9 := by omega
          rw [e] at y
          omega
      refine We_weaveBack_c W8 T9 T10 m9 ?_ (fun κ_11 q12 => ?_)
      · refine ⟨⟨M7, L7⟩, by rw [E7.2.2.1]; exact t2, A7, ?_, fun t ht => ?_, ?_⟩
        · rw [r7, b7]; exact B0
        · rw [lk7, f7, r7, b7, (B1 t ht).1, cP_0]
        · rw [r7, b7, E7.2.2.2, B2]; exact lnb
      obtain ⟨E11, R11, B11, C11, D11⟩ := q12
      have r11 : zR κ_11 = zR κ_7 := E11.2.1
      have d01q : d01 (lkD κ_7 a1 a2) := fun _ _ _ => lkD_01
      have C12 : ∀ t, t < m9 → (zA κ_11 (zR κ_7 weCursor a0) t).toInt = (zA κ_11 (zR κ_7 weBackFirsts a0) (t + 1)).toInt := fun t ht => by
        rw [C11 t ht, cP_0, B11.2.1 t ht]
      intro W13
      intro M14
      intro T15
      refine We_reach_c W13 T15 m9 ?_ (fun κ_16 q17 => ?_)
      · refine ⟨⟨weM_E E11 M7, weL_E E11 L7⟩, ⟨by rw [E11.2.2.1, E7.2.2.1]; exact t2, n1⟩, ?_, fun i hi => ?_, fun t ht => ⟨⟨?_, ?_⟩, fun b g1 g2 => ?_⟩⟩
        · rw [r11, R11 weOpen (by decide) (by decide), r7, u3 weOpen (by decide) (by decide)]; exact ct
        · rw [r11, R11 weHeap (by decide) (by decide), r7, u3 weHeap (by decide) (by decide)]; exact hh i hi
        · rw [r11]
          have y := bkB_m d01q B11 (s := 0) (t := t) (Nat.zero_le _) (by omega)
          have y0 := B11.1
          omega
        · rw [r11, E11.2.2.2]
          have y := bkB_m d01q B11 (s := t + 1) (t := m9) (by omega) (Nat.le_refl _)
          have y0 := B11.2.2
          omega
        · rw [r11] at g1 g2
          rw [r11]
          have y := D11 t ht b g1 (by rw [C12 t ht]; exact g2)
          exact y.1
      intro W18
      intro M19
      refine h _ ?_
      · have E16 := q17.1
        have R16 := q17.2
        have EE := E11.tr E16
        have r16 : zR κ_16 = zR κ_7 := EE.2.1
        have row : ∀ f, f ∈ weRf → f ∉ rcL → zA κ_16 (zR κ_16 f a0) = zA κ_11 (zR κ_7 f a0) := fun f h1 h2 => by
          rw [r16, ← r11]
          exact R16 f h1 h2
        have k1 : zA κ_16 (zR κ_16 weFirsts a0) = upd (zA κ77 (zR κ_2 weFirsts a0)) m9 x77_3 := by rw [row weFirsts (by decide) (by decide), R11 weFirsts (by decide) (by decide), r7, u2]
        have k2 : zA κ_16 (zR κ_16 weTargets a0) = zA κ77 (zR κ_2 weTargets a0) := by rw [row weTargets (by decide) (by decide), R11 weTargets (by decide) (by decide), r7, u3 weTargets (by decide) (by decide)]
        have lkE := lkD_E (p := a2) W8 T9 T10 EE.1
        have fE := (at_E W8 T9 T10 EE.1 (f := atFirsts) (by decide)).2.1
        have nE : zN κ_16 (zR κ_16 weTargets a0) = zN κ_7 (zR κ_7 weTargets a0) := by rw [r16, EE.2.2.2]
        have n7 : zN κ_7 (zR κ_7 weTargets a0) = zN κ_2 (zR κ_2 weTargets a0) := by rw [r7, E7.2.2.2]
        have um : upd (zA κ77 (zR κ_2 weFirsts a0)) m9 x77_3 m9 = x77_3 := if_pos rfl
        have uj : ∀ j, j < m9 → upd (zA κ77 (zR κ_2 weFirsts a0)) m9 x77_3 j = zA κ77 (zR κ_2 weFirsts a0) j := fun j hj => if_neg (Nat.ne_of_lt hj)
        refine ⟨(ZZ.tr E7.1).tr EE.1, ⟨⟨weM_E EE M7, weL_E EE L7⟩, ⟨by rw [EE.2.2.1, E7.2.2.1]; exact t2, n1⟩, ?_, ?_, fun t ht b g1 g2 => ?_⟩, atW_E W8 T9 T10 EE.1 A7⟩
        · rw [k1, k2, nE, n7]
          unfold wfO
          rw [um]
          refine ⟨fun k hk => ?_, fun k hk => ?_, lnb, tg⟩
          · by_cases z : k = m9
            · rw [z, um]; exact ⟨ll.1, Int.le_refl _⟩
            · rw [uj k (by omega)]; exact f1 k (by omega)
          · rw [uj k hk]
            by_cases z : k + 1 = m9
            · rw [z, um]; exact (f1 k hk).2
            · rw [uj (k + 1) (by omega)]; exact f2 k (by omega)
        · rw [lkE, fE, nE, row weBackFirsts (by decide) (by decide)]; exact B11
        · rw [row weBackFirsts (by decide) (by decide)] at g1 g2
          rw [lkE, fE, row weSources (by decide) (by decide), row weEdges (by decide) (by decide)]
          exact D11 t ht b g1 (by rw [C12 t ht]; exact g2)
    · skip
      rw [lei, is] at c6
      have lt77 : x77_5.toNatClampNeg < m9 := by omega
      obtain ⟨X1, X2, X3, X4, X5⟩ := EK x77_5.toNatClampNeg lt77
      refine ⟨?_, ?_⟩
      · rw [rs, ns, inb_iff]; omega  -- b6
      intro κ_20 hκ_20
      intro W21
      have U := we_u W77 T77_0 (f := weFirsts) (by decide) hκ_20
      refine ⟨?_, ?_⟩
      · rw [U.1.2.1, U.1.2.2.2, rs, ns, inb_iff]; omega  -- b7
      intro κ_22 hκ_22
      intro W23
      have nv0 : vp_nar .boolean (0 : Int32) = 0 := rfl
      rw [nv0] at hκ_22
      have V := we_u W21 U.2.2.2 (f := weOpen) (by decide) hκ_22
      have E22 := (H77.1.tr U.1).tr V.1
      have g22 := at_E W4 T2 T2b E22.1 (f := atFirsts) (by decide)
      refine ⟨?_, ?_⟩
      · have l1 := AM.1
        rw [g22.2.2, inb_iff]; omega
      intro x24 hx24
      unfold w_We_weave_111
      refine ⟨fun n l0 l1 l2 l3 l4 l5 l6 τ => n = (20000 - l6.toInt).toNat ∧ (a0 = l0 ∧ a1 = l1 ∧ a2 = l2 ∧ x77_5 = l5 ∧ ((zA κ_2 (zR κ_2 atFirsts a1) x77_5.toNatClampNeg).toInt ≤ l6.toInt ∧ l6.toInt ≤ (zA κ_2 (zR κ_2 atFirsts a1) (x77_5.toNatClampNeg + 1)).toInt) ∧ wvI κ_2 τ a0 a1 a2 m9 x77_5.toNatClampNeg l6.toInt (x77_5.toNatClampNeg + 1) l3 l4), ⟨_, rfl, ?_⟩, ?_⟩
      · rw [hx24, g22.2.1]
        exact ⟨rfl, rfl, rfl, rfl, ⟨Int.le_refl _, X1.2.1⟩, wv_b W77 W21 T77_0 H77 hκ_20 hκ_22⟩
      rintro n111 _ _ _ x111_3 x111_4 x111_5 x111_6 κ111 W111 T111_0 T111_1 ⟨hn111, rfl, rfl, rfl, i111⟩
      obtain ⟨rfl, x111, H111⟩ := i111
      have rt := H111.1.2.1
      have nt := H111.1.2.2.2
      have Z111 := H111.1.1
      have gF := at_E W4 T2 T2b Z111 (f := atFirsts) (by decide)
      have gS := at_E W4 T2 T2b Z111 (f := atSorts) (by decide)
      have gN := at_E W4 T2 T2b Z111 (f := atNumbers) (by decide)
      have kx := cnk (x := x111_6) (by omega)
      have kx2 : x111_6.toInt.toNat = x111_6.toNatClampNeg := rfl
      have l111 := H111.2.2.1
      have e6 := cn1 (x := x111_6) (by omega) (by omega)
      have en := cn1 k77.1 (by omega)
      have hj143 : ∀ (l0 : Nat) (l1 : Nat) (l2 : Int32) (l3 : Int32) (l4 : Int32) (l5 : Int32) (l6 : Int32) (τ : zS), zW C (zn κ) τ → zT τ l0 = 14 → zT τ l1 = 3 → (a0 = l0 ∧ a1 = l1 ∧ a2 = l2 ∧ κ111 = τ ∧ x111_3 = l3 ∧ x111_4 = l4 ∧ x77_5 = l5 ∧ x111_6 = l6 ∧ x111_6.toInt < (zA κ_2 (zR κ_2 atFirsts a1) (x77_5.toNatClampNeg + 1)).toInt ∧ (a2 = 0 ∨ zA κ_2 (zR κ_2 atChooses a1) x77_5.toNatClampNeg = 0 ∨ Int32.ofNat x111_6.toNatClampNeg = zA κ_2 (zR κ_2 atFirsts a1) x77_5.toNatClampNeg + zA κ_2 (zR κ_2 atPlan a1) x77_5.toNatClampNeg)) → w_We_weave_143 C (zn κ) Q (fun (l0' : Nat) (l1' : Nat) (l2' : Int32) (l3' : Int32) (l4' : Int32) (l5' : Int32) (τ : zS) => ∃ k < n77, (fun (n : Nat) (l0 : Nat) (l1 : Nat) (l2 : Int32) (l3 : Int32) (l4 : Int32) (l5 : Int32) (τ : zS) => n = (1000 - l5.toInt).toNat ∧ (a0 = l0 ∧ a1 = l1 ∧ a2 = l2 ∧ (0 ≤ l5.toInt ∧ l5.toInt ≤ m9) ∧ wvI κ_2 τ a0 a1 a2 m9 l5.toNatClampNeg (zA κ_2 (zR κ_2 atFirsts a1) l5.toNatClampNeg).toInt l5.toNatClampNeg l3 l4)) k l0' l1' l2' l3' l4' l5' τ) (fun (l0' : Nat) (l1' : Nat) (l2' : Int32) (l3' : Int32) (l4' : Int32) (l5' : Int32) (l6' : Int32) (τ : zS) => ∃ k < n111, (fun (n : Nat) (l0 : Nat) (l1 : Nat) (l2 : Int32) (l3 : Int32) (l4 : Int32) (l5 : Int32) (l6 : Int32) (τ : zS) => n = (20000 - l6.toInt).toNat ∧ (a0 = l0 ∧ a1 = l1 ∧ a2 = l2 ∧ x77_5 = l5 ∧ ((zA κ_2 (zR κ_2 atFirsts a1) x77_5.toNatClampNeg).toInt ≤ l6.toInt ∧ l6.toInt ≤ (zA κ_2 (zR κ_2 atFirsts a1) (x77_5.toNatClampNeg + 1)).toInt) ∧ wvI κ_2 τ a0 a1 a2 m9 x77_5.toNatClampNeg l6.toInt (x77_5.toNatClampNeg + 1) l3 l4)) k l0' l1' l2' l3' l4' l5' l6' τ) l0 l1 l2 l3 l4 l5 l6 τ := by
        rintro _ _ _ y143_3 y143_4 y143_5 y143_6 τ143 W143 T143_0 T143_1 ⟨rfl, rfl, rfl, j143⟩
        unfold w_We_weave_143
        obtain ⟨rfl, rfl, rfl, rfl, rfl, c40, lk⟩ := j143
        refine ⟨?_, ?_⟩
        · rw [gS.2.2, inb_iff]; omega  -- b10
        refine ⟨fun c25 => ?_, fun c25 => ?_⟩
        · skip
          refine ⟨?_, ?_⟩
          · rw [rt, nt, inb_iff]; omega  -- b11
          refine ⟨fun c26 => ?_, fun c26 => ?_⟩
          · skip
            intro x27 hx27
            refine ⟨_, ?_, rfl, ?_⟩
            · rw [hn111, hx27, e6.2]; omega  -- d12
            · rw [gS.2.1] at c25
              rw [hx27, e6.2]
              exact ⟨rfl, rfl, rfl, rfl, by omega, wv_n H111 X1.1 x111.1 (fun t _ => if_neg (fun z => c25 z.1.1))⟩
          · skip
            refine ⟨?_, ?_⟩
            · rw [rt, nt, inb_iff]; omega  -- b14
            intro κ_28 hκ_28
            intro W29
            have nv1 : vp_nar .boolean (1 : Int32) = 1 := rfl
            rw [nv1] at hκ_28
            have U9 := we_u W111 T111_0 (f := weOpen) (by decide) hκ_28
            have wb := (wv_o (κ2 := ua κ_28 (zR κ_28 weHeap a0) x111_4.toNatClampNeg x77_5) W111 W29 T111_0 H111 n1 lt77 (by omega) c26 hκ_28 rfl).1
            refine ⟨?_, ?_⟩
            · rw [U9.1.2.1, U9.1.2.2.2, rt, nt, inb_iff]; omega  -- b15
            intro κ_30 hκ_30
            intro W31
            intro x32 hx32
            intro x33 hx33
            refine ⟨_, ?_, rfl, ?_⟩
            · rw [hn111, hx33, e6.2]; omega  -- d16
            · rw [gS.2.1] at c25
              rw [hx32, hx33, e6.2]
              exact ⟨rfl, rfl, rfl, rfl, by omega, wv_n (wv_o W111 W29 T111_0 H111 n1 lt77 (by omega) c26 hκ_28 hκ_30).2 X1.1 x111.1 (fun t _ => if_neg (fun z => c25 z.1.1))⟩
        · skip
          rw [gS.2.1] at c25
          have nx := (X2 x111_6.toNatClampNeg (by omega) (by omega)).1 c25
          have et := cn1 nx.1 (by omega)
          have kt := cnk nx.1
          refine ⟨?_, ?_⟩
          · rw [gN.2.2, inb_iff]; omega  -- b18
          refine ⟨?_, ?_⟩
          · have y := L2.2.1
            rw [rt, nt, inb_iff]; omega
          intro κ_34 hκ_34
          intro W35
          intro x36 hx36
          rw [gN.2.1] at hκ_34
          have U34 := we_u W111 T111_0 (f := weTargets) (by decide) hκ_34
          have g34 := at_E W4 T2 T2b (Z111.tr U34.1.1) (f := atNumbers) (by decide)
          refine ⟨?_, ?_⟩
          · rw [g34.2.2, inb_iff]; omega  -- b20
          refine ⟨?_, ?_⟩
          · rw [g34.2.1, U34.1.2.1, U34.1.2.2.2, rt, nt, inb_iff, et.2]; omega  -- b21
          refine ⟨?_, ?_⟩
          · rw [g34.2.1, U34.1.2.1, U34.1.2.2.2, rt, nt, inb_iff, et.2]; omega  -- b22
          intro κ_37 hκ_37
          intro W38
          intro x39 hx39
          refine ⟨_, ?_, rfl, ?_⟩
          · rw [hn111, hx39, e6.2]; omega  -- d23
          · rw [g34.2.1] at hκ_37
            rw [hx36, hx39, e6.2]
            refine ⟨rfl, rfl, rfl, rfl, by omega, wv_l (t := (zA κ_2 (zR κ_2 atNumbers a1) x111_6.toNatClampNeg).toNatClampNeg) W111 W35 T111_0 H111 n1 (by omega) X1.1 x111.1 (by omega) kt.symm et.1 (if_pos ⟨⟨c25, lk⟩, kt.symm⟩) (fun s _ hs => if_neg (fun z => ?_)) hκ_34 hκ_37⟩
            have y := z.2
            rw [kx2] at y
            omega
      refine ⟨?_, ?_⟩
      · have l1 := AM.1
        rw [gF.2.2, inb_iff, en.2]; omega
      refine ⟨fun c40 => ?_, fun c40 => ?_⟩
      · skip
        intro x41 hx41
        refine ⟨_, ?_, rfl, ?_⟩
        · rw [hn77, hx41, en.2]; omega  -- d26
        · rw [lei, en.1, gF.2.1] at c40
          have e9 : x111_6.toInt = (zA κ_2 (zR κ_2 atFirsts a1) (x77_5.toNatClampNeg + 1)).toInt := by omega
          rw [e9] at H111
          rw [hx41, en.1, en.2]
          exact ⟨rfl, rfl, rfl, by omega, wv_e H111⟩
      · skip
        rw [lei, en.1, gF.2.1] at c40
        refine ⟨fun c42 => ?_, fun c42 => ?_⟩
        · skip
          refine hj143 _ _ _ _ _ _ _ _ W111 ?_ ?_ ?_
          · exact T111_0  -- t28
          · exact T111_1  -- t29
          · exact ⟨rfl, rfl, rfl, rfl, rfl, rfl, rfl, rfl, by omega, Or.inl c42⟩  -- k30
        · skip
          intro T43
          refine At_isTaken_c W111 T43  ?_ (fun r44 q46 => ?_)
          · exact ⟨(atW_E W4 T2 T2b Z111 A9).1, k77.1, by omega⟩  -- p31
          have gC := at_E W4 T2 T2b Z111 (f := atChooses) (by decide)
          have gP := at_E W4 T2 T2b Z111 (f := atPlan) (by decide)
          rw [gC.2.1, gF.2.1, gP.2.1] at q46
          have eo : Int32.ofNat x111_6.toNatClampNeg = x111_6 := Int32.toInt_inj.mp (by rw [ofn_i (by omega)]; omega)
          intro W47
          intro M48
          refine ⟨fun c49 => ?_, fun c49 => ?_⟩
          · skip
            refine hj143 _ _ _ _ _ _ _ _ W47 ?_ ?_ ?_
            · exact T111_0  -- t32
            · exact T111_1  -- t33
            · refine ⟨rfl, rfl, rfl, rfl, rfl, rfl, rfl, rfl, by omega, Or.inr ?_⟩
              rcases q46.2.mp c49 with y | y
              · exact Or.inl y
              · exact Or.inr (by rw [eo]; exact y)
          · skip
            intro x50 hx50
            refine ⟨_, ?_, rfl, ?_⟩
            · rw [hn111, hx50, e6.2]; omega  -- d35
            · rw [hx50, e6.2]
              refine ⟨rfl, rfl, rfl, rfl, by omega, wv_n H111 X1.1 x111.1 (fun t _ => if_neg (fun z => ?_))⟩
              rcases z.1.2 with y | y | y
              · exact c42 y
              · exact q46.2.mpr (Or.inl y) c49
              · rw [kx2, eo] at y
                exact q46.2.mpr (Or.inr y) c49
  intro T51
  refine We_makeRows_c W T51  ?_ (fun κ_52 q53 => ?_)
  · exact ⟨U0, L0⟩  -- p37
  intro W54
  intro M55
  intro κ_56 hκ_56
  intro W57
  have ne : a1 ≠ a0 := fun z => by rw [z, Ta0] at Ta1; exact absurd Ta1 (by decide)
  have Z56 : zF (objF a0) κ κ_56 := q53.1.tr (by rw [hκ_56]; exact zF_ui rfl)
  have R56 : zR κ_56 = zR κ_52 := by rw [hκ_56]; rfl
  have N56 : zN κ_56 = zN κ_52 := by rw [hκ_56]; rfl
  have M56 : weM κ_56 a0 := by unfold weM; rw [R56, N56]; exact q53.2.2.1
  have L56 : weL κ_56 a0 := by unfold weL; rw [R56, N56]; exact q53.2.2.2
  have rS : zR κ_52 atStates a1 = zR κ atStates a1 := q53.1.r ne
  have t56 : (zI κ_56 weTotal a0).toInt = (m9 : Int) := by
    have e : zI κ_56 weTotal a0 = zI κ_52 hoTotal (zR κ_52 atStates a1) := by rw [hκ_56]; exact if_pos ⟨rfl, rfl⟩
    rw [e, rS, q53.2.1]
    exact A0.2.2.2.1
  have T56 : zT κ_56 a0 = 14 := Z56.t Ta0 (by decide)
  have T56b : zT κ_56 a1 = 3 := Z56.t Ta1 (by decide)
  have oN := W57.n (ty_weTargets W57 T56)
  have a5 := A0.2.2.2.2.1
  have a2l := A0.2.1.2.2
  have l64 := L56.2.1
  refine ⟨fun c58 => ?_, fun c58 => ?_⟩
  · skip
    refine hj61 _ _ _ _ W57 ?_ ?_ ?_
    · exact T56  -- t38
    · exact T56b  -- t39
    · rw [lei, ofn_i oN, Z56.i ne] at c58
      exact ⟨rfl, rfl, rfl, ⟨M56, L56⟩, Z56, t56, c58⟩
  · skip
    intro x59 hx59
    rw [lei, ofn_i oN, Z56.i ne] at c58
    have e20 : (20000 : Int32).toInt = 20000 := rfl
    have e2 : (zI κ_56 atNexts a1 * 2).toInt = (zI κ atNexts a1).toInt * 2 := by rw [Z56.i ne, mul_i (by rw [t2i]; omega) (by rw [t2i]; omega), t2i]
    have xb : x59.toInt = 20000 ∨ (x59.toInt = 2 * (zI κ atNexts a1).toInt ∧ x59.toInt ≤ 20000) := by
      rw [hx59]
      split
      · exact Or.inl e20
      · rename_i z
        rw [lti, e20, e2] at z
        rw [e2]; omega
    have kx := cnk (x := x59) (by omega)
    have xn : x59.toNatClampNeg = 20000 ∨ (2 * zN κ_56 (zR κ_56 weTargets a0) ≤ x59.toNatClampNeg ∧ x59.toNatClampNeg < 20000) := by omega
    have lE1 := L56.1.1
    have lE2 := L56.1.2
    refine ⟨?_, ?_⟩
    · exact ⟨by rw [lei, t0i]; omega, by omega⟩  -- b41
    intro κ_60 hκ_60
    intro W61
    refine ⟨?_, ?_⟩
    · rw [hκ_60]; exact if_pos rfl  -- b42
    intro κ_62 hκ_62
    intro W63
    have c1 := we_c (f := weTargets) (o := zN κ_56 (zR κ_56 weTargets a0)) (n := x59.toNatClampNeg) (Or.inl rfl) (by omega) (by omega) (by omega)
    obtain ⟨F1, u1, u2, u3, u4, u5⟩ := we_gr W57 (show zr weTargets = some 20 by decide +kernel) (by decide) T56 hκ_60 hκ_62 c1.1 c1.2
    have T62 : zT κ_62 a0 = 14 := F1.t T56 (by decide)
    have s62 : zN κ_62 (zR κ_62 weSources a0) = zN κ_56 (zR κ_56 weSources a0) := by rw [u2 weSources a0 (fun z => absurd z.1 (by decide)), (u5 _ _ (ty_weSources W57 T56)).1]
    refine ⟨?_, ?_⟩
    · exact ⟨by rw [lei, t0i]; omega, by omega⟩  -- b43
    intro κ_64 hκ_64
    intro W65
    refine ⟨?_, ?_⟩
    · rw [hκ_64]; exact if_pos rfl  -- b44
    intro κ_66 hκ_66
    intro W67
    have c2 := we_c (f := weSources) (o := zN κ_62 (zR κ_62 weSources a0)) (n := x59.toNatClampNeg) (Or.inr (Or.inl rfl)) (by omega) (by omega) (by omega)
    obtain ⟨F2, v1, v2, v3, v4, v5⟩ := we_gr W63 (show zr weSources = some 20 by decide +kernel) (by decide) T62 hκ_64 hκ_66 c2.1 c2.2
    have T66 : zT κ_66 a0 = 14 := F2.t T62 (by decide)
    have s66 : zN κ_66 (zR κ_66 weEdges a0) = zN κ_56 (zR κ_56 weEdges a0) := by rw [v2 weEdges a0 (fun z => absurd z.1 (by decide)), (v5 _ _ (ty_weEdges W63 T62)).1, u2 weEdges a0 (fun z => absurd z.1 (by decide)), (u5 _ _ (ty_weEdges W57 T56)).1]
    refine ⟨?_, ?_⟩
    · exact ⟨by rw [lei, t0i]; omega, by omega⟩  -- b45
    intro κ_68 hκ_68
    intro W69
    refine ⟨?_, ?_⟩
    · rw [hκ_68]; exact if_pos rfl  -- b46
    intro κ_70 hκ_70
    intro W71
    have c3 := we_c (f := weEdges) (o := zN κ_66 (zR κ_66 weEdges a0)) (n := x59.toNatClampNeg) (Or.inr (Or.inr rfl)) (by omega) (by omega) (by omega)
    obtain ⟨F3, w1, w2, w3, w4, w5⟩ := we_gr W67 (show zr weEdges = some 20 by decide +kernel) (by decide) T66 hκ_68 hκ_70 c3.1 c3.2
    refine hj61 _ _ _ _ W71 ?_ ?_ ?_
    · have c3 := we_c (f := weEdges) (o := zN κ_66 (zR κ_66 weEdges a0)) (n := x59.toNatClampNeg) (Or.inr (Or.inr rfl)) (by omega) (by omega) (by omega)
      obtain ⟨F3, w1, w2, w3, w4, w5⟩ := we_gr W67 (show zr weEdges = some 20 by decide +kernel) (by decide) T66 hκ_68 hκ_70 c3.1 c3.2
      exact F3.t T66 (by decide)
    · have c3 := we_c (f := weEdges) (o := zN κ_66 (zR κ_66 weEdges a0)) (n := x59.toNatClampNeg) (Or.inr (Or.inr rfl)) (by omega) (by omega) (by omega)
      obtain ⟨F3, w1, w2, w3, w4, w5⟩ := we_gr W67 (show zr weEdges = some 20 by decide +kernel) (by decide) T66 hκ_68 hκ_70 c3.1 c3.2
      exact F3.t (F2.t (F1.t T56b (by decide)) (by decide)) (by decide)
    · have c3 := we_c (f := weEdges) (o := zN κ_66 (zR κ_66 weEdges a0)) (n := x59.toNatClampNeg) (Or.inr (Or.inr rfl)) (by omega) (by omega) (by omega)
      obtain ⟨F3, w1, w2, w3, w4, w5⟩ := we_gr W67 (show zr weEdges = some 20 by decide +kernel) (by decide) T66 hκ_68 hκ_70 c3.1 c3.2
      have tT : zT κ_62 (zn κ_56) = 20 := by rw [← u3]; exact ty_weTargets W63 T62
      have tS : zT κ_66 (zn κ_62) = 20 := by rw [← v3]; exact ty_weSources W67 T66
      have rT : zR κ_70 weTargets a0 = zn κ_56 := (w2 weTargets a0 (fun z => absurd z.1 (by decide))).trans ((v2 weTargets a0 (fun z => absurd z.1 (by decide))).trans u3)
      have rS2 : zR κ_70 weSources a0 = zn κ_62 := (w2 weSources a0 (fun z => absurd z.1 (by decide))).trans v3
      have nT : zN κ_70 (zn κ_56) = x59.toNatClampNeg := ((w5 _ _ (F2.t tT (by decide))).1).trans (((v5 _ _ tT).1).trans u4)
      have nS2 : zN κ_70 (zn κ_62) = x59.toNatClampNeg := ((w5 _ _ tS).1).trans v4
      have ow : ∀ f, f ∈ weRf → f ≠ weTargets → f ≠ weSources → f ≠ weEdges → zN κ_70 (zR κ_70 f a0) = zN κ_56 (zR κ_56 f a0) := fun f hf h1 h2 h3 => by
        obtain ⟨⟨t, g1, g2⟩, g3⟩ := weRf_r f hf
        have ty := W57.r g1 (T56.trans g3.symm)
        have y1 : zT κ_56 (zR κ_56 f a0) = (t - 1) + 1 := by omega
        have ty2 := W63.r g1 (T62.trans g3.symm)
        have y2 : zT κ_62 (zR κ_62 f a0) = (t - 1) + 1 := by omega
        have ty3 := W67.r g1 (T66.trans g3.symm)
        have y3 : zT κ_66 (zR κ_66 f a0) = (t - 1) + 1 := by omega
        rw [w2 f a0 (fun z => h3 z.1), (w5 _ _ y3).1, v2 f a0 (fun z => h2 z.1), (v5 _ _ y2).1, u2 f a0 (fun z => h1 z.1), (u5 _ _ y1).1]
      refine ⟨rfl, rfl, rfl, ⟨?_, ?_⟩, ((Z56.tr (F1.mono (fun f x z => z.2))).tr (F2.mono (fun f x z => z.2))).tr (F3.mono (fun f x z => z.2)), ?_, ?_⟩
      · unfold weM
        rw [ow weFirsts (by decide) (by decide) (by decide) (by decide), ow weBackFirsts (by decide) (by decide) (by decide) (by decide), ow weOpen (by decide) (by decide) (by decide) (by decide), ow weKnotFirsts (by decide) (by decide) (by decide) (by decide), ow weKnotOf (by decide) (by decide) (by decide) (by decide), ow weOrder (by decide) (by decide) (by decide) (by decide), ow weSeen (by decide) (by decide) (by decide) (by decide), ow weLow (by decide) (by decide) (by decide) (by decide), ow weCursor (by decide) (by decide) (by decide) (by decide), ow wePath (by decide) (by decide) (by decide) (by decide), ow weHeap (by decide) (by decide) (by decide) (by decide)]
        exact M56
      · unfold weL
        rw [rT, rS2, w3, nT, nS2, w4]
        exact ⟨⟨rfl, rfl⟩, by omega, by omega⟩
      · rw [w1, v1, u1]; exact t56
      · rw [rT, nT]; omega
