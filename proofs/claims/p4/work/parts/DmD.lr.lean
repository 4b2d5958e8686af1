set_option maxHeartbeats 1600000
/-! both readings side by side: states that are alike, results that are alike -/
abbrev V5 : Type := Int32 × (Nat → Int32) × Int32 × (Nat → Int32) × Int32 × (Nat → Int32) × (Nat → Int32) × Int32 × (Nat → Int32) × Int32 × (Nat → Int32) × Int32 × (Nat → Int32) × (Nat → Int32) × Int32 × (Nat → Nat)
abbrev W5 : Type := Int32 × (Nat → Int32) × Int32 × (Nat → Int32) × Int32 × (Nat → Int32) × (Nat → Int32) × (Nat → Int32) × (Nat → Int32) × Int32 × Int32 × (Nat → Int32) × (Nat → Int32) × Int32 × (Nat → Int32) × (Nat → Int32)
/-- what the class has told: vars, arrays, functions with counts, own names, statements, blocks -/
def gE5 (e : E5) : V5 := (e.1 509, e.2.1 1006, e.1 510, e.2.1 1007, e.1 512, e.2.1 1008, e.2.1 504, e.1 1010, e.2.1 1009, e.1 513, e.2.1 506, e.1 1014, e.2.1 1011, e.2.1 1013, e.1 1005, e.2.2)
def gS5 (σ : rS) : W5 := (σ.1 15, σ.2.2.1 20, σ.1 16, σ.2.2.1 22, σ.1 18, σ.2.2.1 25, σ.2.2.1 26, σ.2.2.1 27, σ.2.2.1 28, σ.1 41, σ.1 19, σ.2.2.1 30, σ.2.2.1 32, σ.1 42, σ.2.2.1 43, σ.2.2.1 45)
/-- states alike: the token that is looked at, no fault, as many brackets open (l at least) -/
def LR5 (T : T5) (X : X5) (Bk N : Nat) (Z : Int32) (V : V5) (W : W5) (a l : Nat) (e : E5) (σ : rS) : Prop :=
  (tq5 e = T ∧ sx5 σ = X ∧ σ.1 2 = Z) ∧ (gE5 e = V ∧ gS5 σ = W) ∧ (a < N ∧ e.1 paAt = Int32.ofNat a ∧ σ.1 10 = Int32.ofNat (Bk + a) ∧ e.1 paKind = T.2.1 a ∧ T.2.1 a ≠ 143) ∧ (σ.1 11 = 0 ∧ σ.1 46 = 0 ∧ σ.1 47 = 0) ∧ (σ.1 13 = e.1 paOpen ∧ (l : Int) ≤ (e.1 paOpen).toInt ∧ (e.1 paOpen).toInt ≤ 40)
/-- results alike -/
def sr5 {α : Type} (Q : E5 → α → rS → Prop) (r : R5 α) (σ : rS) : Prop := r = .inr (0, 0) ∨ (∃ e a, r = .inl (e, a) ∧ e.1 paKind ≠ 143 ∧ Q e a σ) ∨ (∃ f p, f ≠ 0 ∧ σ.1 11 = f ∧ σ.1 12 = p ∧ (r = .inr (f, p) ∨ (f = 1 ∧ ∃ e a, r = .inl (e, a) ∧ e.1 paKind = 143 ∧ pl5 (e.1 paAt) e = p)))
/-- a bad token is looked at -/
def dk5 (p : Int32) (e : E5) : Prop := e.1 paKind = 143 ∧ pl5 (e.1 paAt) e = p
def dq5 {α : Type} (p : Int32) (r : R5 α) : Prop := r = .inr (0, 0) ∨ r = .inr (1, p) ∨ ∃ e a, r = .inl (e, a) ∧ dk5 p e
theorem dq_b5 {α β : Type} {p : Int32} {m : R5 α} {k : E5 → α → R5 β} (h : dq5 p m) (hk : ∀ e a, dk5 p e → dq5 p (k e a)) : dq5 p (rdB5 m k) := by
  rcases h with h | h | ⟨e, a, h, d⟩
  · rw [h]; exact Or.inl rfl
  · rw [h]; exact Or.inr (Or.inl rfl)
  · rw [h]; exact hk e a d
theorem dq_i5 {α : Type} {p : Int32} {e : E5} {a : α} (h : dk5 p e) : dq5 p (.inl (e, a)) := Or.inr (Or.inr ⟨e, a, rfl, h⟩)
theorem dq_r5 {α : Type} {p f t : Int32} {e : E5} (h : dk5 p e) : dq5 (α := α) p (.inr (rv5 f t e)) := by
  refine Or.inr (Or.inl ?_)
  unfold rv5
  rw [if_pos h.1, if_pos h.1, h.2]
theorem dq_n5 {α : Type} {p c : Int32} {e : E5} {A B : R5 α} (h : dk5 p e) (hc : ¬ (143 : Int32) = c) (hB : dq5 p B) : dq5 p (if e.1 paKind = c then A else B) := by
  rw [if_neg (by rw [h.1]; exact hc)]
  exact hB
theorem dq_f5 {α : Type} {p : Int32} {c : Prop} [Decidable c] {A B : R5 α} (hA : dq5 p A) (hB : dq5 p B) : dq5 p (if c then A else B) := by
  by_cases h : c
  · rw [if_pos h]; exact hA
  · rw [if_neg h]; exact hB
theorem dq_x5 {α β : Type} {p : Int32} {m : R5 α} {k : E5 → α → R5 β} (h : m = .inr (1, p)) : dq5 p (rdB5 m k) := by
  rw [h]; exact Or.inr (Or.inl rfl)
theorem dx_r5 {α : Type} {p f t : Int32} {e : E5} (h : dk5 p e) : (.inr (rv5 f t e) : R5 α) = .inr (1, p) := by
  unfold rv5
  rw [if_pos h.1, if_pos h.1, h.2]
theorem dx_expect {p c : Int32} {e : E5} (h : dk5 p e) (hc : ¬ (143 : Int32) = c) : f5_Pa_expect c e = .inr (1, p) := by
  unfold f5_Pa_expect
  rw [if_neg (by rw [h.1]; exact hc)]
  exact dx_r5 h
theorem dx_pass {p c : Int32} {e : E5} (h : dk5 p e) (hc : ¬ (143 : Int32) = c) : f5_Pa_pass c e = .inr (1, p) := by
  unfold f5_Pa_pass
  rw [if_neg (by rw [h.1]; exact hc)]
  exact dx_r5 h
theorem dx_open {p c : Int32} {e : E5} (h : dk5 p e) (hc : ¬ (143 : Int32) = c) : f5_Pa_openSign c e = .inr (1, p) := by
  unfold f5_Pa_openSign
  rw [if_neg (by rw [h.1]; exact hc)]
  exact dx_r5 h
theorem dx_close {p c : Int32} {e : E5} (h : dk5 p e) (hc : ¬ (143 : Int32) = c) : f5_Pa_closeSign c e = .inr (1, p) := by
  unfold f5_Pa_closeSign
  rw [if_neg (by rw [h.1]; exact hc)]
  exact dx_r5 h
theorem dx_newName {p a b : Int32} {e : E5} (h : dk5 p e) : f5_Pa_newName a b e = .inr (1, p) := by
  unfold f5_Pa_newName
  rw [dx_expect h (by decide)]
  rfl
theorem dx_b5 {α β : Type} {p : Int32} {m : R5 α} {k : E5 → α → R5 β} (h : m = .inr (1, p)) : rdB5 m k = .inr (1, p) := by
  rw [h]; rfl
theorem sr_b5 {α β : Type} {Q : E5 → α → rS → Prop} {Q' : E5 → β → rS → Prop} {m : R5 α} {k : E5 → α → R5 β} {σ1 σ2 : rS} (h : sr5 Q m σ1) (hk : ∀ e a, e.1 paKind ≠ 143 → Q e a σ1 → sr5 Q' (k e a) σ2) (hq : kq5 σ1 σ2) (hd : ∀ p e a, dk5 p e → dq5 p (k e a)) : sr5 Q' (rdB5 m k) σ2 := by
  rcases h with h | ⟨e, a, h, n, q⟩ | ⟨f, p, f0, s1, s2, h⟩
  · rw [h]; exact Or.inl rfl
  · rw [h]; exact hk e a n q
  · obtain ⟨y1, y2⟩ := hq (by rw [s1]; exact f0)
    rw [s1] at y1
    rw [s2] at y2
    rcases h with h | ⟨f1, e, a, h, n, q⟩
    · rw [h]; exact Or.inr (Or.inr ⟨f, p, f0, y1, y2, Or.inl rfl⟩)
    · rw [h]
      rcases hd p e a ⟨n, q⟩ with w | w | ⟨e', a', w, w2⟩
      · exact Or.inl w
      · exact Or.inr (Or.inr ⟨f, p, f0, y1, y2, Or.inl (by rw [f1]; exact w)⟩)
      · exact Or.inr (Or.inr ⟨f, p, f0, y1, y2, Or.inr ⟨f1, e', a', w, w2.1, w2.2⟩⟩)
theorem sr_m5 {α : Type} {Q Q' : E5 → α → rS → Prop} {r : R5 α} {σ : rS} (h : sr5 Q r σ) (hQ : ∀ e a, Q e a σ → Q' e a σ) : sr5 Q' r σ := by
  rcases h with h | ⟨e, a, h, n, q⟩ | h
  · exact Or.inl h
  · exact Or.inr (Or.inl ⟨e, a, h, n, hQ e a q⟩)
  · exact Or.inr (Or.inr h)
theorem sr_i5 {α : Type} {Q : E5 → α → rS → Prop} {e : E5} {a : α} {σ : rS} (hn : e.1 paKind ≠ 143) (h : Q e a σ) : sr5 Q (.inl (e, a)) σ := Or.inr (Or.inl ⟨e, a, rfl, hn, h⟩)
theorem sr_r5 {α : Type} {Q : E5 → α → rS → Prop} {f p : Int32} {σ : rS} (f0 : f ≠ 0) (h1 : σ.1 11 = f) (h2 : σ.1 12 = p) : sr5 Q (.inr (f, p)) σ := Or.inr (Or.inr ⟨f, p, f0, h1, h2, Or.inl rfl⟩)
/-- faults that stay over what comes behind -/
theorem sr_q5 {α : Type} {Q : E5 → α → rS → Prop} {f p : Int32} {σ1 σ2 : rS} (f0 : f ≠ 0) (h1 : σ1.1 11 = f) (h2 : σ1.1 12 = p) (hq : kq5 σ1 σ2) : sr5 Q (.inr (f, p)) σ2 := by
  obtain ⟨y1, y2⟩ := hq (by rw [h1]; exact f0)
  exact sr_r5 f0 (y1.trans h1) (y2.trans h2)
theorem ne105 : ¬ (1 : Int32) = 0 := by decide
theorem rdl_5 {α β : Type} {e : E5} {a : α} {k : E5 → α → R5 β} : rdB5 (.inl (e, a)) k = k e a := rfl
theorem rb_u5 {m : R5 Unit} : rdB5 m (fun e1 _ => .inl (e1, ())) = m := by
  rcases m with ⟨e, a⟩ | x <;> rfl
/-- kinds against sorts -/
theorem kd_s5 {K so nu c : Int32} (h : kd5 K so nu) (h0 : 0 < c.toInt) (h1 : c.toInt < 128) : (so = 3 ∧ nu = c) ↔ K = c := by
  have z3 : ∀ x : Int32, x ≠ 3 → so = x → ¬ so = 3 := fun x a b q => a (b.symm.trans q)
  rcases h with ⟨a, b⟩ | ⟨a, b⟩ | ⟨a, b⟩ | ⟨a, b⟩ | ⟨a, a2, b, d⟩ | ⟨b, d⟩
  · exact ⟨fun q => absurd q.1 (z3 4 (by decide) b), fun q => by rw [← q, a] at h1; exact absurd h1 (by decide)⟩
  · exact ⟨fun q => absurd q.1 (z3 1 (by decide) b), fun q => by rw [← q, a] at h1; exact absurd h1 (by decide)⟩
  · exact ⟨fun q => absurd q.1 (z3 2 (by decide) b), fun q => by rw [← q, a] at h1; exact absurd h1 (by decide)⟩
  · exact ⟨fun q => absurd q.1 (z3 5 (by decide) b), fun q => by rw [← q, a] at h1; exact absurd h1 (by decide)⟩
  · exact ⟨fun q => absurd q.1 (z3 6 (by decide) b), fun q => by rw [q] at a; omega⟩
  · rcases d with ⟨d1, d2, d3⟩ | ⟨d1, d2, d3⟩
    · exact ⟨fun q => by rw [← d3]; exact q.2, fun q => ⟨b, by rw [d3]; exact q⟩⟩
    · have e : nu.toInt = K.toInt + 128 := by
        have z : (128 : Int32).toInt = 128 := rfl
        rw [d3, add_i (by omega) (by omega), z]
      exact ⟨fun q => by rw [q.2] at e; omega, fun q => by rw [q] at d1; omega⟩
theorem kd_w5 {K so nu w : Int32} (h : kd5 K so nu) (h0 : 1 ≤ w.toInt) (h1 : w.toInt ≤ 13) : (so = 6 ∧ nu = w) ↔ K = 149 + w := by
  have z3 : ∀ x : Int32, x ≠ 6 → so = x → ¬ so = 6 := fun x a b q => a (b.symm.trans q)
  have z149 : (149 : Int32).toInt = 149 := rfl
  have ew : (149 + w).toInt = 149 + w.toInt := by rw [add_i (by omega) (by omega), z149]
  rcases h with ⟨a, b⟩ | ⟨a, b⟩ | ⟨a, b⟩ | ⟨a, b⟩ | ⟨a, a2, b, d⟩ | ⟨b, d⟩
  · exact ⟨fun q => absurd q.1 (z3 4 (by decide) b), fun q => by rw [← q, a] at ew; have z : (143 : Int32).toInt = 143 := rfl; omega⟩
  · exact ⟨fun q => absurd q.1 (z3 1 (by decide) b), fun q => by rw [← q, a] at ew; have z : (140 : Int32).toInt = 140 := rfl; omega⟩
  · exact ⟨fun q => absurd q.1 (z3 2 (by decide) b), fun q => by rw [← q, a] at ew; have z : (141 : Int32).toInt = 141 := rfl; omega⟩
  · exact ⟨fun q => absurd q.1 (z3 5 (by decide) b), fun q => by rw [← q, a] at ew; have z : (142 : Int32).toInt = 142 := rfl; omega⟩
  · have en : nu.toInt = K.toInt - 149 := by rw [d, sub_i (by omega) (by omega), z149]
    exact ⟨fun q => Int32.toInt_inj.mp (by rw [q.2] at en; omega), fun q => ⟨b, Int32.toInt_inj.mp (by rw [q] at en; omega)⟩⟩
  · refine ⟨fun q => absurd q.1 (z3 3 (by decide) b), fun q => ?_⟩
    rcases d with ⟨d1, d2, d3⟩ | ⟨d1, d2, d3⟩ <;> rw [q] at d1 d2 <;> omega
theorem kd_o5 {K so nu : Int32} (h : kd5 K so nu) : (so = 4 ↔ K = 143) ∧ (so = 1 ↔ K = 140) ∧ (so = 2 ↔ K = 141) ∧ (so = 5 ↔ K = 142) := by
  have k0 : (143 : Int32).toInt = 143 := rfl
  have k1 : (140 : Int32).toInt = 140 := rfl
  have k2 : (141 : Int32).toInt = 141 := rfl
  have k3 : (142 : Int32).toInt = 142 := rfl
  rcases h with ⟨a, b⟩ | ⟨a, b⟩ | ⟨a, b⟩ | ⟨a, b⟩ | ⟨a, a2, b, d⟩ | ⟨b, d⟩
  · rw [a, b]; decide
  · rw [a, b]; decide
  · rw [a, b]; decide
  · rw [a, b]; decide
  · rw [b]
    exact ⟨⟨fun q => absurd q (by decide), fun q => by rw [q] at a; omega⟩, ⟨fun q => absurd q (by decide), fun q => by rw [q] at a; omega⟩, ⟨fun q => absurd q (by decide), fun q => by rw [q] at a; omega⟩, ⟨fun q => absurd q (by decide), fun q => by rw [q] at a; omega⟩⟩
  · rw [b]
    have w : K.toInt ≤ 131 := by rcases d with ⟨d1, d2, d3⟩ | ⟨d1, d2, d3⟩ <;> omega
    exact ⟨⟨fun q => absurd q (by decide), fun q => by rw [q] at w; omega⟩, ⟨fun q => absurd q (by decide), fun q => by rw [q] at w; omega⟩, ⟨fun q => absurd q (by decide), fun q => by rw [q] at w; omega⟩, ⟨fun q => absurd q (by decide), fun q => by rw [q] at w; omega⟩⟩
/-- what a token taken leaves -/
def tkF5 (e e' : E5) : Prop := e'.2 = e.2 ∧ ∀ g, g ≠ 1002 → g ≠ 1003 → g ≠ 1004 → e'.1 g = e.1 g
def tkS5 (σ σ' : rS) : Prop := σ'.2 = σ.2 ∧ ∀ g, g ≠ 10 → g ≠ 13 → σ'.1 g = σ.1 g
theorem tkF_t5 {e f g : E5} (h : tkF5 e f) (k : tkF5 f g) : tkF5 e g := ⟨k.1.trans h.1, fun j a b c => (k.2 j a b c).trans (h.2 j a b c)⟩
theorem tkS_t5 {e f g : rS} (h : tkS5 e f) (k : tkS5 f g) : tkS5 e g := ⟨k.1.trans h.1, fun j a b => (k.2 j a b).trans (h.2 j a b)⟩
theorem tkF_o5 {e : E5} {x : Int32} : tkF5 e (fun g => if g = paOpen then x else e.1 g, e.2) := ⟨rfl, fun g _ _ h => if_neg h⟩
theorem tkS_o5 {σ : rS} {x : Int32} : tkS5 σ (siU σ 13 x) := ⟨rfl, fun g _ h => by rw [si1, if_neg h]⟩
section
variable {T : T5} {X : X5} {Bk N : Nat} {Z : Int32} {V : V5} {W : W5} {a l : Nat} {e : E5} {σ : rS}
theorem lr_so5 (H : TR5 T X Bk N Z) (L : LR5 T X Bk N Z V W a l e σ) : σ.2.2.1 5 (σ.1 10).toNatClampNeg = X.1 (Bk + a) ∧ σ.2.2.1 7 (σ.1 10).toNatClampNeg = X.2.2.1 (Bk + a) ∧ σ.2.2.1 6 (σ.1 10).toNatClampNeg = X.2.1 (Bk + a) := by
  have h1 := H.1
  have h2 := L.2.2.1
  have e1 : (σ.1 10).toNatClampNeg = Bk + a := by rw [h2.2.2.1, cl_5 (by omega)]
  have e2 : sx5 σ = X := L.1.2.1
  rw [e1, ← e2]
  exact ⟨rfl, rfl, rfl⟩
theorem lr_kd5 (H : TR5 T X Bk N Z) (L : LR5 T X Bk N Z V W a l e σ) : kd5 (e.1 paKind) (X.1 (Bk + a)) (X.2.2.1 (Bk + a)) := by
  rw [L.2.2.1.2.2.2.1]
  exact H.2.2.1 a L.2.2.1.1
theorem lr_at5 {c : Int32} (H : TR5 T X Bk N Z) (L : LR5 T X Bk N Z V W a l e σ) (h0 : 0 < c.toInt) (h1 : c.toInt < 128) : g5_isAt c σ = if e.1 paKind = c then 1 else 0 := by
  obtain ⟨s1, s2, _⟩ := lr_so5 H L
  have k := kd_s5 (lr_kd5 H L) h0 h1
  unfold g5_isAt
  rw [s1, s2]
  by_cases q : e.1 paKind = c
  · obtain ⟨q1, q2⟩ := k.mpr q
    rw [if_pos q, if_pos q1, if_pos q2]
  · rw [if_neg q]
    by_cases q1 : X.1 (Bk + a) = 3
    · rw [if_pos q1, if_neg (fun q2 => q (k.mp ⟨q1, q2⟩))]
    · rw [if_neg q1]
theorem lr_wd5 {w : Int32} (H : TR5 T X Bk N Z) (L : LR5 T X Bk N Z V W a l e σ) (h0 : 1 ≤ w.toInt) (h1 : w.toInt ≤ 13) : g5_isWord w σ = if e.1 paKind = 149 + w then 1 else 0 := by
  obtain ⟨s1, s2, _⟩ := lr_so5 H L
  have k := kd_w5 (lr_kd5 H L) h0 h1
  unfold g5_isWord
  rw [s1, s2]
  by_cases q : e.1 paKind = 149 + w
  · obtain ⟨q1, q2⟩ := k.mpr q
    rw [if_pos q, if_pos q1, if_pos q2]
  · rw [if_neg q]
    by_cases q1 : X.1 (Bk + a) = 6
    · rw [if_pos q1, if_neg (fun q2 => q (k.mp ⟨q1, q2⟩))]
    · rw [if_neg q1]
theorem lr_ir5 (L : LR5 T X Bk N Z V W a l e σ) : g5_isRight σ = 1 := if_pos L.2.2.2.1.1
theorem lr_k5 (L : LR5 T X Bk N Z V W a l e σ) : e.1 paKind ≠ 143 := by
  rw [L.2.2.1.2.2.2.1]
  exact L.2.2.1.2.2.2.2
/-- a place in the text -/
theorem lr_pl5 {t : Nat} (H : TR5 T X Bk N Z) (L : LR5 T X Bk N Z V W a l e σ) (ht : t < N) : pl5 (Int32.ofNat t) e = T.2.2.1 t := by
  have h1 := H.1
  have e1 : e.1 taTotal = T.2.2.2.2.2.1 := by rw [← L.1.1]; rfl
  have e2 : e.2.1 taPlaces = T.2.2.1 := by rw [← L.1.1]; rfl
  have l1 := ofn_i (n := t) (by omega)
  have l2 := ofn_i (n := N) (by omega)
  unfold pl5
  rw [e1, e2, h1.1, if_neg (by rw [lti, t0i]; omega), if_neg (by rw [lei]; omega), cl_5 (by omega)]
theorem lr_rv5 {f : Int32} {t : Nat} (H : TR5 T X Bk N Z) (L : LR5 T X Bk N Z V W a l e σ) (ht : t < N) : rv5 f (Int32.ofNat t) e = (f, T.2.2.1 t) := by
  unfold rv5
  rw [if_neg (lr_k5 L), if_neg (lr_k5 L), lr_pl5 H L ht]
theorem lr_rva5 {f : Int32} (H : TR5 T X Bk N Z) (L : LR5 T X Bk N Z V W a l e σ) : rv5 f (e.1 paAt) e = (f, T.2.2.1 a) := by
  rw [L.2.2.1.2.1]
  exact lr_rv5 H L L.2.2.1.1
theorem fl_5 {f t1 : Int32} {t : Nat} (H : TR5 T X Bk N Z) (hx : sx5 σ = X) (h0 : σ.1 11 = 0) (ht1 : t1 = Int32.ofNat (Bk + t)) (ht : t < N) (hk : T.2.1 t ≠ 143) : (g5_flaw f t1 σ).1 11 = f ∧ (g5_flaw f t1 σ).1 12 = T.2.2.1 t := by
  have h1 := H.1
  have e1 : t1.toNatClampNeg = Bk + t := by rw [ht1, cl_5 (by omega)]
  have e5 : σ.2.2.1 5 (Bk + t) = X.1 (Bk + t) := by rw [← hx]; rfl
  have e6 : σ.2.2.1 6 (Bk + t) = X.2.1 (Bk + t) := by rw [← hx]; rfl
  have k := (kd_o5 (H.2.2.1 t ht)).1
  unfold g5_flaw g5_flaw_23
  dsimp only [pb5]
  rw [if_pos h0, e1, e5, if_neg (fun q => hk (k.mp q))]
  refine ⟨rfl, ?_⟩
  rw [H.2.1 t ht, ← e6]
  rfl
theorem lr_fl5 {f : Int32} (H : TR5 T X Bk N Z) (L : LR5 T X Bk N Z V W a l e σ) : (g5_flaw f (σ.1 10) σ).1 11 = f ∧ (g5_flaw f (σ.1 10) σ).1 12 = T.2.2.1 a :=
  fl_5 H L.1.2.1 L.2.2.2.1.1 L.2.2.1.2.2.1 L.2.2.1.1 L.2.2.1.2.2.2.2
/-- the next token -/
theorem sr_take (H : TR5 T X Bk N Z) (L : LR5 T X Bk N Z V W a l e σ) (hk : e.1 paKind ≠ 142) : sr5 (fun e' _ σ' => LR5 T X Bk N Z V W (a + 1) l e' σ' ∧ tkF5 e e' ∧ tkS5 σ σ') (f5_Pa_take e) (g5_go σ) := by
  have h1 := H.1
  obtain ⟨L1, L2, ⟨a1, a2, a3, a4, a5⟩, L4, L5⟩ := L
  have hN : a + 1 < N := by
    have z := (H.2.2.2.1 a a1)
    have y : ¬ (a + 1 = N) := fun q => by
      rcases z.mpr q with w | w
      · exact hk (by rw [a4]; exact w)
      · exact a5 w
    omega
  have l1 := ofn_i (n := a + 1) (by omega)
  have l2 := ofn_i (n := N) (by omega)
  have e1 : e.1 taTotal = Int32.ofNat N := by rw [← h1.1, ← L1.1]; rfl
  have e2 : e.2.1 taKinds = T.2.1 := by rw [← L1.1]; rfl
  have ea : e.1 paAt + 1 = Int32.ofNat (a + 1) := by rw [a2, on_15 (by omega)]
  have es : σ.1 10 + 1 = Int32.ofNat (Bk + (a + 1)) := by rw [a3, on_15 (by omega)]; rfl
  have ft : f5_Pa_take e = .inl ((fun g => if g = paKind then T.2.1 (a + 1) else if g = paAt then Int32.ofNat (a + 1) else e.1 g, e.2), ()) := by
    unfold f5_Pa_take
    rw [ea]
    show (if Int32.ofNat (a + 1) < 0 then _ else if e.1 taTotal ≤ Int32.ofNat (a + 1) then _ else rdB5 (stI5 paKind (e.2.1 taKinds (Int32.ofNat (a + 1)).toNatClampNeg) _) _) = _
    rw [if_neg (by rw [lti, t0i]; omega), e1, if_neg (by rw [lei]; omega), e2, cl_5 (by omega)]
    rfl
  have gg : g5_go σ = g5_readNext (siU σ 10 (Int32.ofNat (Bk + (a + 1)))) := by
    unfold g5_go
    dsimp only [pb5]
    rw [if_pos L4.1, es]
  have e5 : (siU σ 10 (Int32.ofNat (Bk + (a + 1)))).2.2.1 5 ((siU σ 10 (Int32.ofNat (Bk + (a + 1)))).1 10).toNatClampNeg = X.1 (Bk + (a + 1)) := by
    have z : (siU σ 10 (Int32.ofNat (Bk + (a + 1)))).1 10 = Int32.ofNat (Bk + (a + 1)) := rfl
    rw [z, cl_5 (by omega), ← L1.2.1]
    rfl
  have kd := kd_o5 (H.2.2.1 (a + 1) hN)
  rw [ft, gg]
  by_cases c : T.2.1 (a + 1) = 143
  · have r : g5_readNext (siU σ 10 (Int32.ofNat (Bk + (a + 1)))) = g5_flaw 1 (Int32.ofNat (Bk + (a + 1))) (siU σ 10 (Int32.ofNat (Bk + (a + 1)))) := by
      unfold g5_readNext
      rw [e5, if_pos (kd.1.mpr c)]
      rfl
    have w : g5_flaw 1 (Int32.ofNat (Bk + (a + 1))) (siU σ 10 (Int32.ofNat (Bk + (a + 1)))) = siU (siU (siU σ 10 (Int32.ofNat (Bk + (a + 1)))) 11 1) 12 (X.2.1 (Bk + (a + 1))) := by
      unfold g5_flaw g5_flaw_23
      dsimp only [pb5]
      have z5 : (siU σ 10 (Int32.ofNat (Bk + (a + 1)))).2.2.1 5 (Bk + (a + 1)) = X.1 (Bk + (a + 1)) := by rw [← L1.2.1]; rfl
      have z6 : (siU (siU σ 10 (Int32.ofNat (Bk + (a + 1)))) 11 1).2.2.1 6 (Bk + (a + 1)) = X.2.1 (Bk + (a + 1)) := by rw [← L1.2.1]; rfl
      rw [if_pos (show (siU σ 10 (Int32.ofNat (Bk + (a + 1)))).1 11 = 0 from L4.1), cl_5 (by omega), z5, if_pos (kd.1.mpr c), z6]
    refine Or.inr (Or.inr ⟨1, X.2.1 (Bk + (a + 1)), by decide, by rw [r, w]; rfl, by rw [r, w]; rfl, Or.inr ⟨rfl, _, _, rfl, c, ?_⟩⟩)
    show pl5 (Int32.ofNat (a + 1)) _ = _
    unfold pl5
    show (if _ then _ else if e.1 taTotal ≤ _ then _ else e.2.1 taPlaces _) = _
    have e3 : e.2.1 taPlaces = T.2.2.1 := by rw [← L1.1]; rfl
    rw [if_neg (by rw [lti, t0i]; omega), e1, if_neg (by rw [lei]; omega), e3, cl_5 (by omega), H.2.1 _ hN]
  · have r : g5_readNext (siU σ 10 (Int32.ofNat (Bk + (a + 1)))) = siU σ 10 (Int32.ofNat (Bk + (a + 1))) := by
      unfold g5_readNext
      rw [e5, if_neg (fun q => c (kd.1.mp q))]
    rw [r]
    refine sr_i5 c ⟨⟨⟨L1.1, L1.2.1, L1.2.2⟩, ⟨L2.1, L2.2⟩, ⟨hN, rfl, rfl, rfl, c⟩, L4, L5⟩, ⟨rfl, fun g h1 h2 _ => ?_⟩, rfl, fun g h _ => by rw [si1, if_neg h]⟩
    show (if g = paKind then _ else if g = paAt then _ else e.1 g) = _
    rw [if_neg h2, if_neg h1]
theorem sr_pass {c : Int32} (H : TR5 T X Bk N Z) (L : LR5 T X Bk N Z V W a l e σ) (h0 : 0 < c.toInt) (h1 : c.toInt < 128) : sr5 (fun e' _ σ' => LR5 T X Bk N Z V W (a + 1) l e' σ' ∧ tkF5 e e' ∧ tkS5 σ σ') (f5_Pa_pass c e) (g5_sign c σ) := by
  unfold f5_Pa_pass g5_sign
  dsimp only [pb5]
  rw [lr_at5 H L h0 h1, rb_u5]
  by_cases q : e.1 paKind = c
  · rw [if_pos q, if_pos q, if_neg (by decide)]
    exact sr_take H L (fun z => by rw [← q, z] at h1; exact absurd h1 (by decide))
  · rw [if_neg q, if_neg q, if_pos rfl, lr_rva5 H L]
    exact sr_r5 (by decide) (lr_fl5 H L).1 (lr_fl5 H L).2
/-- a sort that is due -/
theorem sr_due {s k : Int32} (H : TR5 T X Bk N Z) (L : LR5 T X Bk N Z V W a l e σ) (hs : X.1 (Bk + a) = s ↔ e.1 paKind = k) : sr5 (fun e' _ σ' => e' = e ∧ σ' = σ ∧ e.1 paKind = k) (f5_Pa_expect k e) (g5_due s σ).1 := by
  unfold f5_Pa_expect g5_due
  dsimp only [pb5]
  rw [(lr_so5 H L).1]
  by_cases q : e.1 paKind = k
  · rw [if_pos q, if_pos (hs.mpr q)]
    exact sr_i5 (lr_k5 L) ⟨rfl, rfl, q⟩
  · rw [if_neg q, if_neg (fun z => q (hs.mp z)), lr_rva5 H L]
    exact sr_r5 (by decide) (lr_fl5 H L).1 (lr_fl5 H L).2
theorem sr_open {c : Int32} (H : TR5 T X Bk N Z) (L : LR5 T X Bk N Z V W a l e σ) (h0 : 0 < c.toInt) (h1 : c.toInt < 128) : sr5 (fun e' _ σ' => LR5 T X Bk N Z V W (a + 1) (l + 1) e' σ' ∧ tkF5 e e' ∧ tkS5 σ σ') (f5_Pa_openSign c e) (g5_open c σ) := by
  unfold f5_Pa_openSign f5_Pa_openSign_17 f5_Pa_openSign_35 g5_open
  dsimp only [pb5]
  rw [lr_at5 H L h0 h1]
  by_cases q : e.1 paKind = c
  · have e40 : (40 : Int32).toInt = 40 := rfl
    rw [if_pos q, if_pos q, if_neg (show ¬ (1 : Int32) = 0 by decide), L.2.2.2.2.1]
    by_cases o : e.1 paOpen = 40
    · rw [if_pos o, if_neg (by rw [o]; decide), lr_rva5 H L]
      exact sr_q5 (by decide) (lr_fl5 H L).1 (lr_fl5 H L).2 (kq_open_38 kq_rf)
    · have hb := L.2.2.2.2.2
      have lt : (e.1 paOpen).toInt < 40 := by
        have : (e.1 paOpen).toInt ≠ 40 := fun z => o (Int32.toInt_inj.mp (by rw [z, e40]))
        omega
      rw [if_neg o, if_pos (by rw [lti, e40]; omega)]
      unfold g5_open_38 g5_open_55
      dsimp only [pb5]
      rw [lr_ir5 L, if_neg (by decide)]
      show sr5 _ (rdB5 (f5_Pa_take (fun g => if g = paOpen then e.1 paOpen + 1 else e.1 g, e.2)) (fun e2 _ => .inl (e2, ()))) (g5_go (siU σ 13 (σ.1 13 + 1)))
      rw [rb_u5, L.2.2.2.2.1]
      have eo : (e.1 paOpen + 1).toInt = (e.1 paOpen).toInt + 1 := by rw [add_i (by rw [t1i]; omega) (by rw [t1i]; omega), t1i]
      have L' : LR5 T X Bk N Z V W a (l + 1) (fun g => if g = paOpen then e.1 paOpen + 1 else e.1 g, e.2) (siU σ 13 (e.1 paOpen + 1)) := ⟨L.1, L.2.1, L.2.2.1, L.2.2.2.1, rfl, by show _ ≤ (e.1 paOpen + 1).toInt; rw [eo]; omega, by show (e.1 paOpen + 1).toInt ≤ 40; rw [eo]; omega⟩
      refine sr_m5 (sr_take H L' (fun z => by
        have z' : e.1 paKind = 142 := z
        rw [← q, z'] at h1; exact absurd h1 (by decide))) (fun e' _ Q => ⟨Q.1, tkF_t5 tkF_o5 Q.2.1, tkS_t5 tkS_o5 Q.2.2⟩)
  · rw [if_neg q, if_neg q, if_pos rfl, lr_rva5 H L]
    exact sr_q5 (by decide) (lr_fl5 H L).1 (lr_fl5 H L).2 (kq_open_38 kq_rf)
theorem sr_close {c : Int32} (H : TR5 T X Bk N Z) (L : LR5 T X Bk N Z V W a (l + 1) e σ) (h0 : 0 < c.toInt) (h1 : c.toInt < 128) : sr5 (fun e' _ σ' => LR5 T X Bk N Z V W (a + 1) l e' σ' ∧ tkF5 e e' ∧ tkS5 σ σ') (f5_Pa_closeSign c e) (g5_close c σ) := by
  unfold f5_Pa_closeSign f5_Pa_closeSign_17 g5_close g5_close_18
  dsimp only [pb5]
  rw [lr_at5 H L h0 h1, L.2.2.2.2.1]
  have hb := L.2.2.2.2.2
  by_cases q : e.1 paKind = c
  · rw [if_pos q, if_pos q, if_neg (by decide)]
    show sr5 _ (rdB5 (f5_Pa_take (fun g => if g = paOpen then e.1 paOpen - 1 else e.1 g, e.2)) (fun e2 _ => .inl (e2, ()))) (g5_sign c (siU σ 13 (e.1 paOpen - 1)))
    rw [rb_u5]
    have eo : (e.1 paOpen - 1).toInt = (e.1 paOpen).toInt - 1 := by rw [sub_i (by rw [t1i]; omega) (by rw [t1i]; omega), t1i]
    have L' : LR5 T X Bk N Z V W a l (fun g => if g = paOpen then e.1 paOpen - 1 else e.1 g, e.2) (siU σ 13 (e.1 paOpen - 1)) := ⟨L.1, L.2.1, L.2.2.1, L.2.2.2.1, rfl, by show _ ≤ (e.1 paOpen - 1).toInt; rw [eo]; omega, by show (e.1 paOpen - 1).toInt ≤ 40; rw [eo]; omega⟩
    have z := sr_pass H L' h0 h1
    unfold f5_Pa_pass at z
    rw [rb_u5, if_pos (show ((fun g => if g = paOpen then e.1 paOpen - 1 else e.1 g, e.2) : E5).1 paKind = c from q)] at z
    exact sr_m5 z (fun e' _ Q => ⟨Q.1, tkF_t5 tkF_o5 Q.2.1, tkS_t5 tkS_o5 Q.2.2⟩)
  · rw [if_neg q, if_neg q, if_pos rfl, lr_rva5 H L]
    have L' : LR5 T X Bk N Z V W a (l + 1) e (siU σ 13 (e.1 paOpen - 0)) := ⟨L.1, L.2.1, L.2.2.1, L.2.2.2.1, by show e.1 paOpen - 0 = e.1 paOpen; exact Int32.sub_zero _, hb⟩
    unfold g5_sign
    dsimp only [pb5]
    rw [lr_at5 H L' h0 h1, if_neg q, if_pos rfl]
    exact sr_r5 (by decide) (lr_fl5 H L').1 (lr_fl5 H L').2
end
