/-! new cells, calls, ends; what stays in order -/
theorem zr_cls {f t : Nat} (h : zr f = some t) : 3 ≤ f / 100 ∧ f / 100 < 20 ∧ 3 ≤ t ∧ t < 40 := by
  have key : ∀ q ∈ zRT, 3 ≤ q.1 / 100 ∧ q.1 / 100 < 20 ∧ 3 ≤ q.2 ∧ q.2 < 40 := by decide +kernel
  exact key _ (d_lk h)
theorem zz_cls {f : Nat} (h : f ∈ zZT) : 3 ≤ f / 100 ∧ f / 100 < 20 := (by decide +kernel : ∀ f ∈ zZT, 3 ≤ f / 100 ∧ f / 100 < 20) f h
section WT
variable {C : zC} {n0 : Nat} {κ : zS}
theorem zW.lo {m0 : Nat} (W : zW C n0 κ) (h : yb C ≤ m0) (h1 : m0 ≤ zn κ) : zW C m0 κ := ⟨⟨W.1.1, h, h1⟩, W.2⟩
theorem zW.fr (W : zW C n0 κ) : zT κ (zn κ) = 0 := by
  by_cases e : zT κ (zn κ) = 0
  · exact e
  · have := (W.2.1 _ e).2; omega
theorem zW.nw {a c : Nat} (W : zW C n0 κ) (h : zT κ a = c + 1) : a ≠ zn κ := by
  intro e
  rw [e, W.fr] at h
  omega
theorem zW.r {f t a : Nat} (W : zW C n0 κ) (hr : zr f = some t) (h : zT κ a = f / 100) : zT κ (zR κ f a) = t := W.2.2.1 f t a hr h
theorem zW.o {f t a : Nat} (W : zW C n0 κ) (hr : zr f = some t) (ht : 20 ≤ t) (h : zT κ a = f / 100) : zO κ (zR κ f a) = (f, a) := W.2.2.2.2.2.2.2.2 f t a hr ht h
theorem zW.z {f a : Nat} (W : zW C n0 κ) (hr : f ∈ zZT) (h : zT κ a = f / 100) : nb (zI κ f a) := W.2.2.2.2.2.1 f a hr h
theorem zW_ui {f a : Nat} {x : Int32} {κ1 : zS} (W : zW C n0 κ) (e : κ1 = ui κ f a x) (hx : f ∈ zZT → nb x) : zW C n0 κ1 := by
  subst e
  obtain ⟨w1, w2, w3, w4, w5, w6, w7, w8, w9⟩ := W
  refine ⟨w1, w2, w3, w4, w5, fun g b hg hb => ?_, w7, w8, w9⟩
  show nb (if g = f ∧ b = a then x else zI κ g b)
  by_cases e : g = f ∧ b = a
  · rw [if_pos e]; exact hx (by rw [← e.1]; exact hg)
  · rw [if_neg e]; exact w6 g b hg hb
theorem zW_ur {f a v : Nat} {κ1 : zS} (W : zW C n0 κ) (e : κ1 = ur κ f a v) (hv : ∀ t, zr f = some t → t < 20 ∧ zT κ v = t) : zW C n0 κ1 := by
  subst e
  obtain ⟨w1, w2, w3, w4, w5, w6, w7, w8, w9⟩ := W
  refine ⟨w1, w2, fun g t b hg hb => ?_, w4, w5, w6, w7, w8, fun g t b hg ht hb => ?_⟩
  · show zT κ (if g = f ∧ b = a then v else zR κ g b) = t
    by_cases e : g = f ∧ b = a
    · rw [if_pos e]; rw [e.1] at hg; exact (hv t hg).2
    · rw [if_neg e]; exact w3 g t b hg hb
  · show zO κ (if g = f ∧ b = a then v else zR κ g b) = (g, b)
    by_cases e : g = f ∧ b = a
    · rw [e.1] at hg; have := (hv t hg).1; omega
    · rw [if_neg e]; exact w9 g t b hg ht hb
theorem zW_uo {f a v : Nat} {κ1 : zS} (W : zW C n0 κ) (e : κ1 = uo κ f a v) (hv : ∀ t, zr f = some t → zT κ v = t) (ho : zO κ v = (0, 0)) : zW C n0 κ1 := by
  subst e
  obtain ⟨w1, w2, w3, w4, w5, w6, w7, w8, w9⟩ := W
  refine ⟨w1, w2, fun g t b hg hb => ?_, w4, w5, w6, w7, w8, fun g t b hg ht hb => ?_⟩
  · show zT κ (if g = f ∧ b = a then v else zR κ g b) = t
    by_cases e : g = f ∧ b = a
    · rw [if_pos e]; rw [e.1] at hg; exact hv t hg
    · rw [if_neg e]; exact w3 g t b hg hb
  · show (if (if g = f ∧ b = a then v else zR κ g b) = v then (f, a) else zO κ (if g = f ∧ b = a then v else zR κ g b)) = (g, b)
    by_cases e : g = f ∧ b = a
    · rw [if_pos e, if_pos rfl, e.1, e.2]
    · rw [if_neg e]
      have h9 := w9 g t b hg ht hb
      by_cases e2 : zR κ g b = v
      · rw [e2, ho] at h9
        have := (zr_cls hg).1
        have e3 : g = 0 := (congrArg Prod.fst h9).symm
        rw [e3] at this
        omega
      · rw [if_neg e2]; exact h9
theorem nb_nr {x : Int32} : nb (vp_nar .boolean x) := by
  show nb (x &&& 1)
  have h : (x &&& 1).toBitVec.toNat = x.toBitVec.toNat % 2 := by
    show (x.toBitVec &&& 1#32).toNat = _
    rw [BitVec.toNat_and]
    exact Nat.and_one_is_mod _
  have h2 : x.toBitVec.toNat % 2 = 0 ∨ x.toBitVec.toNat % 2 = 1 := by omega
  rcases h2 with e | e
  · exact Or.inl (Int32.toBitVec_inj.mp (BitVec.eq_of_toNat_eq (by rw [h, e]; rfl)))
  · exact Or.inr (Int32.toBitVec_inj.mp (BitVec.eq_of_toNat_eq (by rw [h, e]; rfl)))
theorem by_nr {x : Int32} : fits .byte (.int (vp_nar .byte x)) = true := by
  show (decide (-128 ≤ x.toInt8.toInt32) && decide (x.toInt8.toInt32 ≤ 127)) = true
  have h1 := Int8.le_toInt x.toInt8
  have h2 := Int8.toInt_lt x.toInt8
  have e : x.toInt8.toInt32.toInt = x.toInt8.toInt := Int8.toInt_toInt32 _
  rw [Bool.and_eq_true]
  refine ⟨decide_eq_true (Int32.le_iff_toInt_le.mpr ?_), decide_eq_true (Int32.le_iff_toInt_le.mpr ?_)⟩
  · rw [e]; exact h1
  · rw [e]; have e2 : (127 : Int32).toInt = 127 := by decide
    rw [e2]; omega
theorem zW_ua {a i : Nat} {x : Int32} {κ1 : zS} (W : zW C n0 κ) (e : κ1 = ua κ a i x) (h3 : zT κ a = 23 → nb x) (h1 : zT κ a = 21 → fits .byte (.int x) = true) : zW C n0 κ1 := by
  subst e
  obtain ⟨w1, w2, w3, w4, w5, w6, w7, w8, w9⟩ := W
  refine ⟨w1, w2, w3, w4, w5, w6, fun b j hb => ?_, fun b j hb => ?_, w9⟩
  · show nb ((if b = a then upd (zA κ a) i x else zA κ b) j)
    by_cases e : b = a
    · rw [if_pos e]
      show nb (if j = i then x else zA κ a j)
      by_cases e2 : j = i
      · rw [if_pos e2]; exact h3 (by rw [← e]; exact hb)
      · rw [if_neg e2]; exact w7 a j (by rw [← e]; exact hb)
    · rw [if_neg e]; exact w7 b j hb
  · show fits .byte (.int ((if b = a then upd (zA κ a) i x else zA κ b) j)) = true
    by_cases e : b = a
    · rw [if_pos e]
      show fits .byte (.int (if j = i then x else zA κ a j)) = true
      by_cases e2 : j = i
      · rw [if_pos e2]; exact h1 (by rw [← e]; exact hb)
      · rw [if_neg e2]; exact w8 a j (by rw [← e]; exact hb)
    · rw [if_neg e]; exact w8 b j hb
theorem zW_uj {a i : Nat} {x : Int64} {κ1 : zS} (W : zW C n0 κ) (e : κ1 = uj κ a i x) : zW C n0 κ1 := by
  subst e; exact W
theorem zW_uq {a i v : Nat} {κ1 : zS} (W : zW C n0 κ) (e : κ1 = uq κ a i (some v)) (h4 : zT κ a = 24 → zT κ v = 8) (h5 : zT κ a = 25 → zT κ v = 11) : zW C n0 κ1 := by
  subst e
  obtain ⟨w1, w2, w3, w4, w5, w6, w7, w8, w9⟩ := W
  refine ⟨w1, w2, w3, fun b j q hb hq => ?_, fun b j q hb hq => ?_, w6, w7, w8, w9⟩
  · have hq : (if b = a then va_up (zQ κ a) i (some v) else zQ κ b) j = some q := hq
    by_cases e : b = a
    · rw [if_pos e] at hq
      have hq : (if j = i then some v else zQ κ a j) = some q := hq
      by_cases e2 : j = i
      · rw [if_pos e2] at hq; cases hq; exact h4 (by rw [← e]; exact hb)
      · rw [if_neg e2] at hq; exact w4 a j q (by rw [← e]; exact hb) hq
    · rw [if_neg e] at hq; exact w4 b j q hb hq
  · have hq : (if b = a then va_up (zQ κ a) i (some v) else zQ κ b) j = some q := hq
    by_cases e : b = a
    · rw [if_pos e] at hq
      have hq : (if j = i then some v else zQ κ a j) = some q := hq
      by_cases e2 : j = i
      · rw [if_pos e2] at hq; cases hq; exact h5 (by rw [← e]; exact hb)
      · rw [if_neg e2] at hq; exact w5 a j q (by rw [← e]; exact hb) hq
    · rw [if_neg e] at hq; exact w5 b j q hb hq
theorem zW_na {t n : Nat} {κ1 : zS} (W : zW C n0 κ) (e : κ1 = na κ t n) (h0 : 20 ≤ t) (h1 : t < 26) (hn : n ≤ 67108864) : zW C n0 κ1 := by
  subst e
  have hf := W.fr
  obtain ⟨w1, w2, w3, w4, w5, w6, w7, w8, w9⟩ := W
  have tt : ∀ a, a ≠ zn κ → zT (na κ t n) a = zT κ a := fun a h => if_neg h
  have tw : zT (na κ t n) (zn κ) = t := if_pos rfl
  have ne : ∀ a c, zT κ a = c → c ≠ 0 → a ≠ zn κ := fun a c h h0 e => by rw [e, hf] at h; omega
  have nn : ∀ a, zT (na κ t n) a < 20 → a ≠ zn κ := fun a h e => by rw [e, tw] at h; omega
  refine ⟨⟨w1.1, w1.2.1, Nat.le_succ_of_le w1.2.2⟩, fun a ha => ?_, fun g q b hg hb => ?_, fun b j q hb hq => ?_, fun b j q hb hq => ?_, fun g b hg hb => ?_, fun b j hb => ?_, fun b j hb => ?_, fun g q b hg hq hb => ?_⟩
  · show (yb C ≤ a ∧ (if a = zn κ then n else zN κ a) ≤ 67108864) ∧ a < zn κ + 1
    by_cases e : a = zn κ
    · rw [if_pos e, e]; exact ⟨⟨Nat.le_trans w1.2.1 w1.2.2, hn⟩, Nat.lt_succ_self _⟩
    · rw [tt a e] at ha; rw [if_neg e]; have := w2 a ha; exact ⟨this.1, Nat.lt_succ_of_lt this.2⟩
  · have z := zr_cls hg
    have hb2 := nn b (by rw [hb]; exact z.2.1)
    rw [tt b hb2] at hb
    have h3 := w3 g q b hg hb
    show zT (na κ t n) (zR κ g b) = q
    rw [tt _ (ne _ _ h3 (by omega))]; exact h3
  · have hq : (if b = zn κ then fun _ => none else zQ κ b) j = some q := hq
    by_cases e : b = zn κ
    · rw [if_pos e] at hq; cases hq
    · rw [if_neg e] at hq
      rw [tt b e] at hb
      have h3 := w4 b j q hb hq
      rw [tt _ (ne _ _ h3 (by omega))]; exact h3
  · have hq : (if b = zn κ then fun _ => none else zQ κ b) j = some q := hq
    by_cases e : b = zn κ
    · rw [if_pos e] at hq; cases hq
    · rw [if_neg e] at hq
      rw [tt b e] at hb
      have h3 := w5 b j q hb hq
      rw [tt _ (ne _ _ h3 (by omega))]; exact h3
  · have hb2 := nn b (by rw [hb]; exact (zz_cls hg).2)
    rw [tt b hb2] at hb
    exact w6 g b hg hb
  · show nb ((if b = zn κ then fun _ => 0 else zA κ b) j)
    by_cases e : b = zn κ
    · rw [if_pos e]; exact nb_0
    · rw [if_neg e]; rw [tt b e] at hb; exact w7 b j hb
  · show fits .byte (.int ((if b = zn κ then fun _ => 0 else zA κ b) j)) = true
    by_cases e : b = zn κ
    · rw [if_pos e]; rfl
    · rw [if_neg e]; rw [tt b e] at hb; exact w8 b j hb
  · have z := zr_cls hg
    have hb2 := nn b (by rw [hb]; exact z.2.1)
    rw [tt b hb2] at hb
    have h3 := w3 g q b hg hb
    show (if zR κ g b = zn κ then (0, 0) else zO κ (zR κ g b)) = (g, b)
    rw [if_neg (ne _ _ h3 (by omega))]
    exact w9 g q b hg hq hb
theorem zM_na {t n : Nat} {κ1 : zS} (W : zW C n0 κ) (e : κ1 = na κ t n) : zM n0 κ κ1 := by
  subst e
  have hf := W.fr
  have ne : ∀ a, zT κ a ≠ 0 → a ≠ zn κ := fun a h e => by rw [e, hf] at h; exact h rfl
  exact ⟨fun a c _ h => (if_neg (ne a (by omega))).trans h, fun a h => ⟨by show (if a = zn κ then t else zT κ a) ≠ 0; rw [if_neg (ne a h)]; exact h, if_neg (ne a h)⟩, Nat.le_succ _⟩
theorem zW_no {ci : Nat} {κ1 : zS} (W : zW C n0 κ) (e : κ1 = noo κ ci) : zW C n0 κ1 := by
  subst e
  have hf := W.fr
  obtain ⟨w1, w2, w3, w4, w5, w6, w7, w8, w9⟩ := W
  have tt : ∀ a, a ≠ zn κ → zT (noo κ ci) a = zT κ a := fun a h => if_neg h
  have tw : zT (noo κ ci) (zn κ) = 40 + ci := if_pos rfl
  have ne : ∀ a c, zT κ a = c → c ≠ 0 → a ≠ zn κ := fun a c h h0 e => by rw [e, hf] at h; omega
  have nn : ∀ a, zT (noo κ ci) a < 40 → a ≠ zn κ := fun a h e => by rw [e, tw] at h; omega
  refine ⟨⟨w1.1, w1.2.1, Nat.le_succ_of_le w1.2.2⟩, fun a ha => ?_, fun g q b hg hb => ?_, fun b j q hb hq => ?_, fun b j q hb hq => ?_, fun g b hg hb => ?_, fun b j hb => ?_, fun b j hb => ?_, fun g q b hg hq hb => ?_⟩
  · show (yb C ≤ a ∧ (if a = zn κ then 0 else zN κ a) ≤ 67108864) ∧ a < zn κ + 1
    by_cases e : a = zn κ
    · rw [if_pos e, e]; exact ⟨⟨Nat.le_trans w1.2.1 w1.2.2, Nat.zero_le _⟩, Nat.lt_succ_self _⟩
    · rw [tt a e] at ha; rw [if_neg e]; have := w2 a ha; exact ⟨this.1, Nat.lt_succ_of_lt this.2⟩
  · have z := zr_cls hg
    have hb2 := nn b (by rw [hb]; omega)
    rw [tt b hb2] at hb
    have h3 := w3 g q b hg hb
    show zT (noo κ ci) (if b = zn κ then 0 else zR κ g b) = q
    rw [if_neg hb2, tt _ (ne _ _ h3 (by omega))]; exact h3
  · rw [tt b (nn b (by omega))] at hb
    have h3 := w4 b j q hb hq
    rw [tt _ (ne _ _ h3 (by omega))]; exact h3
  · rw [tt b (nn b (by omega))] at hb
    have h3 := w5 b j q hb hq
    rw [tt _ (ne _ _ h3 (by omega))]; exact h3
  · have hb2 := nn b (by rw [hb]; have := (zz_cls hg).2; omega)
    rw [tt b hb2] at hb
    show nb (if b = zn κ then 0 else zI κ g b)
    rw [if_neg hb2]
    exact w6 g b hg hb
  · rw [tt b (nn b (by omega))] at hb; exact w7 b j hb
  · rw [tt b (nn b (by omega))] at hb; exact w8 b j hb
  · have z := zr_cls hg
    have hb2 := nn b (by rw [hb]; omega)
    rw [tt b hb2] at hb
    show zO κ (if b = zn κ then 0 else zR κ g b) = (g, b)
    rw [if_neg hb2]
    exact w9 g q b hg hq hb
theorem zM_no {ci : Nat} {κ1 : zS} (W : zW C n0 κ) (e : κ1 = noo κ ci) : zM n0 κ κ1 := by
  subst e
  have hf := W.fr
  have ne : ∀ a, zT κ a ≠ 0 → a ≠ zn κ := fun a h e => by rw [e, hf] at h; exact h rfl
  exact ⟨fun a c _ h => (if_neg (ne a (by omega))).trans h, fun a h => ⟨by show (if a = zn κ then _ else zT κ a) ≠ 0; rw [if_neg (ne a h)]; exact h, if_neg (ne a h)⟩, Nat.le_succ _⟩
/-- an object that is ready: its references and booleans are in order -/
def zOk (κ : zS) (w ci : Nat) : Prop := (∀ f t, zr f = some t → f / 100 = ci → zT κ (zR κ f w) = t ∧ (20 ≤ t → zO κ (zR κ f w) = (f, w))) ∧ ∀ f, f ∈ zZT → f / 100 = ci → nb (zI κ f w)
theorem zW_nf {w ci : Nat} {κ1 : zS} (W : zW C n0 κ) (e : κ1 = nff κ w) (h : zT κ w = 40 + ci) (h0 : 0 < ci) (h1 : ci < 20) (hk : zOk κ w ci) : zW C n0 κ1 := by
  subst e
  obtain ⟨w1, w2, w3, w4, w5, w6, w7, w8, w9⟩ := W
  have tt : ∀ a, a ≠ w → zT (nff κ w) a = zT κ a := fun a h => if_neg h
  have tw : zT (nff κ w) w = ci := (if_pos rfl).trans (by have h9 : κ.1 w = 40 + ci := h; omega)
  have ne : ∀ a c, zT κ a = c → c < 40 → a ≠ w := fun a c g g0 e => by rw [e, h] at g; omega
  refine ⟨w1, fun a ha => w2 a ?_, fun g q b hg hb => ?_, fun b j q hb hq => ?_, fun b j q hb hq => ?_, fun g b hg hb => ?_, fun b j hb => ?_, fun b j hb => ?_, fun g q b hg hq hb => ?_⟩
  · by_cases e : a = w
    · rw [e, h]; omega
    · rw [tt a e] at ha; exact ha
  · have z := zr_cls hg
    show zT (nff κ w) (zR κ g b) = q
    by_cases e : b = w
    · rw [e] at hb ⊢
      rw [tw] at hb
      have h3 := (hk.1 g q hg hb.symm).1
      rw [tt _ (ne _ _ h3 (by omega))]; exact h3
    · rw [tt b e] at hb
      have h3 := w3 g q b hg hb
      rw [tt _ (ne _ _ h3 (by omega))]; exact h3
  · have e : b ≠ w := fun e => by rw [e, tw] at hb; omega
    rw [tt b e] at hb
    have h3 := w4 b j q hb hq
    rw [tt _ (ne _ _ h3 (by omega))]; exact h3
  · have e : b ≠ w := fun e => by rw [e, tw] at hb; omega
    rw [tt b e] at hb
    have h3 := w5 b j q hb hq
    rw [tt _ (ne _ _ h3 (by omega))]; exact h3
  · show nb (zI κ g b)
    by_cases e : b = w
    · rw [e] at hb ⊢
      rw [tw] at hb
      exact hk.2 g hg hb.symm
    · rw [tt b e] at hb; exact w6 g b hg hb
  · have e : b ≠ w := fun e => by rw [e, tw] at hb; omega
    rw [tt b e] at hb; exact w7 b j hb
  · have e : b ≠ w := fun e => by rw [e, tw] at hb; omega
    rw [tt b e] at hb; exact w8 b j hb
  · show zO κ (zR κ g b) = (g, b)
    by_cases e : b = w
    · rw [e] at hb ⊢
      rw [tw] at hb
      exact (hk.1 g q hg hb.symm).2 hq
    · rw [tt b e] at hb; exact w9 g q b hg hq hb
theorem zH_nf {w ci : Nat} (h : zT κ w = 40 + ci) (h0 : 0 < ci) (h1 : ci < 20) : zH C (nff κ w) = zH C κ := by
  refine zH_eq rfl (fun a => ?_)
  show (if (if a = w then zT κ w - 40 else zT κ a) = 0 then _ else some (zCell (nff κ w) a)) = (if zT κ a = 0 then _ else some (zCell κ a))
  by_cases e : a = w
  · rw [e, if_pos rfl, if_neg (by omega), if_neg (by omega)]
    have hT : zT (nff κ w) w = ci := (if_pos rfl).trans (by have h9 : κ.1 w = 40 + ci := h; omega)
    unfold zCell
    rw [hT, if_neg (by omega), if_pos (by omega), if_pos (by omega), h]
    have e2 : 40 + ci - 40 = ci := by omega
    rw [e2]
    rfl
  · rw [if_neg e, zCell_eq (κ' := nff κ w) (if_neg e) rfl (fun _ => rfl) rfl rfl rfl]
theorem zW_ut {κ1 : zS} (W : zW C n0 κ) (e : κ1 = ut κ) : zW C n0 κ1 := by
  subst e; exact W
end WT
section SC
variable {C : zC} {n0 d : Nat} {r : dM} {pc : Nat} {L : List (Option Value)} {st : List Value} {κ : zS} {Q : zU → zS → Prop}
/-- a length that a row may have -/
def nsz (n : Int32) : Prop := 0 ≤ n ∧ n.toNatClampNeg ≤ 67108864
theorem nsz_n {n : Int32} (h : nsz n) : ¬ n < 0 := by have := h.1; grind
theorem y_newa {at0 : ArrayType} {t : Nat} {n : Int32} (W : zW C n0 κ) (hd : decode r.2.1 pc = .ok (.newarray at0, 2)) (ht : (at0 = .int ∧ t = 0) ∨ (at0 = .byte ∧ t = 1) ∨ (at0 = .long ∧ t = 2) ∨ (at0 = .boolean ∧ t = 3)) (hn : nsz n) (K : ∀ κ1, κ1 = na κ (20 + t) n.toNatClampNeg → zG C n0 d r (pc + 2) L (.ref (zn κ) :: st) κ1 Q) : zG C n0 d r pc L (.int n :: st) κ Q := by
  refine y_h (κ1 := na κ (20 + t) n.toNatClampNeg) (x := 1) (y := n.toNatClampNeg) hd (dx_no hd rfl) (fun _ => rfl) (fun cs ss => ?_) ⟨rfl, rfl⟩ (zM_na W rfl) (K _ rfl)
  have tw : zT (na κ (20 + t) n.toNatClampNeg) (zn κ) = 20 + t := if_pos rfl
  have nw : zN (na κ (20 + t) n.toNatClampNeg) (zn κ) = n.toNatClampNeg := if_pos rfl
  have aw : zA (na κ (20 + t) n.toNatClampNeg) (zn κ) = fun _ => 0 := if_pos rfl
  have jw : zJ (na κ (20 + t) n.toNatClampNeg) (zn κ) = fun _ => 0 := if_pos rfl
  have ho : ∀ b, b ≠ zn κ → zT (na κ (20 + t) n.toNatClampNeg) b = zT κ b ∧ zCell (na κ (20 + t) n.toNatClampNeg) b = zCell κ b := fun b hb => ⟨if_neg hb, zCell_eq (if_neg hb) (if_neg hb) (fun _ => rfl) (if_neg hb) (if_neg hb) (if_neg hb)⟩
  have hh1 := nsz_n hn
  have hh2 := hn.2
  have key : ∀ z0, dnty at0 = some (t, z0) → zCell (na κ (20 + t) n.toNatClampNeg) (zn κ) = .inl (t, n.toNatClampNeg, z0) → n.toNatClampNeg * componentBytes (newarray.typeOf at0) ≤ 536870912 → dnewa 2 at0 (.int n :: st) (zH C κ) cs ss = some (.ref (zn κ) :: st, zH C (na κ (20 + t) n.toNatClampNeg), cs + 1, ss + n.toNatClampNeg) := by
    intro z0 e1 e2 e3
    have hh : (zH C κ).1 = some (zn κ) := rfl
    unfold dnewa
    simp only [e1, hh]
    rw [if_pos ⟨trivial, hh1, e3⟩, zH_new rfl (by rw [tw]; omega) e2 ho]
  show dnewa 2 at0 (.int n :: st) (zH C κ) cs ss = _
  have cl : zCell (na κ (20 + t) n.toNatClampNeg) (zn κ) = zRow (na κ (20 + t) n.toNatClampNeg) (zn κ) := by
    unfold zCell
    rw [if_neg (by rw [tw]; omega), if_neg (by rw [tw]; omega)]
  rcases ht with ⟨rfl, rfl⟩ | ⟨rfl, rfl⟩ | ⟨rfl, rfl⟩ | ⟨rfl, rfl⟩
  · refine key _ rfl ?_ (by show _ * 4 ≤ _; omega)
    rw [cl]; unfold zRow; rw [tw, nw, aw]; rfl
  · refine key _ rfl ?_ (by show _ * 1 ≤ _; omega)
    rw [cl]; unfold zRow; rw [tw, nw, aw]; rfl
  · refine key _ rfl ?_ (by show _ * 8 ≤ _; omega)
    rw [cl]; unfold zRow; rw [tw, nw, jw]; rfl
  · refine key _ rfl ?_ (by show _ * 1 ≤ _; omega)
    rw [cl]; unfold zRow; rw [tw, nw, aw]; rfl
theorem y_newq {o idx t : Nat} {n : Int32} (W : zW C n0 κ) (hd : decode r.2.1 pc = .ok (.anewarray idx, 3)) (ho : r.2.2.2.2.2.1 = o) (hf : (tAN o).lookup idx = some t) (ht : t = 4 ∨ t = 5) (hn : nsz n) (K : ∀ κ1, κ1 = na κ (20 + t) n.toNatClampNeg → zG C n0 d r (pc + 3) L (.ref (zn κ) :: st) κ1 Q) : zG C n0 d r pc L (.int n :: st) κ Q := by
  refine y_h (κ1 := na κ (20 + t) n.toNatClampNeg) (x := 1) (y := n.toNatClampNeg) hd (dx_no hd rfl) (fun _ => rfl) (fun cs ss => ?_) ⟨rfl, rfl⟩ (zM_na W rfl) (K _ rfl)
  have tw : zT (na κ (20 + t) n.toNatClampNeg) (zn κ) = 20 + t := if_pos rfl
  have nw : zN (na κ (20 + t) n.toNatClampNeg) (zn κ) = n.toNatClampNeg := if_pos rfl
  have qw : zQ (na κ (20 + t) n.toNatClampNeg) (zn κ) = fun _ => none := if_pos rfl
  have hb : ∀ b, b ≠ zn κ → zT (na κ (20 + t) n.toNatClampNeg) b = zT κ b ∧ zCell (na κ (20 + t) n.toNatClampNeg) b = zCell κ b := fun b hb => ⟨if_neg hb, zCell_eq (if_neg hb) (if_neg hb) (fun _ => rfl) (if_neg hb) (if_neg hb) (if_neg hb)⟩
  have hh1 := nsz_n hn
  have hh2 := hn.2
  have hh : (zH C κ).1 = some (zn κ) := rfl
  have hf' : eAN (yEn C) o idx = some t := hf
  have cl : zCell (na κ (20 + t) n.toNatClampNeg) (zn κ) = .inl (t, n.toNatClampNeg, .inr (.inr (.inr (.inr fun _ => none)))) := by
    unfold zCell
    rw [if_neg (by rw [tw]; omega), if_neg (by rw [tw]; omega)]
    unfold zRow
    rw [tw, nw, qw, if_neg (by omega), if_pos (by omega)]
    have e : 20 + t - 20 = t := by omega
    rw [e]
  show dnewq (yEn C) r.2.2.2.2.2.1 3 idx (.int n :: st) (zH C κ) cs ss = _
  unfold dnewq
  simp only [ho, hf', hh]
  rw [if_pos ⟨trivial, hh1, by omega⟩, zH_new rfl (by rw [tw]; omega) cl hb]
theorem zr_nY : ∀ ci, ci ∈ [3, 4, 5, 6, 7, 8, 9, 10, 11, 12, 13, 14, 15] → (List.range (nN ci)).map (fun k => defaultValue (nY ci k)) = (List.range (nN ci)).map fun k => if (zr (100 * ci + k)).isSome then Value.null else Value.int 0 := by
  intro ci h
  simp only [List.mem_cons, List.not_mem_nil, or_false] at h
  rcases h with rfl | rfl | rfl | rfl | rfl | rfl | rfl | rfl | rfl | rfl | rfl | rfl | rfl <;> rfl
theorem y_newo {o idx ci : Nat} (W : zW C n0 κ) (hd : decode r.2.1 pc = .ok (.new idx, 3)) (ho : r.2.2.2.2.2.1 = o) (hf : (tNW o).lookup idx = some ci) (hx : (tX1 o).lookup idx = none) (hci : ci ∈ [3, 4, 5, 6, 7, 8, 9, 10, 11, 12, 13, 14, 15]) (K : ∀ κ1, κ1 = noo κ ci → zG C n0 d r (pc + 3) L (.ref (zn κ) :: st) κ1 Q) : zG C n0 d r pc L st κ Q := by
  have c1 : 0 < ci ∧ ci < 20 ∧ ci ∈ osC := by
    have key : ∀ c ∈ [3, 4, 5, 6, 7, 8, 9, 10, 11, 12, 13, 14, 15], 0 < c ∧ c < 20 ∧ c ∈ osC := by decide
    exact key ci hci
  refine y_h (κ1 := noo κ ci) (x := 1) (y := nN ci) hd (dxat_no hd (fun ik e => by cases e; rw [ho]; exact hx)) (fun _ => rfl) (fun cs ss => ?_) ⟨rfl, rfl⟩ (zM_no W rfl) (K _ rfl)
  have tw : zT (noo κ ci) (zn κ) = 40 + ci := if_pos rfl
  have hb : ∀ b, b ≠ zn κ → zT (noo κ ci) b = zT κ b ∧ zCell (noo κ ci) b = zCell κ b := fun b hb => ⟨if_neg hb, zCell_eq (if_neg hb) (if_neg hb) (fun g => by
    unfold zV
    show (match zr g with | some _ => if (if b = zn κ then 0 else zR κ g b) = 0 then Value.null else Value.ref (if b = zn κ then 0 else zR κ g b) | none => Value.int (if b = zn κ then 0 else zI κ g b)) = _
    rw [if_neg hb, if_neg hb]
    cases zr g <;> rfl) rfl rfl rfl⟩
  have hfs : zFs (noo κ ci) (zn κ) ci = (List.range (nN ci)).map fun k => if (zr (100 * ci + k)).isSome then Value.null else Value.int 0 := by
    unfold zFs
    refine List.map_congr_left (fun k _ => ?_)
    unfold zV
    show (match zr (100 * ci + k) with | some _ => if (if zn κ = zn κ then 0 else zR κ (100 * ci + k) (zn κ)) = 0 then Value.null else Value.ref (if zn κ = zn κ then 0 else zR κ (100 * ci + k) (zn κ)) | none => Value.int (if zn κ = zn κ then 0 else zI κ (100 * ci + k) (zn κ))) = _
    cases zr (100 * ci + k) with
    | none => show Value.int (if zn κ = zn κ then 0 else _) = _; rw [if_pos rfl]; rfl
    | some q => show (if (if zn κ = zn κ then 0 else _) = 0 then Value.null else _) = _; rw [if_pos rfl]; rfl
  have cl : zCell (noo κ ci) (zn κ) = .inr (ci, (List.range (nN ci)).map (fun k => defaultValue (nY ci k))) := by
    unfold zCell
    rw [if_pos (by rw [tw]; omega), tw]
    have e : 40 + ci - 40 = ci := by omega
    rw [e, hfs, zr_nY ci hci]
  have hh : (zH C κ).1 = some (zn κ) := rfl
  have hf' : eNW (yEn C) o idx = some ci := hf
  have hnd : eND (yEn C) ci = some ((List.range (nN ci)).map (fun k => defaultValue (nY ci k))) := by
    show tND ci = _
    unfold tND
    rw [if_pos c1.2.2]
  show dnewo (yEn C) r.2.2.2.2.2.1 3 idx st (zH C κ) cs ss = _
  unfold dnewo
  simp only [ho, hf', hnd, hh]
  rw [if_pos trivial, zH_new rfl (by rw [tw]; omega) cl hb]
  simp
theorem y_flip {w ci : Nat} (h : zT κ w = 40 + ci) (hci : 0 < ci ∧ ci < 20) (hw : n0 ≤ w) (K : ∀ κ1, κ1 = nff κ w → zG C n0 d r pc L st κ1 Q) : zG C n0 d r pc L st κ Q := by
  intro lo cs ss hl
  obtain ⟨o, κ', x9, y9, h1, h2, h3, h4, h5, h6⟩ := K _ rfl lo cs ss hl
  rw [zH_nf h hci.1 hci.2] at h1
  refine ⟨o, κ', x9, y9, h1, h2, h3, h4, ⟨fun a c hc e => ?_, fun a e => ?_, h5.2.2⟩, h6⟩
  · have ne : a ≠ w := fun z => by rw [z, h] at e; omega
    exact h5.1 a c hc ((if_neg ne).trans e)
  · refine h5.2.1 a ?_
    show (if a = w then zT κ w - 40 else zT κ a) ≠ 0
    by_cases z : a = w
    · rw [if_pos z, h]; omega
    · rw [if_neg z]; exact e
theorem y_ldc {o idx : Nat} {x : Int32} (hd : decode r.2.1 pc = .ok (.ldc idx, 2)) (ho : r.2.2.2.2.2.1 = o) (hf : (tCN o).lookup idx = some x) (K : zG C n0 d r (pc + 2) L (.int x :: st) κ Q) : zG C n0 d r pc L st κ Q := by
  refine y_h0 hd rfl (fun _ => rfl) (fun cs ss => ?_) ⟨rfl, rfl⟩ zM.rf K
  show (match dldc 2 2 ((eCN (yEn C) r.2.2.2.2.2.1 idx).map Value.int) st (zH C κ) cs ss with | some g => some g | none => _) = _
  have hf' : eCN (yEn C) o idx = some x := hf
  rw [ho, hf']; rfl
theorem y_ldcw {o idx : Nat} {x : Int32} (hd : decode r.2.1 pc = .ok (.ldc_w idx, 3)) (ho : r.2.2.2.2.2.1 = o) (hf : (tCN o).lookup idx = some x) (K : zG C n0 d r (pc + 3) L (.int x :: st) κ Q) : zG C n0 d r pc L st κ Q := by
  refine y_h0 hd rfl (fun _ => rfl) (fun cs ss => ?_) ⟨rfl, rfl⟩ zM.rf K
  show dldc 3 3 ((eCN (yEn C) r.2.2.2.2.2.1 idx).map Value.int) st (zH C κ) cs ss = _
  have hf' : eCN (yEn C) o idx = some x := hf
  rw [ho, hf']; rfl
theorem y_ldcl {o idx : Nat} {x : Int64} (hd : decode r.2.1 pc = .ok (.ldc2_w idx, 3)) (ho : r.2.2.2.2.2.1 = o) (hf : (tCL o).lookup idx = some x) (K : zG C n0 d r (pc + 3) L (.long x :: st) κ Q) : zG C n0 d r pc L st κ Q := by
  refine y_h0 hd rfl (fun _ => rfl) (fun cs ss => ?_) ⟨rfl, rfl⟩ zM.rf K
  show dldc 3 3 ((eCL (yEn C) r.2.2.2.2.2.1 idx).map Value.long) st (zH C κ) cs ss = _
  have hf' : eCL (yEn C) o idx = some x := hf
  rw [ho, hf']; rfl
/-- a text -/
theorem y_ldcs {o idx k : Nat} (hd : decode r.2.1 pc = .ok (.ldc idx, 2)) (ho : r.2.2.2.2.2.1 = o) (hf0 : (tCN o).lookup idx = none) (hf : (tSR o).lookup idx = some k) (K : zG C n0 d r (pc + 2) L (.ref (C.1 k) :: st) κ Q) : zG C n0 d r pc L st κ Q := by
  refine y_h0 hd rfl (fun _ => rfl) (fun cs ss => ?_) ⟨rfl, rfl⟩ zM.rf K
  show (match dldc 2 2 ((eCN (yEn C) r.2.2.2.2.2.1 idx).map Value.int) st (zH C κ) cs ss with | some g => some g | none => dldc 2 2 ((eSR (yEn C) r.2.2.2.2.2.1 idx).map Value.ref) st (zH C κ) cs ss) = _
  have hf1 : eCN (yEn C) o idx = none := hf0
  have hf2 : eSR (yEn C) o idx = some (C.1 k) := by show ((tSR o).lookup idx).map C.1 = _; rw [hf]; rfl
  rw [ho, hf1, hf2]; rfl
end SC
