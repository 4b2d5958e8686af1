set_option maxHeartbeats 1600000
/-! the law's wrappers, one by one -/
def pC9 (κ : zS) (a : Nat) (L : Int) (κ' : zS) : Prop := (∃ ρ', chI9 ρ' κ' a L) ∧ (∃ F, zF F κ κ') ∧ pC8 κ κ' a
/-- what a wrapper of the law answers: 0 and a number laid down, or a code -/
def cAw (u : Nat) (C' : zC) (v : Int32) (A E : Int32 → Prop) : Prop := (v = 0 ∧ ∃ (J1 : Nat → Int64) (x : Int32), (yh C').2 u = some (outC9 J1) ∧ J1 0 = x.toInt64 ∧ A x) ∨ ((v = 1 ∨ v = 2 ∨ v = 3) ∧ E v)
def cLw (u : Nat) (C' : zC) (v : Int32) (A : Int64 → Prop) (E : Int32 → Prop) : Prop := (v = 0 ∧ ∃ (J1 : Nat → Int64) (x : Int64), (yh C').2 u = some (outC9 J1) ∧ J1 0 = x ∧ A x) ∨ ((v = 1 ∨ v = 2 ∨ v = 3) ∧ E v)
def cNw (v : Int32) (A : Prop) (E : Int32 → Prop) : Prop := (v = 0 ∧ A) ∨ ((v = 1 ∨ v = 2 ∨ v = 3) ∧ E v)
def pF9 (κ : zS) (a : Nat) (L : Int) (G : Nat → Int32) (κ' : zS) : Prop := (∃ ρ', chI9 ρ' κ' a L) ∧ (∃ F, zF F κ κ') ∧ ((oC9 κ' a = fdO9 (oC9 κ a) G ∧ kC7 κ κ' a) ∧ kA8 κ κ' a)
def pT9 (κ : zS) (a : Nat) (L : Int) (p : Int32) (κ' : zS) : Prop := (∃ ρ', chI9 ρ' κ' a L) ∧ (∃ F, zF F κ κ') ∧ TL21 κ κ' a p
def pN9 (κ : zS) (a : Nat) (L : Int) (σ : rS) (κ' : zS) : Prop := (∃ ρ', chI9 ρ' κ' a L) ∧ (∃ F, zF F κ κ') ∧ BB9 κ κ' a σ
def pU9 (κ : zS) (a : Nat) (L : Int) (σ : rS) (k c : Int32) (κ' : zS) : Prop := (∃ ρ', chI9 ρ' κ' a L) ∧ (∃ F, zF F κ κ') ∧ pDc8 κ κ' a σ k c
def pW23 (κ : zS) (a : Nat) (L : Int) (m : Int32) (σ σ9 : rS) (κ' : zS) : Prop := (∃ ρ', chI9 ρ' κ' a L) ∧ (∃ F, zF F κ κ') ∧ PY23 κ κ' a m σ σ9
def pS9 (κ : zS) (a : Nat) (L : Int) (σ : rS) (κ' : zS) : Prop := (∃ ρ', chI9 ρ' κ' a L) ∧ (∃ F, zF F κ κ') ∧ pA8 κ κ' a ∧ CV16 κ κ' a σ
def pH9 (κ : zS) (a : Nat) (L : Int) (σ : rS) (k c : Int32) (κ' : zS) : Prop := (∃ ρ', chI9 ρ' κ' a L) ∧ (∃ F, zF F κ κ') ∧ pA8 κ κ' a ∧ HS16 κ κ' a σ k c
def pX9 (κ : zS) (a : Nat) (L : Int) (σ : rS) (p : Int32) (κ' : zS) : Prop := (∃ ρ', chI9 ρ' κ' a L) ∧ (∃ F, zF F κ κ') ∧ XC8 κ a σ p κ'
def pE9 (κ : zS) (a : Nat) (L : Int) (m : Int32) (κ' : zS) : Prop := (∃ ρ', chI9 ρ' κ' a L) ∧ (∃ F, zF F κ κ') ∧ ((oC9 κ' a = trO9 (oC9 κ a) m ∧ kC7 κ κ' a) ∧ kA8 κ κ' a)
theorem pC_r9 {κ : zS} {a : Nat} {L : Int} {ρ : Nat → Nat} (I : chI9 ρ κ a L) : pC9 κ a L κ := ⟨⟨ρ, I⟩, ⟨fun _ _ => False, zF.rf⟩, ⟨rfl, rfl, rfl, rfl, rfl⟩, ⟨rfl, rfl⟩, kA_r16⟩
theorem oI_l9 {Q : Int32 → zS → Prop} {X : zXp} {vo : Option Value} {κ : zS} (q : oI Q X (.inl vo) κ) : ∃ v, vo = some (.int v) ∧ Q v κ := by
  rcases q with ⟨v, e, h⟩ | ⟨cls, e, _⟩
  · exact ⟨v, Sum.inl.inj e, h⟩
  · cases e
theorem oJ_l9 {Q : Int64 → zS → Prop} {X : zXp} {vo : Option Value} {κ : zS} (q : oJ Q X (.inl vo) κ) : ∃ v, vo = some (.long v) ∧ Q v κ := by
  rcases q with ⟨v, e, h⟩ | ⟨cls, e, _⟩
  · exact ⟨v, Sum.inl.inj e, h⟩
  · cases e
theorem oV_l9 {Q : zS → Prop} {X : zXp} {vo : Option Value} {κ : zS} (q : oV Q X (.inl vo) κ) : vo = none ∧ Q κ := by
  rcases q with ⟨e, h⟩ | ⟨cls, e, _⟩
  · exact ⟨Sum.inl.inj e, h⟩
  · cases e
theorem oI_r9 {Q : Int32 → zS → Prop} {X : zXp} {cls : String} {κ : zS} (q : oI Q X (.inr cls) κ) : X cls κ := by
  rcases q with ⟨v, e, _⟩ | ⟨cls', e, h⟩
  · cases e
  · rw [Sum.inr.inj e]; exact h
theorem oJ_r9 {Q : Int64 → zS → Prop} {X : zXp} {cls : String} {κ : zS} (q : oJ Q X (.inr cls) κ) : X cls κ := by
  rcases q with ⟨v, e, _⟩ | ⟨cls', e, h⟩
  · cases e
  · rw [Sum.inr.inj e]; exact h
theorem oV_r9 {Q : zS → Prop} {X : zXp} {cls : String} {κ : zS} (q : oV Q X (.inr cls) κ) : X cls κ := by
  rcases q with ⟨e, _⟩ | ⟨cls', e, h⟩
  · cases e
  · rw [Sum.inr.inj e]; exact h
theorem ifeq_n9 {v : Int32} {pc n t : Nat} {off : Int} {lo : dL0} {st : List Value} (h : v ≠ 0) (hl : dto pc off = some t) : dpure (.ifCond .eq off) 3 pc n lo (.int v :: st) = some (pc + 3, lo, st) := by
  show dif 3 pc lo st off (dcnd .eq v 0) = _
  have e : dcnd .eq v 0 = false := by
    unfold dcnd
    simp [h]
  unfold dif
  rw [e, if_pos rfl, hl]
  rfl
def kL_feed : dM × dHH := ((yL_feed, cL_feed, 8, (some .int), true, 100, 7), [(0, 16, 19, 13)])
theorem dL_feed_0 : decode cL_feed 0 = .ok (.aload 6, 2) := by decide +kernel
theorem dL_feed_2 : decode cL_feed 2 = .ok (.iconst 0, 1) := by decide +kernel
theorem dL_feed_3 : decode cL_feed 3 = .ok (.aload_n 0, 1) := by decide +kernel
theorem dL_feed_4 : decode cL_feed 4 = .ok (.iload_n 1, 1) := by decide +kernel
theorem dL_feed_5 : decode cL_feed 5 = .ok (.iload_n 2, 1) := by decide +kernel
theorem dL_feed_6 : decode cL_feed 6 = .ok (.iload_n 3, 1) := by decide +kernel
theorem dL_feed_7 : decode cL_feed 7 = .ok (.iload 4, 2) := by decide +kernel
theorem dL_feed_9 : decode cL_feed 9 = .ok (.iload 5, 2) := by decide +kernel
theorem dL_feed_11 : decode cL_feed 11 = .ok (.invokevirtual 7, 3) := by decide +kernel
theorem dL_feed_14 : decode cL_feed 14 = .ok (.i2l, 1) := by decide +kernel
theorem dL_feed_15 : decode cL_feed 15 = .ok (.lastore, 1) := by decide +kernel
theorem dL_feed_16 : decode cL_feed 16 = .ok (.goto 7, 3) := by decide +kernel
theorem dL_feed_19 : decode cL_feed 19 = .ok (.astore 7, 2) := by decide +kernel
theorem dL_feed_21 : decode cL_feed 21 = .ok (.iconst 1, 1) := by decide +kernel
theorem dL_feed_22 : decode cL_feed 22 = .ok (.ireturn, 1) := by decide +kernel
theorem dL_feed_23 : decode cL_feed 23 = .ok (.iconst 0, 1) := by decide +kernel
theorem dL_feed_24 : decode cL_feed 24 = .ok (.ireturn, 1) := by decide +kernel
theorem pr_feed9 {E : dE} {X : dX} {XH : Nat → Option String} {hx : dHH} {b n d a u : Nat} {p0 : Int32} {p1 : Int32} {p2 : Int32} {p3 : Int32} {p4 : Int32} {h : dH} {z : dZ} (K : drunC E X XH hx b n d kL_feed.1 11 (dent [.ref a, .int p0, .int p1, .int p2, .int p3, .int p4, .ref u]) [.int p4, .int p3, .int p2, .int p1, .int p0, .ref a, .int 0, .ref u] h 0 0 = some z) : drunC E X XH hx b (n + 8) d kL_feed.1 0 (dent [.ref a, .int p0, .int p1, .int p2, .int p3, .int p4, .ref u]) [] h 0 0 = some z := by
  refine gc_p9 (w := (2, dent [.ref a, .int p0, .int p1, .int p2, .int p3, .int p4, .ref u], [.ref u])) dL_feed_0 rfl ?_
  refine gc_p9 (w := (3, dent [.ref a, .int p0, .int p1, .int p2, .int p3, .int p4, .ref u], [.int 0, .ref u])) dL_feed_2 (by rw [← zi_0]; rfl) ?_
  refine gc_p9 (w := (4, dent [.ref a, .int p0, .int p1, .int p2, .int p3, .int p4, .ref u], [.ref a, .int 0, .ref u])) dL_feed_3 rfl ?_
  refine gc_p9 (w := (5, dent [.ref a, .int p0, .int p1, .int p2, .int p3, .int p4, .ref u], [.int p0, .ref a, .int 0, .ref u])) dL_feed_4 rfl ?_
  refine gc_p9 (w := (6, dent [.ref a, .int p0, .int p1, .int p2, .int p3, .int p4, .ref u], [.int p1, .int p0, .ref a, .int 0, .ref u])) dL_feed_5 rfl ?_
  refine gc_p9 (w := (7, dent [.ref a, .int p0, .int p1, .int p2, .int p3, .int p4, .ref u], [.int p2, .int p1, .int p0, .ref a, .int 0, .ref u])) dL_feed_6 rfl ?_
  refine gc_p9 (w := (9, dent [.ref a, .int p0, .int p1, .int p2, .int p3, .int p4, .ref u], [.int p3, .int p2, .int p1, .int p0, .ref a, .int 0, .ref u])) dL_feed_7 rfl ?_
  refine gc_p9 (w := (11, dent [.ref a, .int p0, .int p1, .int p2, .int p3, .int p4, .ref u], [.int p4, .int p3, .int p2, .int p1, .int p0, .ref a, .int 0, .ref u])) dL_feed_9 rfl ?_
  exact K
theorem sa_feed9 {C : zC} {κ : zS} {u : Nat} {J : Nat → Int64} {v : Int64} {lo : dL0} (hb : yb C ≤ u) (z0 : zT κ u = 0) (hu : (yh C).2 u = some (outC9 J)) : ∀ n x y, drunC (yEn C) dXX (dKK.2.2 100) kL_feed.2 (yb C) (n + 4) 15 kL_feed.1 15 lo [.long v, .int 0, .ref u] (zH C κ) x y = some (some (.int 0), zH (cO9 C u (vp_updL J 0 v)) κ, x, y) := ls_9 hb z0 hu rfl dL_feed_15 dL_feed_16 rfl dL_feed_23 dL_feed_24
theorem sx_feed9 {C : zC} {κ : zS} {u : Nat} {J : Nat → Int64} {v : Int32} {lo : dL0} (hb : yb C ≤ u) (z0 : zT κ u = 0) (hu : (yh C).2 u = some (outC9 J)) : ∀ n x y, drunC (yEn C) dXX (dKK.2.2 100) kL_feed.2 (yb C) (n + 5) 15 kL_feed.1 14 lo [.int v, .int 0, .ref u] (zH C κ) x y = some (some (.int 0), zH (cO9 C u (vp_updL J 0 v.toInt64)) κ, x, y) := fun n x y => gc_p9 (n := n + 4) (w := (15, lo, [.long v.toInt64, .int 0, .ref u])) dL_feed_14 rfl (sa_feed9 hb z0 hu n x y)
theorem wM_feed9 {C : zC} {n0 a u : Nat} {L : Int} {ρ : Nat → Nat} {κ : zS} {J : Nat → Int64} {p0 : Int32} {p1 : Int32} {p2 : Int32} {p3 : Int32} {p4 : Int32} (W : zW C n0 κ) (T : zT κ a = 15) (I : chI9 ρ κ a L) (hL : L ≤ 10220) (hb : yb C ≤ u) (h0 : zT κ u = 0) (hn : u < zn κ) (hu : (yh C).2 u = some (outC9 J)) : wrP9 C κ u kL_feed [.ref a, .int p0, .int p1, .int p2, .int p3, .int p4, .ref u] (fun v C' κ' => pF9 κ a (L + 20) (by9 p0 p1 p2 p3 p4) κ' ∧ cAw u C' v (fun x => x = zI κ taLength (zR κ chTape a) + 20) (fun _ => False)) := by
  have R := Ch_feed_w (a1 := p0) (a2 := p1) (a3 := p2) (a4 := p3) (a5 := p4) W T ρ L ⟨I, hL⟩ (Q := fun v κ' => pF9 κ a (L + 20) (by9 p0 p1 p2 p3 p4) κ' ∧ (fun x => x = zI κ taLength (zR κ chTape a) + 20) v) (X := fun cls κ' => False) (fun v κ' e => ⟨⟨⟨ρ, e.1.1⟩, e.1.2⟩, e.2⟩) (fun cls κ' h => h)
  refine wr_p9 (p := 8) (s := 5) (pc := 11) (idx := 7) (lo := dent [.ref a, .int p0, .int p1, .int p2, .int p3, .int p4, .ref u]) (st := [.int p4, .int p3, .int p2, .int p1, .int p0, .ref a, .int 0, .ref u]) (rest := [.int 0, .ref u]) W rfl (fun n z K => pr_feed9 K) dL_feed_11 (inv_e9 (As := [.int p0, .int p1, .int p2, .int p3, .int p4]) (rest := [.int 0, .ref u]) (j := 205) (by decide +kernel) rfl ⟨rfl, by decide, by decide, by decide⟩ rfl (Nat.le_of_ble_eq_true rfl) (Nat.le_of_ble_eq_true rfl) (Or.inl T)) R (by decide) (fun vo κ' q W' => ?_) (fun cls κ' q => ?_)
  · obtain ⟨v, rfl, hP, hq⟩ := oI_l9 q
    obtain ⟨F, Z⟩ := hP.2.1
    have z0 : zT κ' u = 0 := Z.2.2.2.1.1.2 u hn h0
    exact ⟨cO9 C u (vp_updL J 0 v.toInt64), ⟨hP, Or.inl ⟨rfl, vp_updL J 0 v.toInt64, v, if_pos rfl, if_pos rfl, hq⟩⟩, Or.inr ⟨_, rfl⟩, sx_feed9 hb z0 hu⟩
  · have hX := oI_r9 q
    exact hX.elim
def kL_end : dM × dHH := ((yL_end, cL_end, 3, (some .int), true, 100, 2), [(0, 5, 8, 19)])
theorem dL_end_0 : decode cL_end 0 = .ok (.aload_n 0, 1) := by decide +kernel
theorem dL_end_1 : decode cL_end 1 = .ok (.iload_n 1, 1) := by decide +kernel
theorem dL_end_2 : decode cL_end 2 = .ok (.invokevirtual 15, 3) := by decide +kernel
theorem dL_end_5 : decode cL_end 5 = .ok (.goto 6, 3) := by decide +kernel
theorem dL_end_8 : decode cL_end 8 = .ok (.astore_n 2, 1) := by decide +kernel
theorem dL_end_9 : decode cL_end 9 = .ok (.iconst 1, 1) := by decide +kernel
theorem dL_end_10 : decode cL_end 10 = .ok (.ireturn, 1) := by decide +kernel
theorem dL_end_11 : decode cL_end 11 = .ok (.iconst 0, 1) := by decide +kernel
theorem dL_end_12 : decode cL_end 12 = .ok (.ireturn, 1) := by decide +kernel
theorem pr_end9 {E : dE} {X : dX} {XH : Nat → Option String} {hx : dHH} {b n d a : Nat} {p0 : Int32} {h : dH} {z : dZ} (K : drunC E X XH hx b n d kL_end.1 2 (dent [.ref a, .int p0]) [.int p0, .ref a] h 0 0 = some z) : drunC E X XH hx b (n + 2) d kL_end.1 0 (dent [.ref a, .int p0]) [] h 0 0 = some z := by
  refine gc_p9 (w := (1, dent [.ref a, .int p0], [.ref a])) dL_end_0 rfl ?_
  refine gc_p9 (w := (2, dent [.ref a, .int p0], [.int p0, .ref a])) dL_end_1 rfl ?_
  exact K
theorem wM_end9 {C : zC} {n0 a u : Nat} {L : Int} {ρ : Nat → Nat} {κ : zS} {p0 : Int32} (W : zW C n0 κ) (T : zT κ a = 15) (I : chI9 ρ κ a L) : wrP9 C κ u kL_end [.ref a, .int p0] (fun v C' κ' => pE9 κ a L p0 κ' ∧ cNw v (0 ≤ p0 ∧ p0 ≤ zI κ taLength (zR κ chTape a)) (fun c => c = 1 ∧ ¬ (0 ≤ p0 ∧ p0 ≤ zI κ taLength (zR κ chTape a)))) := by
  have R := Ch_end_w (a1 := p0) W T ρ L I (Q := fun κ' => pE9 κ a L p0 κ' ∧ 0 ≤ p0 ∧ p0 ≤ zI κ taLength (zR κ chTape a)) (X := fun cls κ' => cls = "java/lang/IllegalArgumentException" ∧ κ' = ut κ ∧ trO9 (oC9 κ a) p0 = oC9 κ a ∧ ¬ (0 ≤ p0 ∧ p0 ≤ zI κ taLength (zR κ chTape a))) (fun κ' e => ⟨⟨⟨ρ, e.1.1⟩, e.1.2⟩, e.2⟩) (fun cls κ' h => h)
  refine wr_p9 (p := 2) (s := 3) (pc := 2) (idx := 15) (lo := dent [.ref a, .int p0]) (st := [.int p0, .ref a]) (rest := []) W rfl (fun n z K => pr_end9 K) dL_end_2 (inv_e9 (As := [.int p0]) (rest := []) (j := 206) (by decide +kernel) rfl ⟨rfl, by decide, by decide, by decide⟩ rfl (Nat.le_of_ble_eq_true rfl) (Nat.le_of_ble_eq_true rfl) (Or.inl T)) R (by decide) (fun vo κ' q W' => ?_) (fun cls κ' q => ?_)
  · obtain ⟨rfl, hP, hq⟩ := oV_l9 q
    exact ⟨C, ⟨hP, Or.inl ⟨rfl, hq⟩⟩, Or.inl rfl, fun n x y => gc_p9 (w := (11, _, [])) dL_end_5 rfl (tl_9 rfl dL_end_11 zi_0 dL_end_12 n _ _ x y)⟩
  · have hX := oV_r9 q
    obtain ⟨rfl, e1, e2, e3⟩ := hX
    exact ⟨e1, 1, ⟨⟨⟨ρ, I⟩, ⟨fun _ _ => False, zF.rf⟩, ⟨e2.symm, rfl, rfl, rfl, rfl⟩, ⟨rfl, rfl⟩, kA_r16⟩, Or.inr ⟨Or.inl rfl, rfl, e3⟩⟩, ⟨8, by decide +kernel, Or.inl ⟨2, dL_end_8, by decide, tl_9 rfl dL_end_9 zi_1 dL_end_10⟩⟩⟩
def kL_count : dM × dHH := ((yL_count, cL_count, 4, (some .int), true, 100, 3), [(0, 9, 12, 25)])
theorem dL_count_0 : decode cL_count 0 = .ok (.aload_n 2, 1) := by decide +kernel
theorem dL_count_1 : decode cL_count 1 = .ok (.iconst 0, 1) := by decide +kernel
theorem dL_count_2 : decode cL_count 2 = .ok (.aload_n 0, 1) := by decide +kernel
theorem dL_count_3 : decode cL_count 3 = .ok (.iload_n 1, 1) := by decide +kernel
theorem dL_count_4 : decode cL_count 4 = .ok (.invokevirtual 21, 3) := by decide +kernel
theorem dL_count_7 : decode cL_count 7 = .ok (.i2l, 1) := by decide +kernel
theorem dL_count_8 : decode cL_count 8 = .ok (.lastore, 1) := by decide +kernel
theorem dL_count_9 : decode cL_count 9 = .ok (.goto 6, 3) := by decide +kernel
theorem dL_count_12 : decode cL_count 12 = .ok (.astore_n 3, 1) := by decide +kernel
theorem dL_count_13 : decode cL_count 13 = .ok (.iconst 1, 1) := by decide +kernel
theorem dL_count_14 : decode cL_count 14 = .ok (.ireturn, 1) := by decide +kernel
theorem dL_count_15 : decode cL_count 15 = .ok (.iconst 0, 1) := by decide +kernel
theorem dL_count_16 : decode cL_count 16 = .ok (.ireturn, 1) := by decide +kernel
theorem pr_count9 {E : dE} {X : dX} {XH : Nat → Option String} {hx : dHH} {b n d a u : Nat} {p0 : Int32} {h : dH} {z : dZ} (K : drunC E X XH hx b n d kL_count.1 4 (dent [.ref a, .int p0, .ref u]) [.int p0, .ref a, .int 0, .ref u] h 0 0 = some z) : drunC E X XH hx b (n + 4) d kL_count.1 0 (dent [.ref a, .int p0, .ref u]) [] h 0 0 = some z := by
  refine gc_p9 (w := (1, dent [.ref a, .int p0, .ref u], [.ref u])) dL_count_0 rfl ?_
  refine gc_p9 (w := (2, dent [.ref a, .int p0, .ref u], [.int 0, .ref u])) dL_count_1 (by rw [← zi_0]; rfl) ?_
  refine gc_p9 (w := (3, dent [.ref a, .int p0, .ref u], [.ref a, .int 0, .ref u])) dL_count_2 rfl ?_
  refine gc_p9 (w := (4, dent [.ref a, .int p0, .ref u], [.int p0, .ref a, .int 0, .ref u])) dL_count_3 rfl ?_
  exact K
theorem sa_count9 {C : zC} {κ : zS} {u : Nat} {J : Nat → Int64} {v : Int64} {lo : dL0} (hb : yb C ≤ u) (z0 : zT κ u = 0) (hu : (yh C).2 u = some (outC9 J)) : ∀ n x y, drunC (yEn C) dXX (dKK.2.2 100) kL_count.2 (yb C) (n + 4) 15 kL_count.1 8 lo [.long v, .int 0, .ref u] (zH C κ) x y = some (some (.int 0), zH (cO9 C u (vp_updL J 0 v)) κ, x, y) := ls_9 hb z0 hu rfl dL_count_8 dL_count_9 rfl dL_count_15 dL_count_16
theorem sx_count9 {C : zC} {κ : zS} {u : Nat} {J : Nat → Int64} {v : Int32} {lo : dL0} (hb : yb C ≤ u) (z0 : zT κ u = 0) (hu : (yh C).2 u = some (outC9 J)) : ∀ n x y, drunC (yEn C) dXX (dKK.2.2 100) kL_count.2 (yb C) (n + 5) 15 kL_count.1 7 lo [.int v, .int 0, .ref u] (zH C κ) x y = some (some (.int 0), zH (cO9 C u (vp_updL J 0 v.toInt64)) κ, x, y) := fun n x y => gc_p9 (n := n + 4) (w := (8, lo, [.long v.toInt64, .int 0, .ref u])) dL_count_7 rfl (sa_count9 hb z0 hu n x y)
theorem wM_count9 {C : zC} {n0 a u : Nat} {L : Int} {ρ : Nat → Nat} {κ : zS} {J : Nat → Int64} {p0 : Int32} (W : zW C n0 κ) (T : zT κ a = 15) (I : chI9 ρ κ a L) (σ9 : rS) (hr8 : RC8 κ a σ9) (hb : yb C ≤ u) (h0 : zT κ u = 0) (hn : u < zn κ) (hu : (yh C).2 u = some (outC9 J)) : wrP9 C κ u kL_count [.ref a, .int p0, .ref u] (fun v C' κ' => pC9 κ a L κ' ∧ cAw u C' v (fun x => kc8 σ9 p0 ∧ x = kv8 σ9 p0) (fun c => c = 1 ∧ ¬ kc8 σ9 p0)) := by
  have R := Ch_count_c8 (a1 := p0) W T ρ L σ9 hr8 I (Q := fun v κ' => pC9 κ a L κ' ∧ (fun x => kc8 σ9 p0 ∧ x = kv8 σ9 p0) v) (X := fun cls κ' => cls = "java/lang/IndexOutOfBoundsException" ∧ κ' = ut κ ∧ ¬ kc8 σ9 p0) (fun v κ' e => ⟨by rw [← e.1]; exact pC_r9 I, e.2⟩) (fun cls κ' h => h)
  refine wr_p9 (p := 4) (s := 5) (pc := 4) (idx := 21) (lo := dent [.ref a, .int p0, .ref u]) (st := [.int p0, .ref a, .int 0, .ref u]) (rest := [.int 0, .ref u]) W rfl (fun n z K => pr_count9 K) dL_count_4 (inv_e9 (As := [.int p0]) (rest := [.int 0, .ref u]) (j := 208) (by decide +kernel) rfl ⟨rfl, by decide, by decide, by decide⟩ rfl (Nat.le_of_ble_eq_true rfl) (Nat.le_of_ble_eq_true rfl) (Or.inl T)) R (by decide) (fun vo κ' q W' => ?_) (fun cls κ' q => ?_)
  · obtain ⟨v, rfl, hP, hq⟩ := oI_l9 q
    obtain ⟨F, Z⟩ := hP.2.1
    have z0 : zT κ' u = 0 := Z.2.2.2.1.1.2 u hn h0
    exact ⟨cO9 C u (vp_updL J 0 v.toInt64), ⟨hP, Or.inl ⟨rfl, vp_updL J 0 v.toInt64, v, if_pos rfl, if_pos rfl, hq⟩⟩, Or.inr ⟨_, rfl⟩, sx_count9 hb z0 hu⟩
  · have hX := oI_r9 q
    obtain ⟨rfl, e1, e2⟩ := hX
    exact ⟨e1, 1, ⟨pC_r9 I, Or.inr ⟨Or.inl rfl, rfl, e2⟩⟩, ⟨12, by decide +kernel, Or.inl ⟨3, dL_count_12, by decide, tl_9 rfl dL_count_13 zi_1 dL_count_14⟩⟩⟩
def kL_explore : dM × dHH := ((yL_explore, cL_explore, 4, (some .int), true, 100, 3), [(0, 9, 12, 30), (0, 9, 15, 19)])
theorem dL_explore_0 : decode cL_explore 0 = .ok (.aload_n 2, 1) := by decide +kernel
theorem dL_explore_1 : decode cL_explore 1 = .ok (.iconst 0, 1) := by decide +kernel
theorem dL_explore_2 : decode cL_explore 2 = .ok (.aload_n 0, 1) := by decide +kernel
theorem dL_explore_3 : decode cL_explore 3 = .ok (.iload_n 1, 1) := by decide +kernel
theorem dL_explore_4 : decode cL_explore 4 = .ok (.invokevirtual 27, 3) := by decide +kernel
theorem dL_explore_7 : decode cL_explore 7 = .ok (.i2l, 1) := by decide +kernel
theorem dL_explore_8 : decode cL_explore 8 = .ok (.lastore, 1) := by decide +kernel
theorem dL_explore_9 : decode cL_explore 9 = .ok (.goto 9, 3) := by decide +kernel
theorem dL_explore_12 : decode cL_explore 12 = .ok (.astore_n 3, 1) := by decide +kernel
theorem dL_explore_13 : decode cL_explore 13 = .ok (.iconst 1, 1) := by decide +kernel
theorem dL_explore_14 : decode cL_explore 14 = .ok (.ireturn, 1) := by decide +kernel
theorem dL_explore_15 : decode cL_explore 15 = .ok (.astore_n 3, 1) := by decide +kernel
theorem dL_explore_16 : decode cL_explore 16 = .ok (.iconst 2, 1) := by decide +kernel
theorem dL_explore_17 : decode cL_explore 17 = .ok (.ireturn, 1) := by decide +kernel
theorem dL_explore_18 : decode cL_explore 18 = .ok (.iconst 0, 1) := by decide +kernel
theorem dL_explore_19 : decode cL_explore 19 = .ok (.ireturn, 1) := by decide +kernel
theorem pr_explore9 {E : dE} {X : dX} {XH : Nat → Option String} {hx : dHH} {b n d a u : Nat} {p0 : Int32} {h : dH} {z : dZ} (K : drunC E X XH hx b n d kL_explore.1 4 (dent [.ref a, .int p0, .ref u]) [.int p0, .ref a, .int 0, .ref u] h 0 0 = some z) : drunC E X XH hx b (n + 4) d kL_explore.1 0 (dent [.ref a, .int p0, .ref u]) [] h 0 0 = some z := by
  refine gc_p9 (w := (1, dent [.ref a, .int p0, .ref u], [.ref u])) dL_explore_0 rfl ?_
  refine gc_p9 (w := (2, dent [.ref a, .int p0, .ref u], [.int 0, .ref u])) dL_explore_1 (by rw [← zi_0]; rfl) ?_
  refine gc_p9 (w := (3, dent [.ref a, .int p0, .ref u], [.ref a, .int 0, .ref u])) dL_explore_2 rfl ?_
  refine gc_p9 (w := (4, dent [.ref a, .int p0, .ref u], [.int p0, .ref a, .int 0, .ref u])) dL_explore_3 rfl ?_
  exact K
theorem sa_explore9 {C : zC} {κ : zS} {u : Nat} {J : Nat → Int64} {v : Int64} {lo : dL0} (hb : yb C ≤ u) (z0 : zT κ u = 0) (hu : (yh C).2 u = some (outC9 J)) : ∀ n x y, drunC (yEn C) dXX (dKK.2.2 100) kL_explore.2 (yb C) (n + 4) 15 kL_explore.1 8 lo [.long v, .int 0, .ref u] (zH C κ) x y = some (some (.int 0), zH (cO9 C u (vp_updL J 0 v)) κ, x, y) := ls_9 hb z0 hu rfl dL_explore_8 dL_explore_9 rfl dL_explore_18 dL_explore_19
theorem sx_explore9 {C : zC} {κ : zS} {u : Nat} {J : Nat → Int64} {v : Int32} {lo : dL0} (hb : yb C ≤ u) (z0 : zT κ u = 0) (hu : (yh C).2 u = some (outC9 J)) : ∀ n x y, drunC (yEn C) dXX (dKK.2.2 100) kL_explore.2 (yb C) (n + 5) 15 kL_explore.1 7 lo [.int v, .int 0, .ref u] (zH C κ) x y = some (some (.int 0), zH (cO9 C u (vp_updL J 0 v.toInt64)) κ, x, y) := fun n x y => gc_p9 (n := n + 4) (w := (8, lo, [.long v.toInt64, .int 0, .ref u])) dL_explore_7 rfl (sa_explore9 hb z0 hu n x y)
theorem wM_explore9 {C : zC} {n0 a u : Nat} {L : Int} {ρ : Nat → Nat} {κ : zS} {J : Nat → Int64} {p0 : Int32} (W : zW C n0 κ) (T : zT κ a = 15) (I : chI9 ρ κ a L) (σ9 : rS) (hr8 : RC8 κ a σ9) (hb : yb C ≤ u) (h0 : zT κ u = 0) (hn : u < zn κ) (hu : (yh C).2 u = some (outC9 J)) : wrP9 C κ u kL_explore [.ref a, .int p0, .ref u] (fun v C' κ' => pX9 κ a L σ9 p0 κ' ∧ cAw u C' v (fun x => (zI κ chReady a ≠ 0 ∧ 1 ≤ p0 ∧ p0 ≤ 1000) ∧ ∃ σc r, gxE p0 σ9 = (σc, r) ∧ ((r = 0 ∧ x = -1) ∨ (r = 1 ∧ x = σc.1 70))) (fun c => (c = 2 ∧ zI κ chReady a ≠ 0 ∧ ¬ (1 ≤ p0 ∧ p0 ≤ 1000)) ∨ (c = 1 ∧ zI κ chReady a = 0))) := by
  have R := Ch_explore_c7 (a1 := p0) W T ρ L σ9 hr8 I (Q := fun v κ' => pX9 κ a L σ9 p0 κ' ∧ (fun x => (zI κ chReady a ≠ 0 ∧ 1 ≤ p0 ∧ p0 ≤ 1000) ∧ ∃ σc r, gxE p0 σ9 = (σc, r) ∧ ((r = 0 ∧ x = -1) ∨ (r = 1 ∧ x = σc.1 70))) v) (X := fun cls κ' => ((cls = "java/lang/IllegalArgumentException" ∧ zI κ chReady a ≠ 0 ∧ ¬ (1 ≤ p0 ∧ p0 ≤ 1000)) ∨ (cls = "java/lang/IllegalStateException" ∧ zI κ chReady a = 0)) ∧ κ' = ut κ) (fun v κ' e => ⟨⟨⟨ρ, e.1⟩, e.2.1, Or.inr ⟨e.2.2.1, e.2.2.2.1, by
    obtain ⟨σc, r, g1, g2⟩ := e.2.2.2.2
    exact ⟨σc, r, g1, g2.elim (fun y => Or.inl ⟨y.1, y.2.2⟩) (fun y => Or.inr ⟨y.1, y.2.2⟩)⟩⟩⟩, ⟨e.2.2.2.1, by
    obtain ⟨σc, r, g1, g2⟩ := e.2.2.2.2
    exact ⟨σc, r, g1, g2.elim (fun y => Or.inl ⟨y.1, y.2.1⟩) (fun y => Or.inr ⟨y.1, y.2.1⟩)⟩⟩⟩) (fun cls κ' h => h)
  refine wr_p9 (p := 4) (s := 5) (pc := 4) (idx := 27) (lo := dent [.ref a, .int p0, .ref u]) (st := [.int p0, .ref a, .int 0, .ref u]) (rest := [.int 0, .ref u]) W rfl (fun n z K => pr_explore9 K) dL_explore_4 (inv_e9 (As := [.int p0]) (rest := [.int 0, .ref u]) (j := 209) (by decide +kernel) rfl ⟨rfl, by decide, by decide, by decide⟩ rfl (Nat.le_of_ble_eq_true rfl) (Nat.le_of_ble_eq_true rfl) (Or.inl T)) R (by decide) (fun vo κ' q W' => ?_) (fun cls κ' q => ?_)
  · obtain ⟨v, rfl, hP, hq⟩ := oI_l9 q
    obtain ⟨F, Z⟩ := hP.2.1
    have z0 : zT κ' u = 0 := Z.2.2.2.1.1.2 u hn h0
    exact ⟨cO9 C u (vp_updL J 0 v.toInt64), ⟨hP, Or.inl ⟨rfl, vp_updL J 0 v.toInt64, v, if_pos rfl, if_pos rfl, hq⟩⟩, Or.inr ⟨_, rfl⟩, sx_explore9 hb z0 hu⟩
  · have hX := oI_r9 q
    obtain ⟨ec, e1⟩ := hX
    have pc := pC_r9 I
    rcases ec with ⟨rfl, e2, e3⟩ | ⟨rfl, e2⟩
    · exact ⟨e1, 2, ⟨⟨pc.1, pc.2.1, Or.inl ⟨pc.2.2, fun z => e3 z.2⟩⟩, Or.inr ⟨Or.inr (Or.inl rfl), Or.inl ⟨rfl, e2, e3⟩⟩⟩, ⟨15, by decide +kernel, Or.inl ⟨3, dL_explore_15, by decide, tl_9 rfl dL_explore_16 zi_2 dL_explore_17⟩⟩⟩
    · exact ⟨e1, 1, ⟨⟨pc.1, pc.2.1, Or.inl ⟨pc.2.2, fun z => z.1 e2⟩⟩, Or.inr ⟨Or.inl rfl, Or.inr ⟨rfl, e2⟩⟩⟩, ⟨12, by decide +kernel, Or.inl ⟨3, dL_explore_12, by decide, tl_9 rfl dL_explore_13 zi_1 dL_explore_14⟩⟩⟩
def kL_state : dM × dHH := ((yL_state, cL_state, 5, (some .int), true, 100, 4), [(0, 10, 13, 25)])
theorem dL_state_0 : decode cL_state 0 = .ok (.aload_n 3, 1) := by decide +kernel
theorem dL_state_1 : decode cL_state 1 = .ok (.iconst 0, 1) := by decide +kernel
theorem dL_state_2 : decode cL_state 2 = .ok (.aload_n 0, 1) := by decide +kernel
theorem dL_state_3 : decode cL_state 3 = .ok (.iload_n 1, 1) := by decide +kernel
theorem dL_state_4 : decode cL_state 4 = .ok (.iload_n 2, 1) := by decide +kernel
theorem dL_state_5 : decode cL_state 5 = .ok (.invokevirtual 32, 3) := by decide +kernel
theorem dL_state_8 : decode cL_state 8 = .ok (.i2l, 1) := by decide +kernel
theorem dL_state_9 : decode cL_state 9 = .ok (.lastore, 1) := by decide +kernel
theorem dL_state_10 : decode cL_state 10 = .ok (.goto 7, 3) := by decide +kernel
theorem dL_state_13 : decode cL_state 13 = .ok (.astore 4, 2) := by decide +kernel
theorem dL_state_15 : decode cL_state 15 = .ok (.iconst 1, 1) := by decide +kernel
theorem dL_state_16 : decode cL_state 16 = .ok (.ireturn, 1) := by decide +kernel
theorem dL_state_17 : decode cL_state 17 = .ok (.iconst 0, 1) := by decide +kernel
theorem dL_state_18 : decode cL_state 18 = .ok (.ireturn, 1) := by decide +kernel
theorem pr_state9 {E : dE} {X : dX} {XH : Nat → Option String} {hx : dHH} {b n d a u : Nat} {p0 : Int32} {p1 : Int32} {h : dH} {z : dZ} (K : drunC E X XH hx b n d kL_state.1 5 (dent [.ref a, .int p0, .int p1, .ref u]) [.int p1, .int p0, .ref a, .int 0, .ref u] h 0 0 = some z) : drunC E X XH hx b (n + 5) d kL_state.1 0 (dent [.ref a, .int p0, .int p1, .ref u]) [] h 0 0 = some z := by
  refine gc_p9 (w := (1, dent [.ref a, .int p0, .int p1, .ref u], [.ref u])) dL_state_0 rfl ?_
  refine gc_p9 (w := (2, dent [.ref a, .int p0, .int p1, .ref u], [.int 0, .ref u])) dL_state_1 (by rw [← zi_0]; rfl) ?_
  refine gc_p9 (w := (3, dent [.ref a, .int p0, .int p1, .ref u], [.ref a, .int 0, .ref u])) dL_state_2 rfl ?_
  refine gc_p9 (w := (4, dent [.ref a, .int p0, .int p1, .ref u], [.int p0, .ref a, .int 0, .ref u])) dL_state_3 rfl ?_
  refine gc_p9 (w := (5, dent [.ref a, .int p0, .int p1, .ref u], [.int p1, .int p0, .ref a, .int 0, .ref u])) dL_state_4 rfl ?_
  exact K
theorem sa_state9 {C : zC} {κ : zS} {u : Nat} {J : Nat → Int64} {v : Int64} {lo : dL0} (hb : yb C ≤ u) (z0 : zT κ u = 0) (hu : (yh C).2 u = some (outC9 J)) : ∀ n x y, drunC (yEn C) dXX (dKK.2.2 100) kL_state.2 (yb C) (n + 4) 15 kL_state.1 9 lo [.long v, .int 0, .ref u] (zH C κ) x y = some (some (.int 0), zH (cO9 C u (vp_updL J 0 v)) κ, x, y) := ls_9 hb z0 hu rfl dL_state_9 dL_state_10 rfl dL_state_17 dL_state_18
theorem sx_state9 {C : zC} {κ : zS} {u : Nat} {J : Nat → Int64} {v : Int32} {lo : dL0} (hb : yb C ≤ u) (z0 : zT κ u = 0) (hu : (yh C).2 u = some (outC9 J)) : ∀ n x y, drunC (yEn C) dXX (dKK.2.2 100) kL_state.2 (yb C) (n + 5) 15 kL_state.1 8 lo [.int v, .int 0, .ref u] (zH C κ) x y = some (some (.int 0), zH (cO9 C u (vp_updL J 0 v.toInt64)) κ, x, y) := fun n x y => gc_p9 (n := n + 4) (w := (9, lo, [.long v.toInt64, .int 0, .ref u])) dL_state_8 rfl (sa_state9 hb z0 hu n x y)
theorem wM_state9 {C : zC} {n0 a u : Nat} {L : Int} {ρ : Nat → Nat} {κ : zS} {J : Nat → Int64} {p0 : Int32} {p1 : Int32} (W : zW C n0 κ) (T : zT κ a = 15) (I : chI9 ρ κ a L) (σ9 : rS) (hr8 : RC8 κ a σ9) (hb : yb C ≤ u) (h0 : zT κ u = 0) (hn : u < zn κ) (hu : (yh C).2 u = some (outC9 J)) : wrP9 C κ u kL_state [.ref a, .int p0, .int p1, .ref u] (fun v C' κ' => pC9 κ a L κ' ∧ cAw u C' v (fun x => sc8 σ9 p0 p1 ∧ x = sv8 σ9 p0 p1) (fun c => c = 1 ∧ ¬ sc8 σ9 p0 p1)) := by
  have R := Ch_state_c8 (a1 := p0) (a2 := p1) W T ρ L σ9 hr8 I (Q := fun v κ' => pC9 κ a L κ' ∧ (fun x => sc8 σ9 p0 p1 ∧ x = sv8 σ9 p0 p1) v) (X := fun cls κ' => cls = "java/lang/IndexOutOfBoundsException" ∧ κ' = ut κ ∧ ¬ sc8 σ9 p0 p1) (fun v κ' e => ⟨by rw [← e.1]; exact pC_r9 I, e.2⟩) (fun cls κ' h => h)
  refine wr_p9 (p := 5) (s := 5) (pc := 5) (idx := 32) (lo := dent [.ref a, .int p0, .int p1, .ref u]) (st := [.int p1, .int p0, .ref a, .int 0, .ref u]) (rest := [.int 0, .ref u]) W rfl (fun n z K => pr_state9 K) dL_state_5 (inv_e9 (As := [.int p0, .int p1]) (rest := [.int 0, .ref u]) (j := 210) (by decide +kernel) rfl ⟨rfl, by decide, by decide, by decide⟩ rfl (Nat.le_of_ble_eq_true rfl) (Nat.le_of_ble_eq_true rfl) (Or.inl T)) R (by decide) (fun vo κ' q W' => ?_) (fun cls κ' q => ?_)
  · obtain ⟨v, rfl, hP, hq⟩ := oI_l9 q
    obtain ⟨F, Z⟩ := hP.2.1
    have z0 : zT κ' u = 0 := Z.2.2.2.1.1.2 u hn h0
    exact ⟨cO9 C u (vp_updL J 0 v.toInt64), ⟨hP, Or.inl ⟨rfl, vp_updL J 0 v.toInt64, v, if_pos rfl, if_pos rfl, hq⟩⟩, Or.inr ⟨_, rfl⟩, sx_state9 hb z0 hu⟩
  · have hX := oI_r9 q
    obtain ⟨rfl, e1, e2⟩ := hX
    exact ⟨e1, 1, ⟨pC_r9 I, Or.inr ⟨Or.inl rfl, rfl, e2⟩⟩, ⟨13, by decide +kernel, Or.inr ⟨4, dL_state_13, by decide, tl_9 rfl dL_state_15 zi_1 dL_state_16⟩⟩⟩
def kL_value : dM × dHH := ((yL_value, cL_value, 6, (some .int), true, 100, 5), [(0, 12, 15, 25)])
theorem dL_value_0 : decode cL_value 0 = .ok (.aload 4, 2) := by decide +kernel
theorem dL_value_2 : decode cL_value 2 = .ok (.iconst 0, 1) := by decide +kernel
theorem dL_value_3 : decode cL_value 3 = .ok (.aload_n 0, 1) := by decide +kernel
theorem dL_value_4 : decode cL_value 4 = .ok (.iload_n 1, 1) := by decide +kernel
theorem dL_value_5 : decode cL_value 5 = .ok (.iload_n 2, 1) := by decide +kernel
theorem dL_value_6 : decode cL_value 6 = .ok (.iload_n 3, 1) := by decide +kernel
theorem dL_value_7 : decode cL_value 7 = .ok (.invokevirtual 36, 3) := by decide +kernel
theorem dL_value_10 : decode cL_value 10 = .ok (.i2l, 1) := by decide +kernel
theorem dL_value_11 : decode cL_value 11 = .ok (.lastore, 1) := by decide +kernel
theorem dL_value_12 : decode cL_value 12 = .ok (.goto 7, 3) := by decide +kernel
theorem dL_value_15 : decode cL_value 15 = .ok (.astore 5, 2) := by decide +kernel
theorem dL_value_17 : decode cL_value 17 = .ok (.iconst 1, 1) := by decide +kernel
theorem dL_value_18 : decode cL_value 18 = .ok (.ireturn, 1) := by decide +kernel
theorem dL_value_19 : decode cL_value 19 = .ok (.iconst 0, 1) := by decide +kernel
theorem dL_value_20 : decode cL_value 20 = .ok (.ireturn, 1) := by decide +kernel
theorem pr_value9 {E : dE} {X : dX} {XH : Nat → Option String} {hx : dHH} {b n d a u : Nat} {p0 : Int32} {p1 : Int32} {p2 : Int32} {h : dH} {z : dZ} (K : drunC E X XH hx b n d kL_value.1 7 (dent [.ref a, .int p0, .int p1, .int p2, .ref u]) [.int p2, .int p1, .int p0, .ref a, .int 0, .ref u] h 0 0 = some z) : drunC E X XH hx b (n + 6) d kL_value.1 0 (dent [.ref a, .int p0, .int p1, .int p2, .ref u]) [] h 0 0 = some z := by
  refine gc_p9 (w := (2, dent [.ref a, .int p0, .int p1, .int p2, .ref u], [.ref u])) dL_value_0 rfl ?_
  refine gc_p9 (w := (3, dent [.ref a, .int p0, .int p1, .int p2, .ref u], [.int 0, .ref u])) dL_value_2 (by rw [← zi_0]; rfl) ?_
  refine gc_p9 (w := (4, dent [.ref a, .int p0, .int p1, .int p2, .ref u], [.ref a, .int 0, .ref u])) dL_value_3 rfl ?_
  refine gc_p9 (w := (5, dent [.ref a, .int p0, .int p1, .int p2, .ref u], [.int p0, .ref a, .int 0, .ref u])) dL_value_4 rfl ?_
  refine gc_p9 (w := (6, dent [.ref a, .int p0, .int p1, .int p2, .ref u], [.int p1, .int p0, .ref a, .int 0, .ref u])) dL_value_5 rfl ?_
  refine gc_p9 (w := (7, dent [.ref a, .int p0, .int p1, .int p2, .ref u], [.int p2, .int p1, .int p0, .ref a, .int 0, .ref u])) dL_value_6 rfl ?_
  exact K
theorem sa_value9 {C : zC} {κ : zS} {u : Nat} {J : Nat → Int64} {v : Int64} {lo : dL0} (hb : yb C ≤ u) (z0 : zT κ u = 0) (hu : (yh C).2 u = some (outC9 J)) : ∀ n x y, drunC (yEn C) dXX (dKK.2.2 100) kL_value.2 (yb C) (n + 4) 15 kL_value.1 11 lo [.long v, .int 0, .ref u] (zH C κ) x y = some (some (.int 0), zH (cO9 C u (vp_updL J 0 v)) κ, x, y) := ls_9 hb z0 hu rfl dL_value_11 dL_value_12 rfl dL_value_19 dL_value_20
theorem sx_value9 {C : zC} {κ : zS} {u : Nat} {J : Nat → Int64} {v : Int32} {lo : dL0} (hb : yb C ≤ u) (z0 : zT κ u = 0) (hu : (yh C).2 u = some (outC9 J)) : ∀ n x y, drunC (yEn C) dXX (dKK.2.2 100) kL_value.2 (yb C) (n + 5) 15 kL_value.1 10 lo [.int v, .int 0, .ref u] (zH C κ) x y = some (some (.int 0), zH (cO9 C u (vp_updL J 0 v.toInt64)) κ, x, y) := fun n x y => gc_p9 (n := n + 4) (w := (11, lo, [.long v.toInt64, .int 0, .ref u])) dL_value_10 rfl (sa_value9 hb z0 hu n x y)
theorem wM_value9 {C : zC} {n0 a u : Nat} {L : Int} {ρ : Nat → Nat} {κ : zS} {J : Nat → Int64} {p0 : Int32} {p1 : Int32} {p2 : Int32} (W : zW C n0 κ) (T : zT κ a = 15) (I : chI9 ρ κ a L) (σ9 : rS) (hr8 : RC8 κ a σ9) (hb : yb C ≤ u) (h0 : zT κ u = 0) (hn : u < zn κ) (hu : (yh C).2 u = some (outC9 J)) : wrP9 C κ u kL_value [.ref a, .int p0, .int p1, .int p2, .ref u] (fun v C' κ' => pC9 κ a L κ' ∧ cAw u C' v (fun x => vc8 σ9 p0 p1 p2 ∧ x = vv8 σ9 p0 p1 p2) (fun c => c = 1 ∧ ¬ vc8 σ9 p0 p1 p2)) := by
  have R := Ch_value_c8 (a1 := p0) (a2 := p1) (a3 := p2) W T ρ L σ9 hr8 I (Q := fun v κ' => pC9 κ a L κ' ∧ (fun x => vc8 σ9 p0 p1 p2 ∧ x = vv8 σ9 p0 p1 p2) v) (X := fun cls κ' => cls = "java/lang/IndexOutOfBoundsException" ∧ κ' = ut κ ∧ ¬ vc8 σ9 p0 p1 p2) (fun v κ' e => ⟨by rw [← e.1]; exact pC_r9 I, e.2⟩) (fun cls κ' h => h)
  refine wr_p9 (p := 6) (s := 5) (pc := 7) (idx := 36) (lo := dent [.ref a, .int p0, .int p1, .int p2, .ref u]) (st := [.int p2, .int p1, .int p0, .ref a, .int 0, .ref u]) (rest := [.int 0, .ref u]) W rfl (fun n z K => pr_value9 K) dL_value_7 (inv_e9 (As := [.int p0, .int p1, .int p2]) (rest := [.int 0, .ref u]) (j := 211) (by decide +kernel) rfl ⟨rfl, by decide, by decide, by decide⟩ rfl (Nat.le_of_ble_eq_true rfl) (Nat.le_of_ble_eq_true rfl) (Or.inl T)) R (by decide) (fun vo κ' q W' => ?_) (fun cls κ' q => ?_)
  · obtain ⟨v, rfl, hP, hq⟩ := oI_l9 q
    obtain ⟨F, Z⟩ := hP.2.1
    have z0 : zT κ' u = 0 := Z.2.2.2.1.1.2 u hn h0
    exact ⟨cO9 C u (vp_updL J 0 v.toInt64), ⟨hP, Or.inl ⟨rfl, vp_updL J 0 v.toInt64, v, if_pos rfl, if_pos rfl, hq⟩⟩, Or.inr ⟨_, rfl⟩, sx_value9 hb z0 hu⟩
  · have hX := oI_r9 q
    obtain ⟨rfl, e1, e2⟩ := hX
    exact ⟨e1, 1, ⟨pC_r9 I, Or.inr ⟨Or.inl rfl, rfl, e2⟩⟩, ⟨15, by decide +kernel, Or.inr ⟨5, dL_value_15, by decide, tl_9 rfl dL_value_17 zi_1 dL_value_18⟩⟩⟩
def kL_next : dM × dHH := ((yL_next, cL_next, 6, (some .int), true, 100, 5), [(0, 12, 15, 25)])
theorem dL_next_0 : decode cL_next 0 = .ok (.aload 4, 2) := by decide +kernel
theorem dL_next_2 : decode cL_next 2 = .ok (.iconst 0, 1) := by decide +kernel
theorem dL_next_3 : decode cL_next 3 = .ok (.aload_n 0, 1) := by decide +kernel
theorem dL_next_4 : decode cL_next 4 = .ok (.iload_n 1, 1) := by decide +kernel
theorem dL_next_5 : decode cL_next 5 = .ok (.iload_n 2, 1) := by decide +kernel
theorem dL_next_6 : decode cL_next 6 = .ok (.iload_n 3, 1) := by decide +kernel
theorem dL_next_7 : decode cL_next 7 = .ok (.invokevirtual 40, 3) := by decide +kernel
theorem dL_next_10 : decode cL_next 10 = .ok (.i2l, 1) := by decide +kernel
theorem dL_next_11 : decode cL_next 11 = .ok (.lastore, 1) := by decide +kernel
theorem dL_next_12 : decode cL_next 12 = .ok (.goto 7, 3) := by decide +kernel
theorem dL_next_15 : decode cL_next 15 = .ok (.astore 5, 2) := by decide +kernel
theorem dL_next_17 : decode cL_next 17 = .ok (.iconst 1, 1) := by decide +kernel
theorem dL_next_18 : decode cL_next 18 = .ok (.ireturn, 1) := by decide +kernel
theorem dL_next_19 : decode cL_next 19 = .ok (.iconst 0, 1) := by decide +kernel
theorem dL_next_20 : decode cL_next 20 = .ok (.ireturn, 1) := by decide +kernel
theorem pr_next9 {E : dE} {X : dX} {XH : Nat → Option String} {hx : dHH} {b n d a u : Nat} {p0 : Int32} {p1 : Int32} {p2 : Int32} {h : dH} {z : dZ} (K : drunC E X XH hx b n d kL_next.1 7 (dent [.ref a, .int p0, .int p1, .int p2, .ref u]) [.int p2, .int p1, .int p0, .ref a, .int 0, .ref u] h 0 0 = some z) : drunC E X XH hx b (n + 6) d kL_next.1 0 (dent [.ref a, .int p0, .int p1, .int p2, .ref u]) [] h 0 0 = some z := by
  refine gc_p9 (w := (2, dent [.ref a, .int p0, .int p1, .int p2, .ref u], [.ref u])) dL_next_0 rfl ?_
  refine gc_p9 (w := (3, dent [.ref a, .int p0, .int p1, .int p2, .ref u], [.int 0, .ref u])) dL_next_2 (by rw [← zi_0]; rfl) ?_
  refine gc_p9 (w := (4, dent [.ref a, .int p0, .int p1, .int p2, .ref u], [.ref a, .int 0, .ref u])) dL_next_3 rfl ?_
  refine gc_p9 (w := (5, dent [.ref a, .int p0, .int p1, .int p2, .ref u], [.int p0, .ref a, .int 0, .ref u])) dL_next_4 rfl ?_
  refine gc_p9 (w := (6, dent [.ref a, .int p0, .int p1, .int p2, .ref u], [.int p1, .int p0, .ref a, .int 0, .ref u])) dL_next_5 rfl ?_
  refine gc_p9 (w := (7, dent [.ref a, .int p0, .int p1, .int p2, .ref u], [.int p2, .int p1, .int p0, .ref a, .int 0, .ref u])) dL_next_6 rfl ?_
  exact K
theorem sa_next9 {C : zC} {κ : zS} {u : Nat} {J : Nat → Int64} {v : Int64} {lo : dL0} (hb : yb C ≤ u) (z0 : zT κ u = 0) (hu : (yh C).2 u = some (outC9 J)) : ∀ n x y, drunC (yEn C) dXX (dKK.2.2 100) kL_next.2 (yb C) (n + 4) 15 kL_next.1 11 lo [.long v, .int 0, .ref u] (zH C κ) x y = some (some (.int 0), zH (cO9 C u (vp_updL J 0 v)) κ, x, y) := ls_9 hb z0 hu rfl dL_next_11 dL_next_12 rfl dL_next_19 dL_next_20
theorem sx_next9 {C : zC} {κ : zS} {u : Nat} {J : Nat → Int64} {v : Int32} {lo : dL0} (hb : yb C ≤ u) (z0 : zT κ u = 0) (hu : (yh C).2 u = some (outC9 J)) : ∀ n x y, drunC (yEn C) dXX (dKK.2.2 100) kL_next.2 (yb C) (n + 5) 15 kL_next.1 10 lo [.int v, .int 0, .ref u] (zH C κ) x y = some (some (.int 0), zH (cO9 C u (vp_updL J 0 v.toInt64)) κ, x, y) := fun n x y => gc_p9 (n := n + 4) (w := (11, lo, [.long v.toInt64, .int 0, .ref u])) dL_next_10 rfl (sa_next9 hb z0 hu n x y)
theorem wM_next9 {C : zC} {n0 a u : Nat} {L : Int} {ρ : Nat → Nat} {κ : zS} {J : Nat → Int64} {p0 : Int32} {p1 : Int32} {p2 : Int32} (W : zW C n0 κ) (T : zT κ a = 15) (I : chI9 ρ κ a L) (σ9 : rS) (hr8 : RC8 κ a σ9) (hb : yb C ≤ u) (h0 : zT κ u = 0) (hn : u < zn κ) (hu : (yh C).2 u = some (outC9 J)) : wrP9 C κ u kL_next [.ref a, .int p0, .int p1, .int p2, .ref u] (fun v C' κ' => pC9 κ a L κ' ∧ cAw u C' v (fun x => nc8 σ9 p0 p1 p2 ∧ x = nv8 σ9 p0 p1 p2) (fun c => c = 1 ∧ ¬ nc8 σ9 p0 p1 p2)) := by
  have R := Ch_next_c8 (a1 := p0) (a2 := p1) (a3 := p2) W T ρ L σ9 hr8 I (Q := fun v κ' => pC9 κ a L κ' ∧ (fun x => nc8 σ9 p0 p1 p2 ∧ x = nv8 σ9 p0 p1 p2) v) (X := fun cls κ' => cls = "java/lang/IndexOutOfBoundsException" ∧ κ' = ut κ ∧ ¬ nc8 σ9 p0 p1 p2) (fun v κ' e => ⟨by rw [← e.1]; exact pC_r9 I, e.2⟩) (fun cls κ' h => h)
  refine wr_p9 (p := 6) (s := 5) (pc := 7) (idx := 40) (lo := dent [.ref a, .int p0, .int p1, .int p2, .ref u]) (st := [.int p2, .int p1, .int p0, .ref a, .int 0, .ref u]) (rest := [.int 0, .ref u]) W rfl (fun n z K => pr_next9 K) dL_next_7 (inv_e9 (As := [.int p0, .int p1, .int p2]) (rest := [.int 0, .ref u]) (j := 212) (by decide +kernel) rfl ⟨rfl, by decide, by decide, by decide⟩ rfl (Nat.le_of_ble_eq_true rfl) (Nat.le_of_ble_eq_true rfl) (Or.inl T)) R (by decide) (fun vo κ' q W' => ?_) (fun cls κ' q => ?_)
  · obtain ⟨v, rfl, hP, hq⟩ := oI_l9 q
    obtain ⟨F, Z⟩ := hP.2.1
    have z0 : zT κ' u = 0 := Z.2.2.2.1.1.2 u hn h0
    exact ⟨cO9 C u (vp_updL J 0 v.toInt64), ⟨hP, Or.inl ⟨rfl, vp_updL J 0 v.toInt64, v, if_pos rfl, if_pos rfl, hq⟩⟩, Or.inr ⟨_, rfl⟩, sx_next9 hb z0 hu⟩
  · have hX := oI_r9 q
    obtain ⟨rfl, e1, e2⟩ := hX
    exact ⟨e1, 1, ⟨pC_r9 I, Or.inr ⟨Or.inl rfl, rfl, e2⟩⟩, ⟨15, by decide +kernel, Or.inr ⟨5, dL_next_15, by decide, tl_9 rfl dL_next_17 zi_1 dL_next_18⟩⟩⟩
def kL_ending : dM × dHH := ((yL_ending, cL_ending, 5, (some .int), true, 100, 4), [(0, 10, 13, 25)])
theorem dL_ending_0 : decode cL_ending 0 = .ok (.aload_n 3, 1) := by decide +kernel
theorem dL_ending_1 : decode cL_ending 1 = .ok (.iconst 0, 1) := by decide +kernel
theorem dL_ending_2 : decode cL_ending 2 = .ok (.aload_n 0, 1) := by decide +kernel
theorem dL_ending_3 : decode cL_ending 3 = .ok (.iload_n 1, 1) := by decide +kernel
theorem dL_ending_4 : decode cL_ending 4 = .ok (.iload_n 2, 1) := by decide +kernel
theorem dL_ending_5 : decode cL_ending 5 = .ok (.invokevirtual 43, 3) := by decide +kernel
theorem dL_ending_8 : decode cL_ending 8 = .ok (.i2l, 1) := by decide +kernel
theorem dL_ending_9 : decode cL_ending 9 = .ok (.lastore, 1) := by decide +kernel
theorem dL_ending_10 : decode cL_ending 10 = .ok (.goto 7, 3) := by decide +kernel
theorem dL_ending_13 : decode cL_ending 13 = .ok (.astore 4, 2) := by decide +kernel
theorem dL_ending_15 : decode cL_ending 15 = .ok (.iconst 1, 1) := by decide +kernel
theorem dL_ending_16 : decode cL_ending 16 = .ok (.ireturn, 1) := by decide +kernel
theorem dL_ending_17 : decode cL_ending 17 = .ok (.iconst 0, 1) := by decide +kernel
theorem dL_ending_18 : decode cL_ending 18 = .ok (.ireturn, 1) := by decide +kernel
theorem pr_ending9 {E : dE} {X : dX} {XH : Nat → Option String} {hx : dHH} {b n d a u : Nat} {p0 : Int32} {p1 : Int32} {h : dH} {z : dZ} (K : drunC E X XH hx b n d kL_ending.1 5 (dent [.ref a, .int p0, .int p1, .ref u]) [.int p1, .int p0, .ref a, .int 0, .ref u] h 0 0 = some z) : drunC E X XH hx b (n + 5) d kL_ending.1 0 (dent [.ref a, .int p0, .int p1, .ref u]) [] h 0 0 = some z := by
  refine gc_p9 (w := (1, dent [.ref a, .int p0, .int p1, .ref u], [.ref u])) dL_ending_0 rfl ?_
  refine gc_p9 (w := (2, dent [.ref a, .int p0, .int p1, .ref u], [.int 0, .ref u])) dL_ending_1 (by rw [← zi_0]; rfl) ?_
  refine gc_p9 (w := (3, dent [.ref a, .int p0, .int p1, .ref u], [.ref a, .int 0, .ref u])) dL_ending_2 rfl ?_
  refine gc_p9 (w := (4, dent [.ref a, .int p0, .int p1, .ref u], [.int p0, .ref a, .int 0, .ref u])) dL_ending_3 rfl ?_
  refine gc_p9 (w := (5, dent [.ref a, .int p0, .int p1, .ref u], [.int p1, .int p0, .ref a, .int 0, .ref u])) dL_ending_4 rfl ?_
  exact K
theorem sa_ending9 {C : zC} {κ : zS} {u : Nat} {J : Nat → Int64} {v : Int64} {lo : dL0} (hb : yb C ≤ u) (z0 : zT κ u = 0) (hu : (yh C).2 u = some (outC9 J)) : ∀ n x y, drunC (yEn C) dXX (dKK.2.2 100) kL_ending.2 (yb C) (n + 4) 15 kL_ending.1 9 lo [.long v, .int 0, .ref u] (zH C κ) x y = some (some (.int 0), zH (cO9 C u (vp_updL J 0 v)) κ, x, y) := ls_9 hb z0 hu rfl dL_ending_9 dL_ending_10 rfl dL_ending_17 dL_ending_18
theorem sx_ending9 {C : zC} {κ : zS} {u : Nat} {J : Nat → Int64} {v : Int32} {lo : dL0} (hb : yb C ≤ u) (z0 : zT κ u = 0) (hu : (yh C).2 u = some (outC9 J)) : ∀ n x y, drunC (yEn C) dXX (dKK.2.2 100) kL_ending.2 (yb C) (n + 5) 15 kL_ending.1 8 lo [.int v, .int 0, .ref u] (zH C κ) x y = some (some (.int 0), zH (cO9 C u (vp_updL J 0 v.toInt64)) κ, x, y) := fun n x y => gc_p9 (n := n + 4) (w := (9, lo, [.long v.toInt64, .int 0, .ref u])) dL_ending_8 rfl (sa_ending9 hb z0 hu n x y)
theorem wM_ending9 {C : zC} {n0 a u : Nat} {L : Int} {ρ : Nat → Nat} {κ : zS} {J : Nat → Int64} {p0 : Int32} {p1 : Int32} (W : zW C n0 κ) (T : zT κ a = 15) (I : chI9 ρ κ a L) (σ9 : rS) (hr8 : RC8 κ a σ9) (hb : yb C ≤ u) (h0 : zT κ u = 0) (hn : u < zn κ) (hu : (yh C).2 u = some (outC9 J)) : wrP9 C κ u kL_ending [.ref a, .int p0, .int p1, .ref u] (fun v C' κ' => pC9 κ a L κ' ∧ cAw u C' v (fun x => ec8 σ9 p0 p1 ∧ x = ev8 σ9 p0 p1) (fun c => c = 1 ∧ ¬ ec8 σ9 p0 p1)) := by
  have R := Ch_ending_c8 (a1 := p0) (a2 := p1) W T ρ L σ9 hr8 I (Q := fun v κ' => pC9 κ a L κ' ∧ (fun x => ec8 σ9 p0 p1 ∧ x = ev8 σ9 p0 p1) v) (X := fun cls κ' => cls = "java/lang/IndexOutOfBoundsException" ∧ κ' = ut κ ∧ ¬ ec8 σ9 p0 p1) (fun v κ' e => ⟨by rw [← e.1]; exact pC_r9 I, e.2⟩) (fun cls κ' h => h)
  refine wr_p9 (p := 5) (s := 5) (pc := 5) (idx := 43) (lo := dent [.ref a, .int p0, .int p1, .ref u]) (st := [.int p1, .int p0, .ref a, .int 0, .ref u]) (rest := [.int 0, .ref u]) W rfl (fun n z K => pr_ending9 K) dL_ending_5 (inv_e9 (As := [.int p0, .int p1]) (rest := [.int 0, .ref u]) (j := 213) (by decide +kernel) rfl ⟨rfl, by decide, by decide, by decide⟩ rfl (Nat.le_of_ble_eq_true rfl) (Nat.le_of_ble_eq_true rfl) (Or.inl T)) R (by decide) (fun vo κ' q W' => ?_) (fun cls κ' q => ?_)
  · obtain ⟨v, rfl, hP, hq⟩ := oI_l9 q
    obtain ⟨F, Z⟩ := hP.2.1
    have z0 : zT κ' u = 0 := Z.2.2.2.1.1.2 u hn h0
    exact ⟨cO9 C u (vp_updL J 0 v.toInt64), ⟨hP, Or.inl ⟨rfl, vp_updL J 0 v.toInt64, v, if_pos rfl, if_pos rfl, hq⟩⟩, Or.inr ⟨_, rfl⟩, sx_ending9 hb z0 hu⟩
  · have hX := oI_r9 q
    obtain ⟨rfl, e1, e2⟩ := hX
    exact ⟨e1, 1, ⟨pC_r9 I, Or.inr ⟨Or.inl rfl, rfl, e2⟩⟩, ⟨13, by decide +kernel, Or.inr ⟨4, dL_ending_13, by decide, tl_9 rfl dL_ending_15 zi_1 dL_ending_16⟩⟩⟩
def kL_decide : dM × dHH := ((yL_decide, cL_decide, 5, (some .int), true, 100, 4), [(0, 10, 13, 25)])
theorem dL_decide_0 : decode cL_decide 0 = .ok (.aload_n 3, 1) := by decide +kernel
theorem dL_decide_1 : decode cL_decide 1 = .ok (.iconst 0, 1) := by decide +kernel
theorem dL_decide_2 : decode cL_decide 2 = .ok (.aload_n 0, 1) := by decide +kernel
theorem dL_decide_3 : decode cL_decide 3 = .ok (.iload_n 1, 1) := by decide +kernel
theorem dL_decide_4 : decode cL_decide 4 = .ok (.iload_n 2, 1) := by decide +kernel
theorem dL_decide_5 : decode cL_decide 5 = .ok (.invokevirtual 46, 3) := by decide +kernel
theorem dL_decide_8 : decode cL_decide 8 = .ok (.i2l, 1) := by decide +kernel
theorem dL_decide_9 : decode cL_decide 9 = .ok (.lastore, 1) := by decide +kernel
theorem dL_decide_10 : decode cL_decide 10 = .ok (.goto 7, 3) := by decide +kernel
theorem dL_decide_13 : decode cL_decide 13 = .ok (.astore 4, 2) := by decide +kernel
theorem dL_decide_15 : decode cL_decide 15 = .ok (.iconst 1, 1) := by decide +kernel
theorem dL_decide_16 : decode cL_decide 16 = .ok (.ireturn, 1) := by decide +kernel
theorem dL_decide_17 : decode cL_decide 17 = .ok (.iconst 0, 1) := by decide +kernel
theorem dL_decide_18 : decode cL_decide 18 = .ok (.ireturn, 1) := by decide +kernel
theorem pr_decide9 {E : dE} {X : dX} {XH : Nat → Option String} {hx : dHH} {b n d a u : Nat} {p0 : Int32} {p1 : Int32} {h : dH} {z : dZ} (K : drunC E X XH hx b n d kL_decide.1 5 (dent [.ref a, .int p0, .int p1, .ref u]) [.int p1, .int p0, .ref a, .int 0, .ref u] h 0 0 = some z) : drunC E X XH hx b (n + 5) d kL_decide.1 0 (dent [.ref a, .int p0, .int p1, .ref u]) [] h 0 0 = some z := by
  refine gc_p9 (w := (1, dent [.ref a, .int p0, .int p1, .ref u], [.ref u])) dL_decide_0 rfl ?_
  refine gc_p9 (w := (2, dent [.ref a, .int p0, .int p1, .ref u], [.int 0, .ref u])) dL_decide_1 (by rw [← zi_0]; rfl) ?_
  refine gc_p9 (w := (3, dent [.ref a, .int p0, .int p1, .ref u], [.ref a, .int 0, .ref u])) dL_decide_2 rfl ?_
  refine gc_p9 (w := (4, dent [.ref a, .int p0, .int p1, .ref u], [.int p0, .ref a, .int 0, .ref u])) dL_decide_3 rfl ?_
  refine gc_p9 (w := (5, dent [.ref a, .int p0, .int p1, .ref u], [.int p1, .int p0, .ref a, .int 0, .ref u])) dL_decide_4 rfl ?_
  exact K
theorem sa_decide9 {C : zC} {κ : zS} {u : Nat} {J : Nat → Int64} {v : Int64} {lo : dL0} (hb : yb C ≤ u) (z0 : zT κ u = 0) (hu : (yh C).2 u = some (outC9 J)) : ∀ n x y, drunC (yEn C) dXX (dKK.2.2 100) kL_decide.2 (yb C) (n + 4) 15 kL_decide.1 9 lo [.long v, .int 0, .ref u] (zH C κ) x y = some (some (.int 0), zH (cO9 C u (vp_updL J 0 v)) κ, x, y) := ls_9 hb z0 hu rfl dL_decide_9 dL_decide_10 rfl dL_decide_17 dL_decide_18
theorem sx_decide9 {C : zC} {κ : zS} {u : Nat} {J : Nat → Int64} {v : Int32} {lo : dL0} (hb : yb C ≤ u) (z0 : zT κ u = 0) (hu : (yh C).2 u = some (outC9 J)) : ∀ n x y, drunC (yEn C) dXX (dKK.2.2 100) kL_decide.2 (yb C) (n + 5) 15 kL_decide.1 8 lo [.int v, .int 0, .ref u] (zH C κ) x y = some (some (.int 0), zH (cO9 C u (vp_updL J 0 v.toInt64)) κ, x, y) := fun n x y => gc_p9 (n := n + 4) (w := (9, lo, [.long v.toInt64, .int 0, .ref u])) dL_decide_8 rfl (sa_decide9 hb z0 hu n x y)
theorem wM_decide9 {C : zC} {n0 a u : Nat} {L : Int} {ρ : Nat → Nat} {κ : zS} {J : Nat → Int64} {p0 : Int32} {p1 : Int32} (W : zW C n0 κ) (T : zT κ a = 15) (I : chI9 ρ κ a L) (σ9 : rS) (hr8 : RC8 κ a σ9) (hb : yb C ≤ u) (h0 : zT κ u = 0) (hn : u < zn κ) (hu : (yh C).2 u = some (outC9 J)) : wrP9 C κ u kL_decide [.ref a, .int p0, .int p1, .ref u] (fun v C' κ' => pU9 κ a L σ9 p0 p1 κ' ∧ cAw u C' v (fun x => dc8 σ9 p0 p1 ∧ x = dv8 σ9 p0 p1) (fun c => c = 1 ∧ ¬ dc8 σ9 p0 p1)) := by
  have R := Ch_decide_c8 (a1 := p0) (a2 := p1) W T ρ L σ9 hr8 I (Q := fun v κ' => pU9 κ a L σ9 p0 p1 κ' ∧ (fun x => dc8 σ9 p0 p1 ∧ x = dv8 σ9 p0 p1) v) (X := fun cls κ' => cls = "java/lang/IndexOutOfBoundsException" ∧ κ' = ut κ ∧ ¬ dc8 σ9 p0 p1) (fun v κ' e => ⟨⟨⟨ρ, e.1.1⟩, e.1.2⟩, e.2⟩) (fun cls κ' h => h)
  refine wr_p9 (p := 5) (s := 5) (pc := 5) (idx := 46) (lo := dent [.ref a, .int p0, .int p1, .ref u]) (st := [.int p1, .int p0, .ref a, .int 0, .ref u]) (rest := [.int 0, .ref u]) W rfl (fun n z K => pr_decide9 K) dL_decide_5 (inv_e9 (As := [.int p0, .int p1]) (rest := [.int 0, .ref u]) (j := 214) (by decide +kernel) rfl ⟨rfl, by decide, by decide, by decide⟩ rfl (Nat.le_of_ble_eq_true rfl) (Nat.le_of_ble_eq_true rfl) (Or.inl T)) R (by decide) (fun vo κ' q W' => ?_) (fun cls κ' q => ?_)
  · obtain ⟨v, rfl, hP, hq⟩ := oI_l9 q
    obtain ⟨F, Z⟩ := hP.2.1
    have z0 : zT κ' u = 0 := Z.2.2.2.1.1.2 u hn h0
    exact ⟨cO9 C u (vp_updL J 0 v.toInt64), ⟨hP, Or.inl ⟨rfl, vp_updL J 0 v.toInt64, v, if_pos rfl, if_pos rfl, hq⟩⟩, Or.inr ⟨_, rfl⟩, sx_decide9 hb z0 hu⟩
  · have hX := oI_r9 q
    obtain ⟨rfl, e1, e2⟩ := hX
    exact ⟨e1, 1, ⟨⟨⟨ρ, I⟩, ⟨fun _ _ => False, zF.rf⟩, ⟨⟨rfl, rfl, rfl, rfl, rfl⟩, rfl, rfl, rfl, rfl⟩, fun z => absurd z e2, fun _ => rfl, dD_r16 e2⟩, Or.inr ⟨Or.inl rfl, rfl, e2⟩⟩, ⟨13, by decide +kernel, Or.inr ⟨4, dL_decide_13, by decide, tl_9 rfl dL_decide_15 zi_1 dL_decide_16⟩⟩⟩
def kL_decided : dM × dHH := ((yL_decided, cL_decided, 4, (some .int), true, 100, 3), [(0, 9, 12, 25)])
theorem dL_decided_0 : decode cL_decided 0 = .ok (.aload_n 2, 1) := by decide +kernel
theorem dL_decided_1 : decode cL_decided 1 = .ok (.iconst 0, 1) := by decide +kernel
theorem dL_decided_2 : decode cL_decided 2 = .ok (.aload_n 0, 1) := by decide +kernel
theorem dL_decided_3 : decode cL_decided 3 = .ok (.iload_n 1, 1) := by decide +kernel
theorem dL_decided_4 : decode cL_decided 4 = .ok (.invokevirtual 49, 3) := by decide +kernel
theorem dL_decided_7 : decode cL_decided 7 = .ok (.i2l, 1) := by decide +kernel
theorem dL_decided_8 : decode cL_decided 8 = .ok (.lastore, 1) := by decide +kernel
theorem dL_decided_9 : decode cL_decided 9 = .ok (.goto 6, 3) := by decide +kernel
theorem dL_decided_12 : decode cL_decided 12 = .ok (.astore_n 3, 1) := by decide +kernel
theorem dL_decided_13 : decode cL_decided 13 = .ok (.iconst 1, 1) := by decide +kernel
theorem dL_decided_14 : decode cL_decided 14 = .ok (.ireturn, 1) := by decide +kernel
theorem dL_decided_15 : decode cL_decided 15 = .ok (.iconst 0, 1) := by decide +kernel
theorem dL_decided_16 : decode cL_decided 16 = .ok (.ireturn, 1) := by decide +kernel
theorem pr_decided9 {E : dE} {X : dX} {XH : Nat → Option String} {hx : dHH} {b n d a u : Nat} {p0 : Int32} {h : dH} {z : dZ} (K : drunC E X XH hx b n d kL_decided.1 4 (dent [.ref a, .int p0, .ref u]) [.int p0, .ref a, .int 0, .ref u] h 0 0 = some z) : drunC E X XH hx b (n + 4) d kL_decided.1 0 (dent [.ref a, .int p0, .ref u]) [] h 0 0 = some z := by
  refine gc_p9 (w := (1, dent [.ref a, .int p0, .ref u], [.ref u])) dL_decided_0 rfl ?_
  refine gc_p9 (w := (2, dent [.ref a, .int p0, .ref u], [.int 0, .ref u])) dL_decided_1 (by rw [← zi_0]; rfl) ?_
  refine gc_p9 (w := (3, dent [.ref a, .int p0, .ref u], [.ref a, .int 0, .ref u])) dL_decided_2 rfl ?_
  refine gc_p9 (w := (4, dent [.ref a, .int p0, .ref u], [.int p0, .ref a, .int 0, .ref u])) dL_decided_3 rfl ?_
  exact K
theorem sa_decided9 {C : zC} {κ : zS} {u : Nat} {J : Nat → Int64} {v : Int64} {lo : dL0} (hb : yb C ≤ u) (z0 : zT κ u = 0) (hu : (yh C).2 u = some (outC9 J)) : ∀ n x y, drunC (yEn C) dXX (dKK.2.2 100) kL_decided.2 (yb C) (n + 4) 15 kL_decided.1 8 lo [.long v, .int 0, .ref u] (zH C κ) x y = some (some (.int 0), zH (cO9 C u (vp_updL J 0 v)) κ, x, y) := ls_9 hb z0 hu rfl dL_decided_8 dL_decided_9 rfl dL_decided_15 dL_decided_16
theorem sx_decided9 {C : zC} {κ : zS} {u : Nat} {J : Nat → Int64} {v : Int32} {lo : dL0} (hb : yb C ≤ u) (z0 : zT κ u = 0) (hu : (yh C).2 u = some (outC9 J)) : ∀ n x y, drunC (yEn C) dXX (dKK.2.2 100) kL_decided.2 (yb C) (n + 5) 15 kL_decided.1 7 lo [.int v, .int 0, .ref u] (zH C κ) x y = some (some (.int 0), zH (cO9 C u (vp_updL J 0 v.toInt64)) κ, x, y) := fun n x y => gc_p9 (n := n + 4) (w := (8, lo, [.long v.toInt64, .int 0, .ref u])) dL_decided_7 rfl (sa_decided9 hb z0 hu n x y)
theorem wM_decided9 {C : zC} {n0 a u : Nat} {L : Int} {ρ : Nat → Nat} {κ : zS} {J : Nat → Int64} {p0 : Int32} (W : zW C n0 κ) (T : zT κ a = 15) (I : chI9 ρ κ a L) (σ9 : rS) (hr8 : RC8 κ a σ9) (hb : yb C ≤ u) (h0 : zT κ u = 0) (hn : u < zn κ) (hu : (yh C).2 u = some (outC9 J)) : wrP9 C κ u kL_decided [.ref a, .int p0, .ref u] (fun v C' κ' => pC9 κ a L κ' ∧ cAw u C' v (fun x => gc8 σ9 p0 ∧ x = gv8 σ9 p0) (fun c => c = 1 ∧ ¬ gc8 σ9 p0)) := by
  have R := Ch_decided_c8 (a1 := p0) W T ρ L σ9 hr8 I (Q := fun v κ' => pC9 κ a L κ' ∧ (fun x => gc8 σ9 p0 ∧ x = gv8 σ9 p0) v) (X := fun cls κ' => cls = "java/lang/IndexOutOfBoundsException" ∧ κ' = ut κ ∧ ¬ gc8 σ9 p0) (fun v κ' e => ⟨by rw [← e.1]; exact pC_r9 I, e.2⟩) (fun cls κ' h => h)
  refine wr_p9 (p := 4) (s := 5) (pc := 4) (idx := 49) (lo := dent [.ref a, .int p0, .ref u]) (st := [.int p0, .ref a, .int 0, .ref u]) (rest := [.int 0, .ref u]) W rfl (fun n z K => pr_decided9 K) dL_decided_4 (inv_e9 (As := [.int p0]) (rest := [.int 0, .ref u]) (j := 215) (by decide +kernel) rfl ⟨rfl, by decide, by decide, by decide⟩ rfl (Nat.le_of_ble_eq_true rfl) (Nat.le_of_ble_eq_true rfl) (Or.inl T)) R (by decide) (fun vo κ' q W' => ?_) (fun cls κ' q => ?_)
  · obtain ⟨v, rfl, hP, hq⟩ := oI_l9 q
    obtain ⟨F, Z⟩ := hP.2.1
    have z0 : zT κ' u = 0 := Z.2.2.2.1.1.2 u hn h0
    exact ⟨cO9 C u (vp_updL J 0 v.toInt64), ⟨hP, Or.inl ⟨rfl, vp_updL J 0 v.toInt64, v, if_pos rfl, if_pos rfl, hq⟩⟩, Or.inr ⟨_, rfl⟩, sx_decided9 hb z0 hu⟩
  · have hX := oI_r9 q
    obtain ⟨rfl, e1, e2⟩ := hX
    exact ⟨e1, 1, ⟨pC_r9 I, Or.inr ⟨Or.inl rfl, rfl, e2⟩⟩, ⟨12, by decide +kernel, Or.inl ⟨3, dL_decided_12, by decide, tl_9 rfl dL_decided_13 zi_1 dL_decided_14⟩⟩⟩
def kL_best : dM × dHH := ((yL_best, cL_best, 3, (some .int), true, 100, 2), [(0, 8, 11, 30)])
theorem dL_best_0 : decode cL_best 0 = .ok (.aload_n 1, 1) := by decide +kernel
theorem dL_best_1 : decode cL_best 1 = .ok (.iconst 0, 1) := by decide +kernel
theorem dL_best_2 : decode cL_best 2 = .ok (.aload_n 0, 1) := by decide +kernel
theorem dL_best_3 : decode cL_best 3 = .ok (.invokevirtual 52, 3) := by decide +kernel
theorem dL_best_6 : decode cL_best 6 = .ok (.i2l, 1) := by decide +kernel
theorem dL_best_7 : decode cL_best 7 = .ok (.lastore, 1) := by decide +kernel
theorem dL_best_8 : decode cL_best 8 = .ok (.goto 6, 3) := by decide +kernel
theorem dL_best_11 : decode cL_best 11 = .ok (.astore_n 2, 1) := by decide +kernel
theorem dL_best_12 : decode cL_best 12 = .ok (.iconst 1, 1) := by decide +kernel
theorem dL_best_13 : decode cL_best 13 = .ok (.ireturn, 1) := by decide +kernel
theorem dL_best_14 : decode cL_best 14 = .ok (.iconst 0, 1) := by decide +kernel
theorem dL_best_15 : decode cL_best 15 = .ok (.ireturn, 1) := by decide +kernel
theorem pr_best9 {E : dE} {X : dX} {XH : Nat → Option String} {hx : dHH} {b n d a u : Nat}  {h : dH} {z : dZ} (K : drunC E X XH hx b n d kL_best.1 3 (dent [.ref a, .ref u]) [.ref a, .int 0, .ref u] h 0 0 = some z) : drunC E X XH hx b (n + 3) d kL_best.1 0 (dent [.ref a, .ref u]) [] h 0 0 = some z := by
  refine gc_p9 (w := (1, dent [.ref a, .ref u], [.ref u])) dL_best_0 rfl ?_
  refine gc_p9 (w := (2, dent [.ref a, .ref u], [.int 0, .ref u])) dL_best_1 (by rw [← zi_0]; rfl) ?_
  refine gc_p9 (w := (3, dent [.ref a, .ref u], [.ref a, .int 0, .ref u])) dL_best_2 rfl ?_
  exact K
theorem sa_best9 {C : zC} {κ : zS} {u : Nat} {J : Nat → Int64} {v : Int64} {lo : dL0} (hb : yb C ≤ u) (z0 : zT κ u = 0) (hu : (yh C).2 u = some (outC9 J)) : ∀ n x y, drunC (yEn C) dXX (dKK.2.2 100) kL_best.2 (yb C) (n + 4) 15 kL_best.1 7 lo [.long v, .int 0, .ref u] (zH C κ) x y = some (some (.int 0), zH (cO9 C u (vp_updL J 0 v)) κ, x, y) := ls_9 hb z0 hu rfl dL_best_7 dL_best_8 rfl dL_best_14 dL_best_15
theorem sx_best9 {C : zC} {κ : zS} {u : Nat} {J : Nat → Int64} {v : Int32} {lo : dL0} (hb : yb C ≤ u) (z0 : zT κ u = 0) (hu : (yh C).2 u = some (outC9 J)) : ∀ n x y, drunC (yEn C) dXX (dKK.2.2 100) kL_best.2 (yb C) (n + 5) 15 kL_best.1 6 lo [.int v, .int 0, .ref u] (zH C κ) x y = some (some (.int 0), zH (cO9 C u (vp_updL J 0 v.toInt64)) κ, x, y) := fun n x y => gc_p9 (n := n + 4) (w := (7, lo, [.long v.toInt64, .int 0, .ref u])) dL_best_6 rfl (sa_best9 hb z0 hu n x y)
theorem wM_best9 {C : zC} {n0 a u : Nat} {L : Int} {ρ : Nat → Nat} {κ : zS} {J : Nat → Int64}  (W : zW C n0 κ) (T : zT κ a = 15) (I : chI9 ρ κ a L) (σ9 : rS) (hr8 : RC8 κ a σ9) (hb : yb C ≤ u) (h0 : zT κ u = 0) (hn : u < zn κ) (hu : (yh C).2 u = some (outC9 J)) : wrP9 C κ u kL_best [.ref a, .ref u] (fun v C' κ' => pN9 κ a L σ9 κ' ∧ cAw u C' v (fun x => bc8 σ9 ∧ x = bv8 σ9) (fun c => c = 1 ∧ ¬ bc8 σ9)) := by
  have R := Ch_best_c8 W T ρ L σ9 hr8 I (Q := fun v κ' => pN9 κ a L σ9 κ' ∧ (fun x => bc8 σ9 ∧ x = bv8 σ9) v) (X := fun cls κ' => cls = "java/lang/IllegalStateException" ∧ κ' = ut κ ∧ ¬ bc8 σ9) (fun v κ' e => ⟨by obtain ⟨ρ', e1, e2, e3⟩ := e.1; exact ⟨⟨ρ', e1⟩, e2, e3, fun _ => e.2.2.2, fun z => absurd e.2.1 z⟩, ⟨e.2.1, e.2.2.1⟩⟩) (fun cls κ' h => h)
  refine wr_p9 (p := 3) (s := 5) (pc := 3) (idx := 52) (lo := dent [.ref a, .ref u]) (st := [.ref a, .int 0, .ref u]) (rest := [.int 0, .ref u]) W rfl (fun n z K => pr_best9 K) dL_best_3 (inv_e9 (As := []) (rest := [.int 0, .ref u]) (j := 216) (by decide +kernel) rfl ⟨rfl, by decide, by decide, by decide⟩ rfl (Nat.le_of_ble_eq_true rfl) (Nat.le_of_ble_eq_true rfl) (Or.inl T)) R (by decide) (fun vo κ' q W' => ?_) (fun cls κ' q => ?_)
  · obtain ⟨v, rfl, hP, hq⟩ := oI_l9 q
    obtain ⟨F, Z⟩ := hP.2.1
    have z0 : zT κ' u = 0 := Z.2.2.2.1.1.2 u hn h0
    exact ⟨cO9 C u (vp_updL J 0 v.toInt64), ⟨hP, Or.inl ⟨rfl, vp_updL J 0 v.toInt64, v, if_pos rfl, if_pos rfl, hq⟩⟩, Or.inr ⟨_, rfl⟩, sx_best9 hb z0 hu⟩
  · have hX := oI_r9 q
    obtain ⟨rfl, e1, e2⟩ := hX
    exact ⟨e1, 1, ⟨⟨⟨ρ, I⟩, ⟨fun _ _ => False, zF.rf⟩, ⟨⟨rfl, rfl, rfl, rfl, rfl⟩, rfl, rfl, rfl, rfl⟩, fun z => absurd z e2, fun _ => kA_r16⟩, Or.inr ⟨Or.inl rfl, rfl, e2⟩⟩, ⟨11, by decide +kernel, Or.inl ⟨2, dL_best_11, by decide, tl_9 rfl dL_best_12 zi_1 dL_best_13⟩⟩⟩
def kL_solve : dM × dHH := ((yL_solve, cL_solve, 3, (some .int), true, 100, 2), [(0, 8, 11, 30)])
theorem dL_solve_0 : decode cL_solve 0 = .ok (.aload_n 1, 1) := by decide +kernel
theorem dL_solve_1 : decode cL_solve 1 = .ok (.iconst 0, 1) := by decide +kernel
theorem dL_solve_2 : decode cL_solve 2 = .ok (.aload_n 0, 1) := by decide +kernel
theorem dL_solve_3 : decode cL_solve 3 = .ok (.invokevirtual 56, 3) := by decide +kernel
theorem dL_solve_6 : decode cL_solve 6 = .ok (.i2l, 1) := by decide +kernel
theorem dL_solve_7 : decode cL_solve 7 = .ok (.lastore, 1) := by decide +kernel
theorem dL_solve_8 : decode cL_solve 8 = .ok (.goto 6, 3) := by decide +kernel
theorem dL_solve_11 : decode cL_solve 11 = .ok (.astore_n 2, 1) := by decide +kernel
theorem dL_solve_12 : decode cL_solve 12 = .ok (.iconst 1, 1) := by decide +kernel
theorem dL_solve_13 : decode cL_solve 13 = .ok (.ireturn, 1) := by decide +kernel
theorem dL_solve_14 : decode cL_solve 14 = .ok (.iconst 0, 1) := by decide +kernel
theorem dL_solve_15 : decode cL_solve 15 = .ok (.ireturn, 1) := by decide +kernel
theorem pr_solve9 {E : dE} {X : dX} {XH : Nat → Option String} {hx : dHH} {b n d a u : Nat}  {h : dH} {z : dZ} (K : drunC E X XH hx b n d kL_solve.1 3 (dent [.ref a, .ref u]) [.ref a, .int 0, .ref u] h 0 0 = some z) : drunC E X XH hx b (n + 3) d kL_solve.1 0 (dent [.ref a, .ref u]) [] h 0 0 = some z := by
  refine gc_p9 (w := (1, dent [.ref a, .ref u], [.ref u])) dL_solve_0 rfl ?_
  refine gc_p9 (w := (2, dent [.ref a, .ref u], [.int 0, .ref u])) dL_solve_1 (by rw [← zi_0]; rfl) ?_
  refine gc_p9 (w := (3, dent [.ref a, .ref u], [.ref a, .int 0, .ref u])) dL_solve_2 rfl ?_
  exact K
theorem sa_solve9 {C : zC} {κ : zS} {u : Nat} {J : Nat → Int64} {v : Int64} {lo : dL0} (hb : yb C ≤ u) (z0 : zT κ u = 0) (hu : (yh C).2 u = some (outC9 J)) : ∀ n x y, drunC (yEn C) dXX (dKK.2.2 100) kL_solve.2 (yb C) (n + 4) 15 kL_solve.1 7 lo [.long v, .int 0, .ref u] (zH C κ) x y = some (some (.int 0), zH (cO9 C u (vp_updL J 0 v)) κ, x, y) := ls_9 hb z0 hu rfl dL_solve_7 dL_solve_8 rfl dL_solve_14 dL_solve_15
theorem sx_solve9 {C : zC} {κ : zS} {u : Nat} {J : Nat → Int64} {v : Int32} {lo : dL0} (hb : yb C ≤ u) (z0 : zT κ u = 0) (hu : (yh C).2 u = some (outC9 J)) : ∀ n x y, drunC (yEn C) dXX (dKK.2.2 100) kL_solve.2 (yb C) (n + 5) 15 kL_solve.1 6 lo [.int v, .int 0, .ref u] (zH C κ) x y = some (some (.int 0), zH (cO9 C u (vp_updL J 0 v.toInt64)) κ, x, y) := fun n x y => gc_p9 (n := n + 4) (w := (7, lo, [.long v.toInt64, .int 0, .ref u])) dL_solve_6 rfl (sa_solve9 hb z0 hu n x y)
theorem wM_solve9 {C : zC} {n0 a u : Nat} {L : Int} {ρ : Nat → Nat} {κ : zS} {J : Nat → Int64}  (W : zW C n0 κ) (T : zT κ a = 15) (I : chI9 ρ κ a L) (σ9 : rS) (hr8 : RC8 κ a σ9) (pb : pOK σ9) (hb : yb C ≤ u) (h0 : zT κ u = 0) (hn : u < zn κ) (hu : (yh C).2 u = some (outC9 J)) : wrP9 C κ u kL_solve [.ref a, .ref u] (fun v C' κ' => pS9 κ a L σ9 κ' ∧ cAw u C' v (fun x => sc15 σ9 ∧ x = sw15 σ9) (fun c => c = 1 ∧ ¬ sc15 σ9)) := by
  have R := Ch_solve_c8 W T ρ L σ9 hr8 pb I (Q := fun v κ' => pS9 κ a L σ9 κ' ∧ (fun x => sc15 σ9 ∧ x = sw15 σ9) v) (X := fun cls κ' => cls = "java/lang/IllegalStateException" ∧ κ' = ut κ ∧ ¬ sc15 σ9) (fun v κ' e => ⟨by obtain ⟨ρ', e1, e2⟩ := e.1; exact ⟨⟨ρ', e1⟩, e2⟩, e.2⟩) (fun cls κ' h => h)
  refine wr_p9 (p := 3) (s := 5) (pc := 3) (idx := 56) (lo := dent [.ref a, .ref u]) (st := [.ref a, .int 0, .ref u]) (rest := [.int 0, .ref u]) W rfl (fun n z K => pr_solve9 K) dL_solve_3 (inv_e9 (As := []) (rest := [.int 0, .ref u]) (j := 217) (by decide +kernel) rfl ⟨rfl, by decide, by decide, by decide⟩ rfl (Nat.le_of_ble_eq_true rfl) (Nat.le_of_ble_eq_true rfl) (Or.inl T)) R (by decide) (fun vo κ' q W' => ?_) (fun cls κ' q => ?_)
  · obtain ⟨v, rfl, hP, hq⟩ := oI_l9 q
    obtain ⟨F, Z⟩ := hP.2.1
    have z0 : zT κ' u = 0 := Z.2.2.2.1.1.2 u hn h0
    exact ⟨cO9 C u (vp_updL J 0 v.toInt64), ⟨hP, Or.inl ⟨rfl, vp_updL J 0 v.toInt64, v, if_pos rfl, if_pos rfl, hq⟩⟩, Or.inr ⟨_, rfl⟩, sx_solve9 hb z0 hu⟩
  · have hX := oI_r9 q
    obtain ⟨rfl, e1, e2⟩ := hX
    exact ⟨e1, 1, ⟨⟨⟨ρ, I⟩, ⟨fun _ _ => False, zF.rf⟩, ⟨⟨rfl, rfl, rfl, rfl, rfl⟩, rfl, rfl⟩, cv_r16 e2⟩, Or.inr ⟨Or.inl rfl, rfl, e2⟩⟩, ⟨11, by decide +kernel, Or.inl ⟨2, dL_solve_11, by decide, tl_9 rfl dL_solve_12 zi_1 dL_solve_13⟩⟩⟩
def kL_show : dM × dHH := ((yL_show, cL_show, 5, (some .int), true, 100, 4), [(0, 10, 13, 19), (0, 10, 17, 30), (0, 10, 21, 25)])
theorem dL_show_0 : decode cL_show 0 = .ok (.aload_n 3, 1) := by decide +kernel
theorem dL_show_1 : decode cL_show 1 = .ok (.iconst 0, 1) := by decide +kernel
theorem dL_show_2 : decode cL_show 2 = .ok (.aload_n 0, 1) := by decide +kernel
theorem dL_show_3 : decode cL_show 3 = .ok (.iload_n 1, 1) := by decide +kernel
theorem dL_show_4 : decode cL_show 4 = .ok (.iload_n 2, 1) := by decide +kernel
theorem dL_show_5 : decode cL_show 5 = .ok (.invokevirtual 59, 3) := by decide +kernel
theorem dL_show_8 : decode cL_show 8 = .ok (.i2l, 1) := by decide +kernel
theorem dL_show_9 : decode cL_show 9 = .ok (.lastore, 1) := by decide +kernel
theorem dL_show_10 : decode cL_show 10 = .ok (.goto 15, 3) := by decide +kernel
theorem dL_show_13 : decode cL_show 13 = .ok (.astore 4, 2) := by decide +kernel
theorem dL_show_15 : decode cL_show 15 = .ok (.iconst 1, 1) := by decide +kernel
theorem dL_show_16 : decode cL_show 16 = .ok (.ireturn, 1) := by decide +kernel
theorem dL_show_17 : decode cL_show 17 = .ok (.astore 4, 2) := by decide +kernel
theorem dL_show_19 : decode cL_show 19 = .ok (.iconst 2, 1) := by decide +kernel
theorem dL_show_20 : decode cL_show 20 = .ok (.ireturn, 1) := by decide +kernel
theorem dL_show_21 : decode cL_show 21 = .ok (.astore 4, 2) := by decide +kernel
theorem dL_show_23 : decode cL_show 23 = .ok (.iconst 3, 1) := by decide +kernel
theorem dL_show_24 : decode cL_show 24 = .ok (.ireturn, 1) := by decide +kernel
theorem dL_show_25 : decode cL_show 25 = .ok (.iconst 0, 1) := by decide +kernel
theorem dL_show_26 : decode cL_show 26 = .ok (.ireturn, 1) := by decide +kernel
theorem pr_show9 {E : dE} {X : dX} {XH : Nat → Option String} {hx : dHH} {b n d a u : Nat} {p0 : Int32} {p1 : Int32} {h : dH} {z : dZ} (K : drunC E X XH hx b n d kL_show.1 5 (dent [.ref a, .int p0, .int p1, .ref u]) [.int p1, .int p0, .ref a, .int 0, .ref u] h 0 0 = some z) : drunC E X XH hx b (n + 5) d kL_show.1 0 (dent [.ref a, .int p0, .int p1, .ref u]) [] h 0 0 = some z := by
  refine gc_p9 (w := (1, dent [.ref a, .int p0, .int p1, .ref u], [.ref u])) dL_show_0 rfl ?_
  refine gc_p9 (w := (2, dent [.ref a, .int p0, .int p1, .ref u], [.int 0, .ref u])) dL_show_1 (by rw [← zi_0]; rfl) ?_
  refine gc_p9 (w := (3, dent [.ref a, .int p0, .int p1, .ref u], [.ref a, .int 0, .ref u])) dL_show_2 rfl ?_
  refine gc_p9 (w := (4, dent [.ref a, .int p0, .int p1, .ref u], [.int p0, .ref a, .int 0, .ref u])) dL_show_3 rfl ?_
  refine gc_p9 (w := (5, dent [.ref a, .int p0, .int p1, .ref u], [.int p1, .int p0, .ref a, .int 0, .ref u])) dL_show_4 rfl ?_
  exact K
theorem sa_show9 {C : zC} {κ : zS} {u : Nat} {J : Nat → Int64} {v : Int64} {lo : dL0} (hb : yb C ≤ u) (z0 : zT κ u = 0) (hu : (yh C).2 u = some (outC9 J)) : ∀ n x y, drunC (yEn C) dXX (dKK.2.2 100) kL_show.2 (yb C) (n + 4) 15 kL_show.1 9 lo [.long v, .int 0, .ref u] (zH C κ) x y = some (some (.int 0), zH (cO9 C u (vp_updL J 0 v)) κ, x, y) := ls_9 hb z0 hu rfl dL_show_9 dL_show_10 rfl dL_show_25 dL_show_26
theorem sx_show9 {C : zC} {κ : zS} {u : Nat} {J : Nat → Int64} {v : Int32} {lo : dL0} (hb : yb C ≤ u) (z0 : zT κ u = 0) (hu : (yh C).2 u = some (outC9 J)) : ∀ n x y, drunC (yEn C) dXX (dKK.2.2 100) kL_show.2 (yb C) (n + 5) 15 kL_show.1 8 lo [.int v, .int 0, .ref u] (zH C κ) x y = some (some (.int 0), zH (cO9 C u (vp_updL J 0 v.toInt64)) κ, x, y) := fun n x y => gc_p9 (n := n + 4) (w := (9, lo, [.long v.toInt64, .int 0, .ref u])) dL_show_8 rfl (sa_show9 hb z0 hu n x y)
theorem wM_show9 {C : zC} {n0 a u : Nat} {L : Int} {ρ : Nat → Nat} {κ : zS} {J : Nat → Int64} {p0 : Int32} {p1 : Int32} (W : zW C n0 κ) (T : zT κ a = 15) (I : chI9 ρ κ a L) (σ9 : rS) (hr8 : RC8 κ a σ9) (pb : pOK σ9) (hb : yb C ≤ u) (h0 : zT κ u = 0) (hn : u < zn κ) (hu : (yh C).2 u = some (outC9 J)) : wrP9 C κ u kL_show [.ref a, .int p0, .int p1, .ref u] (fun v C' κ' => pH9 κ a L σ9 p0 p1 κ' ∧ cAw u C' v (fun x => hc16 σ9 p0 p1 ∧ x = hv16 σ9 p0 p1) (fun c => c ≠ 0 ∧ cc16 σ9 p0 p1 = c)) := by
  have R := Ch_show_c8 (a1 := p0) (a2 := p1) W T ρ L σ9 hr8 pb I (Q := fun v κ' => pH9 κ a L σ9 p0 p1 κ' ∧ (fun x => hc16 σ9 p0 p1 ∧ x = hv16 σ9 p0 p1) v) (X := fun cls κ' => ((cls = "java/lang/IllegalArgumentException" ∧ cc16 σ9 p0 p1 = 1) ∨ (cls = "java/lang/IllegalStateException" ∧ cc16 σ9 p0 p1 = 2) ∨ (cls = "java/lang/IndexOutOfBoundsException" ∧ cc16 σ9 p0 p1 = 3)) ∧ κ' = ut κ) (fun v κ' e => ⟨⟨⟨ρ, e.1.1⟩, e.1.2⟩, ⟨e.2.1, hv_16 e.2.2⟩⟩) (fun cls κ' h => h)
  refine wr_p9 (p := 5) (s := 5) (pc := 5) (idx := 59) (lo := dent [.ref a, .int p0, .int p1, .ref u]) (st := [.int p1, .int p0, .ref a, .int 0, .ref u]) (rest := [.int 0, .ref u]) W rfl (fun n z K => pr_show9 K) dL_show_5 (inv_e9 (As := [.int p0, .int p1]) (rest := [.int 0, .ref u]) (j := 220) (by decide +kernel) rfl ⟨rfl, by decide, by decide, by decide⟩ rfl (Nat.le_of_ble_eq_true rfl) (Nat.le_of_ble_eq_true rfl) (Or.inl T)) R (by decide) (fun vo κ' q W' => ?_) (fun cls κ' q => ?_)
  · obtain ⟨v, rfl, hP, hq⟩ := oI_l9 q
    obtain ⟨F, Z⟩ := hP.2.1
    have z0 : zT κ' u = 0 := Z.2.2.2.1.1.2 u hn h0
    exact ⟨cO9 C u (vp_updL J 0 v.toInt64), ⟨hP, Or.inl ⟨rfl, vp_updL J 0 v.toInt64, v, if_pos rfl, if_pos rfl, hq⟩⟩, Or.inr ⟨_, rfl⟩, sx_show9 hb z0 hu⟩
  · have hX := oI_r9 q
    obtain ⟨ec, e1⟩ := hX
    rcases ec with ⟨rfl, e2⟩ | ⟨rfl, e2⟩ | ⟨rfl, e2⟩
    · exact ⟨e1, 1, ⟨⟨⟨ρ, I⟩, ⟨fun _ _ => False, zF.rf⟩, ⟨⟨rfl, rfl, rfl, rfl, rfl⟩, rfl, rfl⟩, hs_r16 (by rw [e2]; decide)⟩, Or.inr ⟨Or.inl rfl, ⟨by decide, e2⟩⟩⟩, ⟨13, by decide +kernel, Or.inr ⟨4, dL_show_13, by decide, tl_9 rfl dL_show_15 zi_1 dL_show_16⟩⟩⟩
    · exact ⟨e1, 2, ⟨⟨⟨ρ, I⟩, ⟨fun _ _ => False, zF.rf⟩, ⟨⟨rfl, rfl, rfl, rfl, rfl⟩, rfl, rfl⟩, hs_r16 (by rw [e2]; decide)⟩, Or.inr ⟨Or.inr (Or.inl rfl), ⟨by decide, e2⟩⟩⟩, ⟨17, by decide +kernel, Or.inr ⟨4, dL_show_17, by decide, tl_9 rfl dL_show_19 zi_2 dL_show_20⟩⟩⟩
    · exact ⟨e1, 3, ⟨⟨⟨ρ, I⟩, ⟨fun _ _ => False, zF.rf⟩, ⟨⟨rfl, rfl, rfl, rfl, rfl⟩, rfl, rfl⟩, hs_r16 (by rw [e2]; decide)⟩, Or.inr ⟨Or.inr (Or.inr rfl), ⟨by decide, e2⟩⟩⟩, ⟨21, by decide +kernel, Or.inr ⟨4, dL_show_21, by decide, tl_9 rfl dL_show_23 zi_3 dL_show_24⟩⟩⟩
def kL_size : dM × dHH := ((yL_size, cL_size, 4, (some .int), true, 100, 3), [(0, 9, 12, 25)])
theorem dL_size_0 : decode cL_size 0 = .ok (.aload_n 2, 1) := by decide +kernel
theorem dL_size_1 : decode cL_size 1 = .ok (.iconst 0, 1) := by decide +kernel
theorem dL_size_2 : decode cL_size 2 = .ok (.aload_n 0, 1) := by decide +kernel
theorem dL_size_3 : decode cL_size 3 = .ok (.iload_n 1, 1) := by decide +kernel
theorem dL_size_4 : decode cL_size 4 = .ok (.invokevirtual 62, 3) := by decide +kernel
theorem dL_size_7 : decode cL_size 7 = .ok (.i2l, 1) := by decide +kernel
theorem dL_size_8 : decode cL_size 8 = .ok (.lastore, 1) := by decide +kernel
theorem dL_size_9 : decode cL_size 9 = .ok (.goto 6, 3) := by decide +kernel
theorem dL_size_12 : decode cL_size 12 = .ok (.astore_n 3, 1) := by decide +kernel
theorem dL_size_13 : decode cL_size 13 = .ok (.iconst 1, 1) := by decide +kernel
theorem dL_size_14 : decode cL_size 14 = .ok (.ireturn, 1) := by decide +kernel
theorem dL_size_15 : decode cL_size 15 = .ok (.iconst 0, 1) := by decide +kernel
theorem dL_size_16 : decode cL_size 16 = .ok (.ireturn, 1) := by decide +kernel
theorem pr_size9 {E : dE} {X : dX} {XH : Nat → Option String} {hx : dHH} {b n d a u : Nat} {p0 : Int32} {h : dH} {z : dZ} (K : drunC E X XH hx b n d kL_size.1 4 (dent [.ref a, .int p0, .ref u]) [.int p0, .ref a, .int 0, .ref u] h 0 0 = some z) : drunC E X XH hx b (n + 4) d kL_size.1 0 (dent [.ref a, .int p0, .ref u]) [] h 0 0 = some z := by
  refine gc_p9 (w := (1, dent [.ref a, .int p0, .ref u], [.ref u])) dL_size_0 rfl ?_
  refine gc_p9 (w := (2, dent [.ref a, .int p0, .ref u], [.int 0, .ref u])) dL_size_1 (by rw [← zi_0]; rfl) ?_
  refine gc_p9 (w := (3, dent [.ref a, .int p0, .ref u], [.ref a, .int 0, .ref u])) dL_size_2 rfl ?_
  refine gc_p9 (w := (4, dent [.ref a, .int p0, .ref u], [.int p0, .ref a, .int 0, .ref u])) dL_size_3 rfl ?_
  exact K
theorem sa_size9 {C : zC} {κ : zS} {u : Nat} {J : Nat → Int64} {v : Int64} {lo : dL0} (hb : yb C ≤ u) (z0 : zT κ u = 0) (hu : (yh C).2 u = some (outC9 J)) : ∀ n x y, drunC (yEn C) dXX (dKK.2.2 100) kL_size.2 (yb C) (n + 4) 15 kL_size.1 8 lo [.long v, .int 0, .ref u] (zH C κ) x y = some (some (.int 0), zH (cO9 C u (vp_updL J 0 v)) κ, x, y) := ls_9 hb z0 hu rfl dL_size_8 dL_size_9 rfl dL_size_15 dL_size_16
theorem sx_size9 {C : zC} {κ : zS} {u : Nat} {J : Nat → Int64} {v : Int32} {lo : dL0} (hb : yb C ≤ u) (z0 : zT κ u = 0) (hu : (yh C).2 u = some (outC9 J)) : ∀ n x y, drunC (yEn C) dXX (dKK.2.2 100) kL_size.2 (yb C) (n + 5) 15 kL_size.1 7 lo [.int v, .int 0, .ref u] (zH C κ) x y = some (some (.int 0), zH (cO9 C u (vp_updL J 0 v.toInt64)) κ, x, y) := fun n x y => gc_p9 (n := n + 4) (w := (8, lo, [.long v.toInt64, .int 0, .ref u])) dL_size_7 rfl (sa_size9 hb z0 hu n x y)
theorem wM_size9 {C : zC} {n0 a u : Nat} {L : Int} {ρ : Nat → Nat} {κ : zS} {J : Nat → Int64} {p0 : Int32} (W : zW C n0 κ) (T : zT κ a = 15) (I : chI9 ρ κ a L) (σ9 : rS) (hr8 : RC8 κ a σ9) (hb : yb C ≤ u) (h0 : zT κ u = 0) (hn : u < zn κ) (hu : (yh C).2 u = some (outC9 J)) : wrP9 C κ u kL_size [.ref a, .int p0, .ref u] (fun v C' κ' => pC9 κ a L κ' ∧ cAw u C' v (fun x => zc17 σ9 p0 ∧ x = zv17 σ9 p0) (fun c => c = 1 ∧ ¬ zc17 σ9 p0)) := by
  have R := Ch_size_c8 (a1 := p0) W T ρ L σ9 hr8 I (Q := fun v κ' => pC9 κ a L κ' ∧ (fun x => zc17 σ9 p0 ∧ x = zv17 σ9 p0) v) (X := fun cls κ' => cls = "java/lang/IndexOutOfBoundsException" ∧ κ' = ut κ ∧ ¬ zc17 σ9 p0) (fun v κ' e => ⟨by rw [← e.1]; exact pC_r9 I, e.2⟩) (fun cls κ' h => h)
  refine wr_p9 (p := 4) (s := 5) (pc := 4) (idx := 62) (lo := dent [.ref a, .int p0, .ref u]) (st := [.int p0, .ref a, .int 0, .ref u]) (rest := [.int 0, .ref u]) W rfl (fun n z K => pr_size9 K) dL_size_4 (inv_e9 (As := [.int p0]) (rest := [.int 0, .ref u]) (j := 221) (by decide +kernel) rfl ⟨rfl, by decide, by decide, by decide⟩ rfl (Nat.le_of_ble_eq_true rfl) (Nat.le_of_ble_eq_true rfl) (Or.inl T)) R (by decide) (fun vo κ' q W' => ?_) (fun cls κ' q => ?_)
  · obtain ⟨v, rfl, hP, hq⟩ := oI_l9 q
    obtain ⟨F, Z⟩ := hP.2.1
    have z0 : zT κ' u = 0 := Z.2.2.2.1.1.2 u hn h0
    exact ⟨cO9 C u (vp_updL J 0 v.toInt64), ⟨hP, Or.inl ⟨rfl, vp_updL J 0 v.toInt64, v, if_pos rfl, if_pos rfl, hq⟩⟩, Or.inr ⟨_, rfl⟩, sx_size9 hb z0 hu⟩
  · have hX := oI_r9 q
    obtain ⟨rfl, e1, e2⟩ := hX
    exact ⟨e1, 1, ⟨pC_r9 I, Or.inr ⟨Or.inl rfl, rfl, e2⟩⟩, ⟨12, by decide +kernel, Or.inl ⟨3, dL_size_12, by decide, tl_9 rfl dL_size_13 zi_1 dL_size_14⟩⟩⟩
def kL_limb : dM × dHH := ((yL_limb, cL_limb, 5, (some .int), true, 100, 4), [(0, 10, 13, 25)])
theorem dL_limb_0 : decode cL_limb 0 = .ok (.aload_n 3, 1) := by decide +kernel
theorem dL_limb_1 : decode cL_limb 1 = .ok (.iconst 0, 1) := by decide +kernel
theorem dL_limb_2 : decode cL_limb 2 = .ok (.aload_n 0, 1) := by decide +kernel
theorem dL_limb_3 : decode cL_limb 3 = .ok (.iload_n 1, 1) := by decide +kernel
theorem dL_limb_4 : decode cL_limb 4 = .ok (.iload_n 2, 1) := by decide +kernel
theorem dL_limb_5 : decode cL_limb 5 = .ok (.invokevirtual 65, 3) := by decide +kernel
theorem dL_limb_8 : decode cL_limb 8 = .ok (.i2l, 1) := by decide +kernel
theorem dL_limb_9 : decode cL_limb 9 = .ok (.lastore, 1) := by decide +kernel
theorem dL_limb_10 : decode cL_limb 10 = .ok (.goto 7, 3) := by decide +kernel
theorem dL_limb_13 : decode cL_limb 13 = .ok (.astore 4, 2) := by decide +kernel
theorem dL_limb_15 : decode cL_limb 15 = .ok (.iconst 1, 1) := by decide +kernel
theorem dL_limb_16 : decode cL_limb 16 = .ok (.ireturn, 1) := by decide +kernel
theorem dL_limb_17 : decode cL_limb 17 = .ok (.iconst 0, 1) := by decide +kernel
theorem dL_limb_18 : decode cL_limb 18 = .ok (.ireturn, 1) := by decide +kernel
theorem pr_limb9 {E : dE} {X : dX} {XH : Nat → Option String} {hx : dHH} {b n d a u : Nat} {p0 : Int32} {p1 : Int32} {h : dH} {z : dZ} (K : drunC E X XH hx b n d kL_limb.1 5 (dent [.ref a, .int p0, .int p1, .ref u]) [.int p1, .int p0, .ref a, .int 0, .ref u] h 0 0 = some z) : drunC E X XH hx b (n + 5) d kL_limb.1 0 (dent [.ref a, .int p0, .int p1, .ref u]) [] h 0 0 = some z := by
  refine gc_p9 (w := (1, dent [.ref a, .int p0, .int p1, .ref u], [.ref u])) dL_limb_0 rfl ?_
  refine gc_p9 (w := (2, dent [.ref a, .int p0, .int p1, .ref u], [.int 0, .ref u])) dL_limb_1 (by rw [← zi_0]; rfl) ?_
  refine gc_p9 (w := (3, dent [.ref a, .int p0, .int p1, .ref u], [.ref a, .int 0, .ref u])) dL_limb_2 rfl ?_
  refine gc_p9 (w := (4, dent [.ref a, .int p0, .int p1, .ref u], [.int p0, .ref a, .int 0, .ref u])) dL_limb_3 rfl ?_
  refine gc_p9 (w := (5, dent [.ref a, .int p0, .int p1, .ref u], [.int p1, .int p0, .ref a, .int 0, .ref u])) dL_limb_4 rfl ?_
  exact K
theorem sa_limb9 {C : zC} {κ : zS} {u : Nat} {J : Nat → Int64} {v : Int64} {lo : dL0} (hb : yb C ≤ u) (z0 : zT κ u = 0) (hu : (yh C).2 u = some (outC9 J)) : ∀ n x y, drunC (yEn C) dXX (dKK.2.2 100) kL_limb.2 (yb C) (n + 4) 15 kL_limb.1 9 lo [.long v, .int 0, .ref u] (zH C κ) x y = some (some (.int 0), zH (cO9 C u (vp_updL J 0 v)) κ, x, y) := ls_9 hb z0 hu rfl dL_limb_9 dL_limb_10 rfl dL_limb_17 dL_limb_18
theorem sx_limb9 {C : zC} {κ : zS} {u : Nat} {J : Nat → Int64} {v : Int32} {lo : dL0} (hb : yb C ≤ u) (z0 : zT κ u = 0) (hu : (yh C).2 u = some (outC9 J)) : ∀ n x y, drunC (yEn C) dXX (dKK.2.2 100) kL_limb.2 (yb C) (n + 5) 15 kL_limb.1 8 lo [.int v, .int 0, .ref u] (zH C κ) x y = some (some (.int 0), zH (cO9 C u (vp_updL J 0 v.toInt64)) κ, x, y) := fun n x y => gc_p9 (n := n + 4) (w := (9, lo, [.long v.toInt64, .int 0, .ref u])) dL_limb_8 rfl (sa_limb9 hb z0 hu n x y)
theorem wM_limb9 {C : zC} {n0 a u : Nat} {L : Int} {ρ : Nat → Nat} {κ : zS} {J : Nat → Int64} {p0 : Int32} {p1 : Int32} (W : zW C n0 κ) (T : zT κ a = 15) (I : chI9 ρ κ a L) (σ9 : rS) (hr8 : RC8 κ a σ9) (hb : yb C ≤ u) (h0 : zT κ u = 0) (hn : u < zn κ) (hu : (yh C).2 u = some (outC9 J)) : wrP9 C κ u kL_limb [.ref a, .int p0, .int p1, .ref u] (fun v C' κ' => pC9 κ a L κ' ∧ cAw u C' v (fun x => lc18 σ9 p0 p1 ∧ x = lv18 σ9 p0 p1) (fun c => c = 1 ∧ ¬ lc18 σ9 p0 p1)) := by
  have R := Ch_limb_c8 (a1 := p0) (a2 := p1) W T ρ L σ9 hr8 I (Q := fun v κ' => pC9 κ a L κ' ∧ (fun x => lc18 σ9 p0 p1 ∧ x = lv18 σ9 p0 p1) v) (X := fun cls κ' => cls = "java/lang/IndexOutOfBoundsException" ∧ κ' = ut κ ∧ ¬ lc18 σ9 p0 p1) (fun v κ' e => ⟨by rw [← e.1]; exact pC_r9 I, e.2⟩) (fun cls κ' h => h)
  refine wr_p9 (p := 5) (s := 5) (pc := 5) (idx := 65) (lo := dent [.ref a, .int p0, .int p1, .ref u]) (st := [.int p1, .int p0, .ref a, .int 0, .ref u]) (rest := [.int 0, .ref u]) W rfl (fun n z K => pr_limb9 K) dL_limb_5 (inv_e9 (As := [.int p0, .int p1]) (rest := [.int 0, .ref u]) (j := 222) (by decide +kernel) rfl ⟨rfl, by decide, by decide, by decide⟩ rfl (Nat.le_of_ble_eq_true rfl) (Nat.le_of_ble_eq_true rfl) (Or.inl T)) R (by decide) (fun vo κ' q W' => ?_) (fun cls κ' q => ?_)
  · obtain ⟨v, rfl, hP, hq⟩ := oI_l9 q
    obtain ⟨F, Z⟩ := hP.2.1
    have z0 : zT κ' u = 0 := Z.2.2.2.1.1.2 u hn h0
    exact ⟨cO9 C u (vp_updL J 0 v.toInt64), ⟨hP, Or.inl ⟨rfl, vp_updL J 0 v.toInt64, v, if_pos rfl, if_pos rfl, hq⟩⟩, Or.inr ⟨_, rfl⟩, sx_limb9 hb z0 hu⟩
  · have hX := oI_r9 q
    obtain ⟨rfl, e1, e2⟩ := hX
    exact ⟨e1, 1, ⟨pC_r9 I, Or.inr ⟨Or.inl rfl, rfl, e2⟩⟩, ⟨13, by decide +kernel, Or.inr ⟨4, dL_limb_13, by decide, tl_9 rfl dL_limb_15 zi_1 dL_limb_16⟩⟩⟩
def kL_tell : dM × dHH := ((yL_tell, cL_tell, 4, (some .int), true, 100, 3), [(0, 9, 12, 13)])
theorem dL_tell_0 : decode cL_tell 0 = .ok (.aload_n 2, 1) := by decide +kernel
theorem dL_tell_1 : decode cL_tell 1 = .ok (.iconst 0, 1) := by decide +kernel
theorem dL_tell_2 : decode cL_tell 2 = .ok (.aload_n 0, 1) := by decide +kernel
theorem dL_tell_3 : decode cL_tell 3 = .ok (.iload_n 1, 1) := by decide +kernel
theorem dL_tell_4 : decode cL_tell 4 = .ok (.invokevirtual 68, 3) := by decide +kernel
theorem dL_tell_7 : decode cL_tell 7 = .ok (.i2l, 1) := by decide +kernel
theorem dL_tell_8 : decode cL_tell 8 = .ok (.lastore, 1) := by decide +kernel
theorem dL_tell_9 : decode cL_tell 9 = .ok (.goto 6, 3) := by decide +kernel
theorem dL_tell_12 : decode cL_tell 12 = .ok (.astore_n 3, 1) := by decide +kernel
theorem dL_tell_13 : decode cL_tell 13 = .ok (.iconst 1, 1) := by decide +kernel
theorem dL_tell_14 : decode cL_tell 14 = .ok (.ireturn, 1) := by decide +kernel
theorem dL_tell_15 : decode cL_tell 15 = .ok (.iconst 0, 1) := by decide +kernel
theorem dL_tell_16 : decode cL_tell 16 = .ok (.ireturn, 1) := by decide +kernel
theorem pr_tell9 {E : dE} {X : dX} {XH : Nat → Option String} {hx : dHH} {b n d a u : Nat} {p0 : Int32} {h : dH} {z : dZ} (K : drunC E X XH hx b n d kL_tell.1 4 (dent [.ref a, .int p0, .ref u]) [.int p0, .ref a, .int 0, .ref u] h 0 0 = some z) : drunC E X XH hx b (n + 4) d kL_tell.1 0 (dent [.ref a, .int p0, .ref u]) [] h 0 0 = some z := by
  refine gc_p9 (w := (1, dent [.ref a, .int p0, .ref u], [.ref u])) dL_tell_0 rfl ?_
  refine gc_p9 (w := (2, dent [.ref a, .int p0, .ref u], [.int 0, .ref u])) dL_tell_1 (by rw [← zi_0]; rfl) ?_
  refine gc_p9 (w := (3, dent [.ref a, .int p0, .ref u], [.ref a, .int 0, .ref u])) dL_tell_2 rfl ?_
  refine gc_p9 (w := (4, dent [.ref a, .int p0, .ref u], [.int p0, .ref a, .int 0, .ref u])) dL_tell_3 rfl ?_
  exact K
theorem sa_tell9 {C : zC} {κ : zS} {u : Nat} {J : Nat → Int64} {v : Int64} {lo : dL0} (hb : yb C ≤ u) (z0 : zT κ u = 0) (hu : (yh C).2 u = some (outC9 J)) : ∀ n x y, drunC (yEn C) dXX (dKK.2.2 100) kL_tell.2 (yb C) (n + 4) 15 kL_tell.1 8 lo [.long v, .int 0, .ref u] (zH C κ) x y = some (some (.int 0), zH (cO9 C u (vp_updL J 0 v)) κ, x, y) := ls_9 hb z0 hu rfl dL_tell_8 dL_tell_9 rfl dL_tell_15 dL_tell_16
theorem sx_tell9 {C : zC} {κ : zS} {u : Nat} {J : Nat → Int64} {v : Int32} {lo : dL0} (hb : yb C ≤ u) (z0 : zT κ u = 0) (hu : (yh C).2 u = some (outC9 J)) : ∀ n x y, drunC (yEn C) dXX (dKK.2.2 100) kL_tell.2 (yb C) (n + 5) 15 kL_tell.1 7 lo [.int v, .int 0, .ref u] (zH C κ) x y = some (some (.int 0), zH (cO9 C u (vp_updL J 0 v.toInt64)) κ, x, y) := fun n x y => gc_p9 (n := n + 4) (w := (8, lo, [.long v.toInt64, .int 0, .ref u])) dL_tell_7 rfl (sa_tell9 hb z0 hu n x y)
theorem wM_tell9 {C : zC} {n0 a u : Nat} {L : Int} {ρ : Nat → Nat} {κ : zS} {J : Nat → Int64} {p0 : Int32} (W : zW C n0 κ) (T : zT κ a = 15) (I : chI9 ρ κ a L) (hb : yb C ≤ u) (h0 : zT κ u = 0) (hn : u < zn κ) (hu : (yh C).2 u = some (outC9 J)) : wrP9 C κ u kL_tell [.ref a, .int p0, .ref u] (fun v C' κ' => pT9 κ a L p0 κ' ∧ cAw u C' v (fun x => zI κ chTolds a < 200 ∧ x = zI κ chTolds a + 1) (fun c => c = 1 ∧ ¬ zI κ chTolds a < 200)) := by
  have R := Ch_tell_w (a1 := p0) W T ρ L I (Q := fun v κ' => pT9 κ a L p0 κ' ∧ (fun x => zI κ chTolds a < 200 ∧ x = zI κ chTolds a + 1) v) (X := fun cls κ' => cls = "java/lang/UnsupportedOperationException" ∧ κ' = ut κ ∧ ¬ zI κ chTolds a < 200) (fun v κ' e => ⟨⟨⟨ρ, e.1.1⟩, e.1.2⟩, e.2⟩) (fun cls κ' h => h)
  refine wr_p9 (p := 4) (s := 5) (pc := 4) (idx := 68) (lo := dent [.ref a, .int p0, .ref u]) (st := [.int p0, .ref a, .int 0, .ref u]) (rest := [.int 0, .ref u]) W rfl (fun n z K => pr_tell9 K) dL_tell_4 (inv_e9 (As := [.int p0]) (rest := [.int 0, .ref u]) (j := 223) (by decide +kernel) rfl ⟨rfl, by decide, by decide, by decide⟩ rfl (Nat.le_of_ble_eq_true rfl) (Nat.le_of_ble_eq_true rfl) (Or.inl T)) R (by decide) (fun vo κ' q W' => ?_) (fun cls κ' q => ?_)
  · obtain ⟨v, rfl, hP, hq⟩ := oI_l9 q
    obtain ⟨F, Z⟩ := hP.2.1
    have z0 : zT κ' u = 0 := Z.2.2.2.1.1.2 u hn h0
    exact ⟨cO9 C u (vp_updL J 0 v.toInt64), ⟨hP, Or.inl ⟨rfl, vp_updL J 0 v.toInt64, v, if_pos rfl, if_pos rfl, hq⟩⟩, Or.inr ⟨_, rfl⟩, sx_tell9 hb z0 hu⟩
  · have hX := oI_r9 q
    obtain ⟨rfl, e1, e2⟩ := hX
    exact ⟨e1, 1, ⟨⟨⟨ρ, I⟩, ⟨fun _ _ => False, zF.rf⟩, ⟨rfl, ⟨rfl, rfl⟩, rfl⟩, ⟨⟨rfl, rfl⟩, kA_r16⟩, Or.inr ⟨e2, rfl⟩⟩, Or.inr ⟨Or.inl rfl, rfl, e2⟩⟩, ⟨12, by decide +kernel, Or.inl ⟨3, dL_tell_12, by decide, tl_9 rfl dL_tell_13 zi_1 dL_tell_14⟩⟩⟩
def kL_play : dM × dHH := ((yL_play, cL_play, 6, (some .int), true, 100, 4), [(0, 11, 14, 30), (0, 11, 18, 19)])
theorem dL_play_0 : decode cL_play 0 = .ok (.aload 4, 2) := by decide +kernel
theorem dL_play_2 : decode cL_play 2 = .ok (.iconst 0, 1) := by decide +kernel
theorem dL_play_3 : decode cL_play 3 = .ok (.aload_n 0, 1) := by decide +kernel
theorem dL_play_4 : decode cL_play 4 = .ok (.lload_n 1, 1) := by decide +kernel
theorem dL_play_5 : decode cL_play 5 = .ok (.iload_n 3, 1) := by decide +kernel
theorem dL_play_6 : decode cL_play 6 = .ok (.invokevirtual 71, 3) := by decide +kernel
theorem dL_play_9 : decode cL_play 9 = .ok (.i2l, 1) := by decide +kernel
theorem dL_play_10 : decode cL_play 10 = .ok (.lastore, 1) := by decide +kernel
theorem dL_play_11 : decode cL_play 11 = .ok (.goto 11, 3) := by decide +kernel
theorem dL_play_14 : decode cL_play 14 = .ok (.astore 5, 2) := by decide +kernel
theorem dL_play_16 : decode cL_play 16 = .ok (.iconst 1, 1) := by decide +kernel
theorem dL_play_17 : decode cL_play 17 = .ok (.ireturn, 1) := by decide +kernel
theorem dL_play_18 : decode cL_play 18 = .ok (.astore 5, 2) := by decide +kernel
theorem dL_play_20 : decode cL_play 20 = .ok (.iconst 2, 1) := by decide +kernel
theorem dL_play_21 : decode cL_play 21 = .ok (.ireturn, 1) := by decide +kernel
theorem dL_play_22 : decode cL_play 22 = .ok (.iconst 0, 1) := by decide +kernel
theorem dL_play_23 : decode cL_play 23 = .ok (.ireturn, 1) := by decide +kernel
theorem pr_play9 {E : dE} {X : dX} {XH : Nat → Option String} {hx : dHH} {b n d a u : Nat} {p0 : Int64} {p1 : Int32} {h : dH} {z : dZ} (K : drunC E X XH hx b n d kL_play.1 6 (dent [.ref a, .long p0, .int p1, .ref u]) [.int p1, .long p0, .ref a, .int 0, .ref u] h 0 0 = some z) : drunC E X XH hx b (n + 5) d kL_play.1 0 (dent [.ref a, .long p0, .int p1, .ref u]) [] h 0 0 = some z := by
  refine gc_p9 (w := (2, dent [.ref a, .long p0, .int p1, .ref u], [.ref u])) dL_play_0 rfl ?_
  refine gc_p9 (w := (3, dent [.ref a, .long p0, .int p1, .ref u], [.int 0, .ref u])) dL_play_2 (by rw [← zi_0]; rfl) ?_
  refine gc_p9 (w := (4, dent [.ref a, .long p0, .int p1, .ref u], [.ref a, .int 0, .ref u])) dL_play_3 rfl ?_
  refine gc_p9 (w := (5, dent [.ref a, .long p0, .int p1, .ref u], [.long p0, .ref a, .int 0, .ref u])) dL_play_4 rfl ?_
  refine gc_p9 (w := (6, dent [.ref a, .long p0, .int p1, .ref u], [.int p1, .long p0, .ref a, .int 0, .ref u])) dL_play_5 rfl ?_
  exact K
theorem sa_play9 {C : zC} {κ : zS} {u : Nat} {J : Nat → Int64} {v : Int64} {lo : dL0} (hb : yb C ≤ u) (z0 : zT κ u = 0) (hu : (yh C).2 u = some (outC9 J)) : ∀ n x y, drunC (yEn C) dXX (dKK.2.2 100) kL_play.2 (yb C) (n + 4) 15 kL_play.1 10 lo [.long v, .int 0, .ref u] (zH C κ) x y = some (some (.int 0), zH (cO9 C u (vp_updL J 0 v)) κ, x, y) := ls_9 hb z0 hu rfl dL_play_10 dL_play_11 rfl dL_play_22 dL_play_23
theorem sx_play9 {C : zC} {κ : zS} {u : Nat} {J : Nat → Int64} {v : Int32} {lo : dL0} (hb : yb C ≤ u) (z0 : zT κ u = 0) (hu : (yh C).2 u = some (outC9 J)) : ∀ n x y, drunC (yEn C) dXX (dKK.2.2 100) kL_play.2 (yb C) (n + 5) 15 kL_play.1 9 lo [.int v, .int 0, .ref u] (zH C κ) x y = some (some (.int 0), zH (cO9 C u (vp_updL J 0 v.toInt64)) κ, x, y) := fun n x y => gc_p9 (n := n + 4) (w := (10, lo, [.long v.toInt64, .int 0, .ref u])) dL_play_9 rfl (sa_play9 hb z0 hu n x y)
theorem wM_play9 {C : zC} {n0 a u : Nat} {L : Int} {ρ : Nat → Nat} {κ : zS} {J : Nat → Int64} {p0 : Int64} {p1 : Int32} (W : zW C n0 κ) (T : zT κ a = 15) (I : chI9 ρ κ a L) (σ9 : rS) (hr8 : RC8 κ a σ9) (pb : PB21 σ9) (hb : yb C ≤ u) (h0 : zT κ u = 0) (hn : u < zn κ) (hu : (yh C).2 u = some (outC9 J)) : wrP9 C κ u kL_play [.ref a, .long p0, .int p1, .ref u] (fun v C' κ' => pW23 κ a L p1 σ9 (siU (slU σ9 112 p0) 113 1) κ' ∧ cAw u C' v (fun x => cy21 σ9 p1 = 0 ∧ ∀ N tr v', TRF21 p1 (siU (slU σ9 112 p0) 113 1) N tr v' → x = v') (fun c => c ≠ 0 ∧ cy21 σ9 p1 = c)) := by
  have R := Ch_play_c8 (a1 := p0) (a3 := p1) W T ρ L σ9 hr8 pb I (Q := fun v κ' => pW23 κ a L p1 σ9 (siU (slU σ9 112 p0) 113 1) κ' ∧ (fun x => cy21 σ9 p1 = 0 ∧ ∀ N tr v', TRF21 p1 (siU (slU σ9 112 p0) 113 1) N tr v' → x = v') v) (X := fun cls κ' => ((cls = "java/lang/IllegalArgumentException" ∧ cy21 σ9 p1 = 2) ∨ (cls = "java/lang/IllegalStateException" ∧ cy21 σ9 p1 = 1)) ∧ κ' = ut κ) (fun v κ' e => ⟨⟨⟨ρ, e.1.1⟩, e.1.2⟩, e.2⟩) (fun cls κ' h => h)
  refine wr_p9 (p := 5) (s := 5) (pc := 6) (idx := 71) (lo := dent [.ref a, .long p0, .int p1, .ref u]) (st := [.int p1, .long p0, .ref a, .int 0, .ref u]) (rest := [.int 0, .ref u]) W rfl (fun n z K => pr_play9 K) dL_play_6 (inv_e9 (As := [.long p0, .int p1]) (rest := [.int 0, .ref u]) (j := 228) (by decide +kernel) rfl ⟨rfl, by decide, by decide, by decide⟩ rfl (Nat.le_of_ble_eq_true rfl) (Nat.le_of_ble_eq_true rfl) (Or.inl T)) R (by decide) (fun vo κ' q W' => ?_) (fun cls κ' q => ?_)
  · obtain ⟨v, rfl, hP, hq⟩ := oI_l9 q
    obtain ⟨F, Z⟩ := hP.2.1
    have z0 : zT κ' u = 0 := Z.2.2.2.1.1.2 u hn h0
    exact ⟨cO9 C u (vp_updL J 0 v.toInt64), ⟨hP, Or.inl ⟨rfl, vp_updL J 0 v.toInt64, v, if_pos rfl, if_pos rfl, hq⟩⟩, Or.inr ⟨_, rfl⟩, sx_play9 hb z0 hu⟩
  · have hX := oI_r9 q
    obtain ⟨ec, e1⟩ := hX
    rcases ec with ⟨rfl, e2⟩ | ⟨rfl, e2⟩
    · exact ⟨e1, 2, ⟨⟨⟨ρ, I⟩, ⟨fun _ _ => False, zF.rf⟩, ⟨rfl, rfl, rfl, rfl⟩, ⟨⟨rfl, rfl⟩, kA_r16.1, kA_r16.2.1, kA_r16.2.2.1⟩, fun z => absurd (z.symm.trans e2) (by decide), fun _ => ⟨rfl, kA_r16.2.2.2⟩⟩, Or.inr ⟨Or.inr (Or.inl rfl), ⟨by decide, e2⟩⟩⟩, ⟨18, by decide +kernel, Or.inr ⟨5, dL_play_18, by decide, tl_9 rfl dL_play_20 zi_2 dL_play_21⟩⟩⟩
    · exact ⟨e1, 1, ⟨⟨⟨ρ, I⟩, ⟨fun _ _ => False, zF.rf⟩, ⟨rfl, rfl, rfl, rfl⟩, ⟨⟨rfl, rfl⟩, kA_r16.1, kA_r16.2.1, kA_r16.2.2.1⟩, fun z => absurd (z.symm.trans e2) (by decide), fun _ => ⟨rfl, kA_r16.2.2.2⟩⟩, Or.inr ⟨Or.inl rfl, ⟨by decide, e2⟩⟩⟩, ⟨14, by decide +kernel, Or.inr ⟨5, dL_play_14, by decide, tl_9 rfl dL_play_16 zi_1 dL_play_17⟩⟩⟩
def kL_walk : dM × dHH := ((yL_walk, cL_walk, 4, (some .int), true, 100, 3), [(0, 9, 12, 30), (0, 9, 15, 19)])
theorem dL_walk_0 : decode cL_walk 0 = .ok (.aload_n 2, 1) := by decide +kernel
theorem dL_walk_1 : decode cL_walk 1 = .ok (.iconst 0, 1) := by decide +kernel
theorem dL_walk_2 : decode cL_walk 2 = .ok (.aload_n 0, 1) := by decide +kernel
theorem dL_walk_3 : decode cL_walk 3 = .ok (.iload_n 1, 1) := by decide +kernel
theorem dL_walk_4 : decode cL_walk 4 = .ok (.invokevirtual 75, 3) := by decide +kernel
theorem dL_walk_7 : decode cL_walk 7 = .ok (.i2l, 1) := by decide +kernel
theorem dL_walk_8 : decode cL_walk 8 = .ok (.lastore, 1) := by decide +kernel
theorem dL_walk_9 : decode cL_walk 9 = .ok (.goto 9, 3) := by decide +kernel
theorem dL_walk_12 : decode cL_walk 12 = .ok (.astore_n 3, 1) := by decide +kernel
theorem dL_walk_13 : decode cL_walk 13 = .ok (.iconst 1, 1) := by decide +kernel
theorem dL_walk_14 : decode cL_walk 14 = .ok (.ireturn, 1) := by decide +kernel
theorem dL_walk_15 : decode cL_walk 15 = .ok (.astore_n 3, 1) := by decide +kernel
theorem dL_walk_16 : decode cL_walk 16 = .ok (.iconst 2, 1) := by decide +kernel
theorem dL_walk_17 : decode cL_walk 17 = .ok (.ireturn, 1) := by decide +kernel
theorem dL_walk_18 : decode cL_walk 18 = .ok (.iconst 0, 1) := by decide +kernel
theorem dL_walk_19 : decode cL_walk 19 = .ok (.ireturn, 1) := by decide +kernel
theorem pr_walk9 {E : dE} {X : dX} {XH : Nat → Option String} {hx : dHH} {b n d a u : Nat} {p0 : Int32} {h : dH} {z : dZ} (K : drunC E X XH hx b n d kL_walk.1 4 (dent [.ref a, .int p0, .ref u]) [.int p0, .ref a, .int 0, .ref u] h 0 0 = some z) : drunC E X XH hx b (n + 4) d kL_walk.1 0 (dent [.ref a, .int p0, .ref u]) [] h 0 0 = some z := by
  refine gc_p9 (w := (1, dent [.ref a, .int p0, .ref u], [.ref u])) dL_walk_0 rfl ?_
  refine gc_p9 (w := (2, dent [.ref a, .int p0, .ref u], [.int 0, .ref u])) dL_walk_1 (by rw [← zi_0]; rfl) ?_
  refine gc_p9 (w := (3, dent [.ref a, .int p0, .ref u], [.ref a, .int 0, .ref u])) dL_walk_2 rfl ?_
  refine gc_p9 (w := (4, dent [.ref a, .int p0, .ref u], [.int p0, .ref a, .int 0, .ref u])) dL_walk_3 rfl ?_
  exact K
theorem sa_walk9 {C : zC} {κ : zS} {u : Nat} {J : Nat → Int64} {v : Int64} {lo : dL0} (hb : yb C ≤ u) (z0 : zT κ u = 0) (hu : (yh C).2 u = some (outC9 J)) : ∀ n x y, drunC (yEn C) dXX (dKK.2.2 100) kL_walk.2 (yb C) (n + 4) 15 kL_walk.1 8 lo [.long v, .int 0, .ref u] (zH C κ) x y = some (some (.int 0), zH (cO9 C u (vp_updL J 0 v)) κ, x, y) := ls_9 hb z0 hu rfl dL_walk_8 dL_walk_9 rfl dL_walk_18 dL_walk_19
theorem sx_walk9 {C : zC} {κ : zS} {u : Nat} {J : Nat → Int64} {v : Int32} {lo : dL0} (hb : yb C ≤ u) (z0 : zT κ u = 0) (hu : (yh C).2 u = some (outC9 J)) : ∀ n x y, drunC (yEn C) dXX (dKK.2.2 100) kL_walk.2 (yb C) (n + 5) 15 kL_walk.1 7 lo [.int v, .int 0, .ref u] (zH C κ) x y = some (some (.int 0), zH (cO9 C u (vp_updL J 0 v.toInt64)) κ, x, y) := fun n x y => gc_p9 (n := n + 4) (w := (8, lo, [.long v.toInt64, .int 0, .ref u])) dL_walk_7 rfl (sa_walk9 hb z0 hu n x y)
theorem wM_walk9 {C : zC} {n0 a u : Nat} {L : Int} {ρ : Nat → Nat} {κ : zS} {J : Nat → Int64} {p0 : Int32} (W : zW C n0 κ) (T : zT κ a = 15) (I : chI9 ρ κ a L) (σ9 : rS) (hr8 : RC8 κ a σ9) (pb : PB21 σ9) (hb : yb C ≤ u) (h0 : zT κ u = 0) (hn : u < zn κ) (hu : (yh C).2 u = some (outC9 J)) : wrP9 C κ u kL_walk [.ref a, .int p0, .ref u] (fun v C' κ' => pW23 κ a L p0 σ9 (siU σ9 113 0) κ' ∧ cAw u C' v (fun x => cy21 σ9 p0 = 0 ∧ ∀ N tr v', TRF21 p0 (siU σ9 113 0) N tr v' → x = v') (fun c => c ≠ 0 ∧ cy21 σ9 p0 = c)) := by
  have R := Ch_walk_c8 (a1 := p0) W T ρ L σ9 hr8 pb I (Q := fun v κ' => pW23 κ a L p0 σ9 (siU σ9 113 0) κ' ∧ (fun x => cy21 σ9 p0 = 0 ∧ ∀ N tr v', TRF21 p0 (siU σ9 113 0) N tr v' → x = v') v) (X := fun cls κ' => ((cls = "java/lang/IllegalArgumentException" ∧ cy21 σ9 p0 = 2) ∨ (cls = "java/lang/IllegalStateException" ∧ cy21 σ9 p0 = 1)) ∧ κ' = ut κ) (fun v κ' e => ⟨⟨⟨ρ, e.1.1⟩, e.1.2⟩, e.2⟩) (fun cls κ' h => h)
  refine wr_p9 (p := 4) (s := 5) (pc := 4) (idx := 75) (lo := dent [.ref a, .int p0, .ref u]) (st := [.int p0, .ref a, .int 0, .ref u]) (rest := [.int 0, .ref u]) W rfl (fun n z K => pr_walk9 K) dL_walk_4 (inv_e9 (As := [.int p0]) (rest := [.int 0, .ref u]) (j := 229) (by decide +kernel) rfl ⟨rfl, by decide, by decide, by decide⟩ rfl (Nat.le_of_ble_eq_true rfl) (Nat.le_of_ble_eq_true rfl) (Or.inl T)) R (by decide) (fun vo κ' q W' => ?_) (fun cls κ' q => ?_)
  · obtain ⟨v, rfl, hP, hq⟩ := oI_l9 q
    obtain ⟨F, Z⟩ := hP.2.1
    have z0 : zT κ' u = 0 := Z.2.2.2.1.1.2 u hn h0
    exact ⟨cO9 C u (vp_updL J 0 v.toInt64), ⟨hP, Or.inl ⟨rfl, vp_updL J 0 v.toInt64, v, if_pos rfl, if_pos rfl, hq⟩⟩, Or.inr ⟨_, rfl⟩, sx_walk9 hb z0 hu⟩
  · have hX := oI_r9 q
    obtain ⟨ec, e1⟩ := hX
    rcases ec with ⟨rfl, e2⟩ | ⟨rfl, e2⟩
    · exact ⟨e1, 2, ⟨⟨⟨ρ, I⟩, ⟨fun _ _ => False, zF.rf⟩, ⟨rfl, rfl, rfl, rfl⟩, ⟨⟨rfl, rfl⟩, kA_r16.1, kA_r16.2.1, kA_r16.2.2.1⟩, fun z => absurd (z.symm.trans e2) (by decide), fun _ => ⟨rfl, kA_r16.2.2.2⟩⟩, Or.inr ⟨Or.inr (Or.inl rfl), ⟨by decide, e2⟩⟩⟩, ⟨15, by decide +kernel, Or.inl ⟨3, dL_walk_15, by decide, tl_9 rfl dL_walk_16 zi_2 dL_walk_17⟩⟩⟩
    · exact ⟨e1, 1, ⟨⟨⟨ρ, I⟩, ⟨fun _ _ => False, zF.rf⟩, ⟨rfl, rfl, rfl, rfl⟩, ⟨⟨rfl, rfl⟩, kA_r16.1, kA_r16.2.1, kA_r16.2.2.1⟩, fun z => absurd (z.symm.trans e2) (by decide), fun _ => ⟨rfl, kA_r16.2.2.2⟩⟩, Or.inr ⟨Or.inl rfl, ⟨by decide, e2⟩⟩⟩, ⟨12, by decide +kernel, Or.inl ⟨3, dL_walk_12, by decide, tl_9 rfl dL_walk_13 zi_1 dL_walk_14⟩⟩⟩
def kL_played : dM × dHH := ((yL_played, cL_played, 4, (some .int), true, 100, 3), [(0, 8, 11, 25)])
theorem dL_played_0 : decode cL_played 0 = .ok (.aload_n 2, 1) := by decide +kernel
theorem dL_played_1 : decode cL_played 1 = .ok (.iconst 0, 1) := by decide +kernel
theorem dL_played_2 : decode cL_played 2 = .ok (.aload_n 0, 1) := by decide +kernel
theorem dL_played_3 : decode cL_played 3 = .ok (.iload_n 1, 1) := by decide +kernel
theorem dL_played_4 : decode cL_played 4 = .ok (.invokevirtual 78, 3) := by decide +kernel
theorem dL_played_7 : decode cL_played 7 = .ok (.lastore, 1) := by decide +kernel
theorem dL_played_8 : decode cL_played 8 = .ok (.goto 6, 3) := by decide +kernel
theorem dL_played_11 : decode cL_played 11 = .ok (.astore_n 3, 1) := by decide +kernel
theorem dL_played_12 : decode cL_played 12 = .ok (.iconst 1, 1) := by decide +kernel
theorem dL_played_13 : decode cL_played 13 = .ok (.ireturn, 1) := by decide +kernel
theorem dL_played_14 : decode cL_played 14 = .ok (.iconst 0, 1) := by decide +kernel
theorem dL_played_15 : decode cL_played 15 = .ok (.ireturn, 1) := by decide +kernel
theorem pr_played9 {E : dE} {X : dX} {XH : Nat → Option String} {hx : dHH} {b n d a u : Nat} {p0 : Int32} {h : dH} {z : dZ} (K : drunC E X XH hx b n d kL_played.1 4 (dent [.ref a, .int p0, .ref u]) [.int p0, .ref a, .int 0, .ref u] h 0 0 = some z) : drunC E X XH hx b (n + 4) d kL_played.1 0 (dent [.ref a, .int p0, .ref u]) [] h 0 0 = some z := by
  refine gc_p9 (w := (1, dent [.ref a, .int p0, .ref u], [.ref u])) dL_played_0 rfl ?_
  refine gc_p9 (w := (2, dent [.ref a, .int p0, .ref u], [.int 0, .ref u])) dL_played_1 (by rw [← zi_0]; rfl) ?_
  refine gc_p9 (w := (3, dent [.ref a, .int p0, .ref u], [.ref a, .int 0, .ref u])) dL_played_2 rfl ?_
  refine gc_p9 (w := (4, dent [.ref a, .int p0, .ref u], [.int p0, .ref a, .int 0, .ref u])) dL_played_3 rfl ?_
  exact K
theorem sa_played9 {C : zC} {κ : zS} {u : Nat} {J : Nat → Int64} {v : Int64} {lo : dL0} (hb : yb C ≤ u) (z0 : zT κ u = 0) (hu : (yh C).2 u = some (outC9 J)) : ∀ n x y, drunC (yEn C) dXX (dKK.2.2 100) kL_played.2 (yb C) (n + 4) 15 kL_played.1 7 lo [.long v, .int 0, .ref u] (zH C κ) x y = some (some (.int 0), zH (cO9 C u (vp_updL J 0 v)) κ, x, y) := ls_9 hb z0 hu rfl dL_played_7 dL_played_8 rfl dL_played_14 dL_played_15
theorem sx_played9 {C : zC} {κ : zS} {u : Nat} {J : Nat → Int64} {v : Int64} {lo : dL0} (hb : yb C ≤ u) (z0 : zT κ u = 0) (hu : (yh C).2 u = some (outC9 J)) : ∀ n x y, drunC (yEn C) dXX (dKK.2.2 100) kL_played.2 (yb C) (n + 4) 15 kL_played.1 7 lo [.long v, .int 0, .ref u] (zH C κ) x y = some (some (.int 0), zH (cO9 C u (vp_updL J 0 v)) κ, x, y) := sa_played9 hb z0 hu
theorem wM_played9 {C : zC} {n0 a u : Nat} {L : Int} {ρ : Nat → Nat} {κ : zS} {J : Nat → Int64} {p0 : Int32} (W : zW C n0 κ) (T : zT κ a = 15) (I : chI9 ρ κ a L) (σ9 : rS) (hr8 : RC8 κ a σ9) (hb : yb C ≤ u) (h0 : zT κ u = 0) (hn : u < zn κ) (hu : (yh C).2 u = some (outC9 J)) : wrP9 C κ u kL_played [.ref a, .int p0, .ref u] (fun v C' κ' => pC9 κ a L κ' ∧ cLw u C' v (fun x => pc23 σ9 p0 ∧ x = pv23 σ9 p0) (fun c => c = 1 ∧ ¬ pc23 σ9 p0)) := by
  have R := Ch_played_c8 (a1 := p0) W T ρ L σ9 hr8 I (Q := fun v κ' => pC9 κ a L κ' ∧ (fun x => pc23 σ9 p0 ∧ x = pv23 σ9 p0) v) (X := fun cls κ' => cls = "java/lang/IndexOutOfBoundsException" ∧ κ' = ut κ ∧ ¬ pc23 σ9 p0) (fun v κ' e => ⟨by rw [← e.1]; exact pC_r9 I, e.2⟩) (fun cls κ' h => h)
  refine wr_p9 (p := 4) (s := 4) (pc := 4) (idx := 78) (lo := dent [.ref a, .int p0, .ref u]) (st := [.int p0, .ref a, .int 0, .ref u]) (rest := [.int 0, .ref u]) W rfl (fun n z K => pr_played9 K) dL_played_4 (inv_e9 (As := [.int p0]) (rest := [.int 0, .ref u]) (j := 230) (by decide +kernel) rfl ⟨rfl, by decide, by decide, by decide⟩ rfl (Nat.le_of_ble_eq_true rfl) (Nat.le_of_ble_eq_true rfl) (Or.inl T)) R (by decide) (fun vo κ' q W' => ?_) (fun cls κ' q => ?_)
  · obtain ⟨v, rfl, hP, hq⟩ := oJ_l9 q
    obtain ⟨F, Z⟩ := hP.2.1
    have z0 : zT κ' u = 0 := Z.2.2.2.1.1.2 u hn h0
    exact ⟨cO9 C u (vp_updL J 0 v), ⟨hP, Or.inl ⟨rfl, vp_updL J 0 v, v, if_pos rfl, if_pos rfl, hq⟩⟩, Or.inr ⟨_, rfl⟩, sx_played9 hb z0 hu⟩
  · have hX := oJ_r9 q
    obtain ⟨rfl, e1, e2⟩ := hX
    exact ⟨e1, 1, ⟨pC_r9 I, Or.inr ⟨Or.inl rfl, rfl, e2⟩⟩, ⟨11, by decide +kernel, Or.inl ⟨3, dL_played_11, by decide, tl_9 rfl dL_played_12 zi_1 dL_played_13⟩⟩⟩
def kL_independent : dM × dHH := ((yL_independent, cL_independent, 5, (some .int), true, 100, 4), [(0, 17, 20, 30), (0, 17, 24, 25)])
theorem dL_independent_0 : decode cL_independent 0 = .ok (.aload_n 3, 1) := by decide +kernel
theorem dL_independent_1 : decode cL_independent 1 = .ok (.iconst 0, 1) := by decide +kernel
theorem dL_independent_2 : decode cL_independent 2 = .ok (.aload_n 0, 1) := by decide +kernel
theorem dL_independent_3 : decode cL_independent 3 = .ok (.iload_n 1, 1) := by decide +kernel
theorem dL_independent_4 : decode cL_independent 4 = .ok (.iload_n 2, 1) := by decide +kernel
theorem dL_independent_5 : decode cL_independent 5 = .ok (.invokevirtual 82, 3) := by decide +kernel
theorem dL_independent_8 : decode cL_independent 8 = .ok (.ifCond .eq 7, 3) := by decide +kernel
theorem dL_independent_11 : decode cL_independent 11 = .ok (.lconst 1, 1) := by decide +kernel
theorem dL_independent_12 : decode cL_independent 12 = .ok (.goto 4, 3) := by decide +kernel
theorem dL_independent_15 : decode cL_independent 15 = .ok (.lconst 0, 1) := by decide +kernel
theorem dL_independent_16 : decode cL_independent 16 = .ok (.lastore, 1) := by decide +kernel
theorem dL_independent_17 : decode cL_independent 17 = .ok (.goto 11, 3) := by decide +kernel
theorem dL_independent_20 : decode cL_independent 20 = .ok (.astore 4, 2) := by decide +kernel
theorem dL_independent_22 : decode cL_independent 22 = .ok (.iconst 1, 1) := by decide +kernel
theorem dL_independent_23 : decode cL_independent 23 = .ok (.ireturn, 1) := by decide +kernel
theorem dL_independent_24 : decode cL_independent 24 = .ok (.astore 4, 2) := by decide +kernel
theorem dL_independent_26 : decode cL_independent 26 = .ok (.iconst 2, 1) := by decide +kernel
theorem dL_independent_27 : decode cL_independent 27 = .ok (.ireturn, 1) := by decide +kernel
theorem dL_independent_28 : decode cL_independent 28 = .ok (.iconst 0, 1) := by decide +kernel
theorem dL_independent_29 : decode cL_independent 29 = .ok (.ireturn, 1) := by decide +kernel
theorem pr_independent9 {E : dE} {X : dX} {XH : Nat → Option String} {hx : dHH} {b n d a u : Nat} {p0 : Int32} {p1 : Int32} {h : dH} {z : dZ} (K : drunC E X XH hx b n d kL_independent.1 5 (dent [.ref a, .int p0, .int p1, .ref u]) [.int p1, .int p0, .ref a, .int 0, .ref u] h 0 0 = some z) : drunC E X XH hx b (n + 5) d kL_independent.1 0 (dent [.ref a, .int p0, .int p1, .ref u]) [] h 0 0 = some z := by
  refine gc_p9 (w := (1, dent [.ref a, .int p0, .int p1, .ref u], [.ref u])) dL_independent_0 rfl ?_
  refine gc_p9 (w := (2, dent [.ref a, .int p0, .int p1, .ref u], [.int 0, .ref u])) dL_independent_1 (by rw [← zi_0]; rfl) ?_
  refine gc_p9 (w := (3, dent [.ref a, .int p0, .int p1, .ref u], [.ref a, .int 0, .ref u])) dL_independent_2 rfl ?_
  refine gc_p9 (w := (4, dent [.ref a, .int p0, .int p1, .ref u], [.int p0, .ref a, .int 0, .ref u])) dL_independent_3 rfl ?_
  refine gc_p9 (w := (5, dent [.ref a, .int p0, .int p1, .ref u], [.int p1, .int p0, .ref a, .int 0, .ref u])) dL_independent_4 rfl ?_
  exact K
theorem sa_independent9 {C : zC} {κ : zS} {u : Nat} {J : Nat → Int64} {v : Int64} {lo : dL0} (hb : yb C ≤ u) (z0 : zT κ u = 0) (hu : (yh C).2 u = some (outC9 J)) : ∀ n x y, drunC (yEn C) dXX (dKK.2.2 100) kL_independent.2 (yb C) (n + 4) 15 kL_independent.1 16 lo [.long v, .int 0, .ref u] (zH C κ) x y = some (some (.int 0), zH (cO9 C u (vp_updL J 0 v)) κ, x, y) := ls_9 hb z0 hu rfl dL_independent_16 dL_independent_17 rfl dL_independent_28 dL_independent_29
theorem sx_independent09 {C : zC} {κ : zS} {u : Nat} {J : Nat → Int64} {lo : dL0} (hb : yb C ≤ u) (z0 : zT κ u = 0) (hu : (yh C).2 u = some (outC9 J)) : ∀ n x y, drunC (yEn C) dXX (dKK.2.2 100) kL_independent.2 (yb C) (n + 7) 15 kL_independent.1 8 lo [.int 0, .int 0, .ref u] (zH C κ) x y = some (some (.int 0), zH (cO9 C u (vp_updL J 0 0)) κ, x, y) := fun n x y => gc_p9 (n := n + 6) (w := (15, lo, [.int 0, .ref u])) dL_independent_8 rfl (gc_p9 (n := n + 5) (w := (16, lo, [.long 0, .int 0, .ref u])) dL_independent_15 rfl (sa_independent9 hb z0 hu (n + 1) x y))
theorem sx_independent19 {v : Int32} {C : zC} {κ : zS} {u : Nat} {J : Nat → Int64} {lo : dL0} (hb : yb C ≤ u) (z0 : zT κ u = 0) (hu : (yh C).2 u = some (outC9 J)) (e0 : v ≠ 0) : ∀ n x y, drunC (yEn C) dXX (dKK.2.2 100) kL_independent.2 (yb C) (n + 7) 15 kL_independent.1 8 lo [.int v, .int 0, .ref u] (zH C κ) x y = some (some (.int 0), zH (cO9 C u (vp_updL J 0 1)) κ, x, y) := fun n x y => gc_p9 (n := n + 6) (w := (11, lo, [.int 0, .ref u])) dL_independent_8 (ifeq_n9 e0 rfl) (gc_p9 (n := n + 5) (w := (12, lo, [.long 1, .int 0, .ref u])) dL_independent_11 rfl (gc_p9 (n := n + 4) (w := (16, lo, [.long 1, .int 0, .ref u])) dL_independent_12 rfl (sa_independent9 hb z0 hu n x y)))
theorem wM_independent9 {C : zC} {n0 a u : Nat} {L : Int} {ρ : Nat → Nat} {κ : zS} {J : Nat → Int64} {p0 : Int32} {p1 : Int32} (W : zW C n0 κ) (T : zT κ a = 15) (I : chI9 ρ κ a L) (σ9 : rS) (hr8 : RC8 κ a σ9) (pb : pOK σ9 ∧ jVs σ9) (hb : yb C ≤ u) (h0 : zT κ u = 0) (hn : u < zn κ) (hu : (yh C).2 u = some (outC9 J)) : wrP9 C κ u kL_independent [.ref a, .int p0, .int p1, .ref u] (fun v C' κ' => pC9 κ a L κ' ∧ cAw u C' v (fun x => hi24 σ9 p0 p1 ∧ x = iw24 σ9 p0 p1) (fun c => c ≠ 0 ∧ ic24 σ9 p0 p1 = c)) := by
  have R := Ch_independent_c8 (a1 := p0) (a2 := p1) W T ρ L σ9 hr8 pb I (Q := fun v κ' => pC9 κ a L κ' ∧ (fun x => hi24 σ9 p0 p1 ∧ x = iw24 σ9 p0 p1) v) (X := fun cls κ' => ((cls = "java/lang/IllegalStateException" ∧ ic24 σ9 p0 p1 = 1) ∨ (cls = "java/lang/IndexOutOfBoundsException" ∧ ic24 σ9 p0 p1 = 2)) ∧ κ' = ut κ) (fun v κ' e => ⟨by obtain ⟨ρ', e1, e2⟩ := e.1; exact ⟨⟨ρ', e1⟩, e2⟩, e.2⟩) (fun cls κ' h => h)
  refine wr_p9 (p := 5) (s := 7) (pc := 5) (idx := 82) (lo := dent [.ref a, .int p0, .int p1, .ref u]) (st := [.int p1, .int p0, .ref a, .int 0, .ref u]) (rest := [.int 0, .ref u]) W rfl (fun n z K => pr_independent9 K) dL_independent_5 (inv_e9 (As := [.int p0, .int p1]) (rest := [.int 0, .ref u]) (j := 231) (by decide +kernel) rfl ⟨rfl, by decide, by decide, by decide⟩ rfl (Nat.le_of_ble_eq_true rfl) (Nat.le_of_ble_eq_true rfl) (Or.inl T)) R (by decide) (fun vo κ' q W' => ?_) (fun cls κ' q => ?_)
  · obtain ⟨v, rfl, hP, hq⟩ := oI_l9 q
    obtain ⟨F, Z⟩ := hP.2.1
    have z0 : zT κ' u = 0 := Z.2.2.2.1.1.2 u hn h0
    by_cases e0 : v = 0
    · subst e0
      exact ⟨cO9 C u (vp_updL J 0 0), ⟨hP, Or.inl ⟨rfl, vp_updL J 0 0, 0, if_pos rfl, (if_pos rfl).trans (show (0 : Int64) = (0 : Int32).toInt64 from by decide), hq⟩⟩, Or.inr ⟨_, rfl⟩, sx_independent09 hb z0 hu⟩
    · have v1 : v = 1 := by
        have y : nb v := by rw [hq.2]; exact nb_i24
        exact y.resolve_left e0
      exact ⟨cO9 C u (vp_updL J 0 1), ⟨hP, Or.inl ⟨rfl, vp_updL J 0 1, v, if_pos rfl, (if_pos rfl).trans (show (1 : Int64) = v.toInt64 from by rw [v1]; decide), hq⟩⟩, Or.inr ⟨_, rfl⟩, sx_independent19 hb z0 hu e0⟩
  · have hX := oI_r9 q
    obtain ⟨ec, e1⟩ := hX
    rcases ec with ⟨rfl, e2⟩ | ⟨rfl, e2⟩
    · exact ⟨e1, 1, ⟨pC_r9 I, Or.inr ⟨Or.inl rfl, ⟨by decide, e2⟩⟩⟩, ⟨20, by decide +kernel, Or.inr ⟨4, dL_independent_20, by decide, tl_9 rfl dL_independent_22 zi_1 dL_independent_23⟩⟩⟩
    · exact ⟨e1, 2, ⟨pC_r9 I, Or.inr ⟨Or.inr (Or.inl rfl), ⟨by decide, e2⟩⟩⟩, ⟨24, by decide +kernel, Or.inr ⟨4, dL_independent_24, by decide, tl_9 rfl dL_independent_26 zi_2 dL_independent_27⟩⟩⟩
def kL_given : dM × dHH := ((yL_given, cL_given, 6, (some .int), true, 100, 5), [(0, 19, 22, 30), (0, 19, 26, 25)])
theorem dL_given_0 : decode cL_given 0 = .ok (.aload 4, 2) := by decide +kernel
theorem dL_given_2 : decode cL_given 2 = .ok (.iconst 0, 1) := by decide +kernel
theorem dL_given_3 : decode cL_given 3 = .ok (.aload_n 0, 1) := by decide +kernel
theorem dL_given_4 : decode cL_given 4 = .ok (.iload_n 1, 1) := by decide +kernel
theorem dL_given_5 : decode cL_given 5 = .ok (.iload_n 2, 1) := by decide +kernel
theorem dL_given_6 : decode cL_given 6 = .ok (.iload_n 3, 1) := by decide +kernel
theorem dL_given_7 : decode cL_given 7 = .ok (.invokevirtual 86, 3) := by decide +kernel
theorem dL_given_10 : decode cL_given 10 = .ok (.ifCond .eq 7, 3) := by decide +kernel
theorem dL_given_13 : decode cL_given 13 = .ok (.lconst 1, 1) := by decide +kernel
theorem dL_given_14 : decode cL_given 14 = .ok (.goto 4, 3) := by decide +kernel
theorem dL_given_17 : decode cL_given 17 = .ok (.lconst 0, 1) := by decide +kernel
theorem dL_given_18 : decode cL_given 18 = .ok (.lastore, 1) := by decide +kernel
theorem dL_given_19 : decode cL_given 19 = .ok (.goto 11, 3) := by decide +kernel
theorem dL_given_22 : decode cL_given 22 = .ok (.astore 5, 2) := by decide +kernel
theorem dL_given_24 : decode cL_given 24 = .ok (.iconst 1, 1) := by decide +kernel
theorem dL_given_25 : decode cL_given 25 = .ok (.ireturn, 1) := by decide +kernel
theorem dL_given_26 : decode cL_given 26 = .ok (.astore 5, 2) := by decide +kernel
theorem dL_given_28 : decode cL_given 28 = .ok (.iconst 2, 1) := by decide +kernel
theorem dL_given_29 : decode cL_given 29 = .ok (.ireturn, 1) := by decide +kernel
theorem dL_given_30 : decode cL_given 30 = .ok (.iconst 0, 1) := by decide +kernel
theorem dL_given_31 : decode cL_given 31 = .ok (.ireturn, 1) := by decide +kernel
theorem pr_given9 {E : dE} {X : dX} {XH : Nat → Option String} {hx : dHH} {b n d a u : Nat} {p0 : Int32} {p1 : Int32} {p2 : Int32} {h : dH} {z : dZ} (K : drunC E X XH hx b n d kL_given.1 7 (dent [.ref a, .int p0, .int p1, .int p2, .ref u]) [.int p2, .int p1, .int p0, .ref a, .int 0, .ref u] h 0 0 = some z) : drunC E X XH hx b (n + 6) d kL_given.1 0 (dent [.ref a, .int p0, .int p1, .int p2, .ref u]) [] h 0 0 = some z := by
  refine gc_p9 (w := (2, dent [.ref a, .int p0, .int p1, .int p2, .ref u], [.ref u])) dL_given_0 rfl ?_
  refine gc_p9 (w := (3, dent [.ref a, .int p0, .int p1, .int p2, .ref u], [.int 0, .ref u])) dL_given_2 (by rw [← zi_0]; rfl) ?_
  refine gc_p9 (w := (4, dent [.ref a, .int p0, .int p1, .int p2, .ref u], [.ref a, .int 0, .ref u])) dL_given_3 rfl ?_
  refine gc_p9 (w := (5, dent [.ref a, .int p0, .int p1, .int p2, .ref u], [.int p0, .ref a, .int 0, .ref u])) dL_given_4 rfl ?_
  refine gc_p9 (w := (6, dent [.ref a, .int p0, .int p1, .int p2, .ref u], [.int p1, .int p0, .ref a, .int 0, .ref u])) dL_given_5 rfl ?_
  refine gc_p9 (w := (7, dent [.ref a, .int p0, .int p1, .int p2, .ref u], [.int p2, .int p1, .int p0, .ref a, .int 0, .ref u])) dL_given_6 rfl ?_
  exact K
theorem sa_given9 {C : zC} {κ : zS} {u : Nat} {J : Nat → Int64} {v : Int64} {lo : dL0} (hb : yb C ≤ u) (z0 : zT κ u = 0) (hu : (yh C).2 u = some (outC9 J)) : ∀ n x y, drunC (yEn C) dXX (dKK.2.2 100) kL_given.2 (yb C) (n + 4) 15 kL_given.1 18 lo [.long v, .int 0, .ref u] (zH C κ) x y = some (some (.int 0), zH (cO9 C u (vp_updL J 0 v)) κ, x, y) := ls_9 hb z0 hu rfl dL_given_18 dL_given_19 rfl dL_given_30 dL_given_31
theorem sx_given09 {C : zC} {κ : zS} {u : Nat} {J : Nat → Int64} {lo : dL0} (hb : yb C ≤ u) (z0 : zT κ u = 0) (hu : (yh C).2 u = some (outC9 J)) : ∀ n x y, drunC (yEn C) dXX (dKK.2.2 100) kL_given.2 (yb C) (n + 7) 15 kL_given.1 10 lo [.int 0, .int 0, .ref u] (zH C κ) x y = some (some (.int 0), zH (cO9 C u (vp_updL J 0 0)) κ, x, y) := fun n x y => gc_p9 (n := n + 6) (w := (17, lo, [.int 0, .ref u])) dL_given_10 rfl (gc_p9 (n := n + 5) (w := (18, lo, [.long 0, .int 0, .ref u])) dL_given_17 rfl (sa_given9 hb z0 hu (n + 1) x y))
theorem sx_given19 {v : Int32} {C : zC} {κ : zS} {u : Nat} {J : Nat → Int64} {lo : dL0} (hb : yb C ≤ u) (z0 : zT κ u = 0) (hu : (yh C).2 u = some (outC9 J)) (e0 : v ≠ 0) : ∀ n x y, drunC (yEn C) dXX (dKK.2.2 100) kL_given.2 (yb C) (n + 7) 15 kL_given.1 10 lo [.int v, .int 0, .ref u] (zH C κ) x y = some (some (.int 0), zH (cO9 C u (vp_updL J 0 1)) κ, x, y) := fun n x y => gc_p9 (n := n + 6) (w := (13, lo, [.int 0, .ref u])) dL_given_10 (ifeq_n9 e0 rfl) (gc_p9 (n := n + 5) (w := (14, lo, [.long 1, .int 0, .ref u])) dL_given_13 rfl (gc_p9 (n := n + 4) (w := (18, lo, [.long 1, .int 0, .ref u])) dL_given_14 rfl (sa_given9 hb z0 hu n x y)))
theorem wM_given9 {C : zC} {n0 a u : Nat} {L : Int} {ρ : Nat → Nat} {κ : zS} {J : Nat → Int64} {p0 : Int32} {p1 : Int32} {p2 : Int32} (W : zW C n0 κ) (T : zT κ a = 15) (I : chI9 ρ κ a L) (σ9 : rS) (hr8 : RC8 κ a σ9) (pb : pOK σ9 ∧ jVs σ9) (hb : yb C ≤ u) (h0 : zT κ u = 0) (hn : u < zn κ) (hu : (yh C).2 u = some (outC9 J)) : wrP9 C κ u kL_given [.ref a, .int p0, .int p1, .int p2, .ref u] (fun v C' κ' => pC9 κ a L κ' ∧ cAw u C' v (fun x => hg24 σ9 p0 p1 p2 ∧ x = gw24 σ9 p0 p1 p2) (fun c => c ≠ 0 ∧ gc24 σ9 p0 p1 p2 = c)) := by
  have R := Ch_given_c8 (a1 := p0) (a2 := p1) (a3 := p2) W T ρ L σ9 hr8 pb I (Q := fun v κ' => pC9 κ a L κ' ∧ (fun x => hg24 σ9 p0 p1 p2 ∧ x = gw24 σ9 p0 p1 p2) v) (X := fun cls κ' => ((cls = "java/lang/IllegalStateException" ∧ gc24 σ9 p0 p1 p2 = 1) ∨ (cls = "java/lang/IndexOutOfBoundsException" ∧ gc24 σ9 p0 p1 p2 = 2)) ∧ κ' = ut κ) (fun v κ' e => ⟨by obtain ⟨ρ', e1, e2⟩ := e.1; exact ⟨⟨ρ', e1⟩, e2⟩, e.2⟩) (fun cls κ' h => h)
  refine wr_p9 (p := 6) (s := 7) (pc := 7) (idx := 86) (lo := dent [.ref a, .int p0, .int p1, .int p2, .ref u]) (st := [.int p2, .int p1, .int p0, .ref a, .int 0, .ref u]) (rest := [.int 0, .ref u]) W rfl (fun n z K => pr_given9 K) dL_given_7 (inv_e9 (As := [.int p0, .int p1, .int p2]) (rest := [.int 0, .ref u]) (j := 232) (by decide +kernel) rfl ⟨rfl, by decide, by decide, by decide⟩ rfl (Nat.le_of_ble_eq_true rfl) (Nat.le_of_ble_eq_true rfl) (Or.inl T)) R (by decide) (fun vo κ' q W' => ?_) (fun cls κ' q => ?_)
  · obtain ⟨v, rfl, hP, hq⟩ := oI_l9 q
    obtain ⟨F, Z⟩ := hP.2.1
    have z0 : zT κ' u = 0 := Z.2.2.2.1.1.2 u hn h0
    by_cases e0 : v = 0
    · subst e0
      exact ⟨cO9 C u (vp_updL J 0 0), ⟨hP, Or.inl ⟨rfl, vp_updL J 0 0, 0, if_pos rfl, (if_pos rfl).trans (show (0 : Int64) = (0 : Int32).toInt64 from by decide), hq⟩⟩, Or.inr ⟨_, rfl⟩, sx_given09 hb z0 hu⟩
    · have v1 : v = 1 := by
        have y : nb v := by rw [hq.2]; exact nb_i24
        exact y.resolve_left e0
      exact ⟨cO9 C u (vp_updL J 0 1), ⟨hP, Or.inl ⟨rfl, vp_updL J 0 1, v, if_pos rfl, (if_pos rfl).trans (show (1 : Int64) = v.toInt64 from by rw [v1]; decide), hq⟩⟩, Or.inr ⟨_, rfl⟩, sx_given19 hb z0 hu e0⟩
  · have hX := oI_r9 q
    obtain ⟨ec, e1⟩ := hX
    rcases ec with ⟨rfl, e2⟩ | ⟨rfl, e2⟩
    · exact ⟨e1, 1, ⟨pC_r9 I, Or.inr ⟨Or.inl rfl, ⟨by decide, e2⟩⟩⟩, ⟨22, by decide +kernel, Or.inr ⟨5, dL_given_22, by decide, tl_9 rfl dL_given_24 zi_1 dL_given_25⟩⟩⟩
    · exact ⟨e1, 2, ⟨pC_r9 I, Or.inr ⟨Or.inr (Or.inl rfl), ⟨by decide, e2⟩⟩⟩, ⟨26, by decide +kernel, Or.inr ⟨5, dL_given_26, by decide, tl_9 rfl dL_given_28 zi_2 dL_given_29⟩⟩⟩
