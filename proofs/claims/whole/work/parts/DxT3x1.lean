section
set_option maxHeartbeats 1600000
/-! Tarjan's walk in the class's rows -/
section
variable {n : Nat} {fs : Nat → Int} {tg : Nat → Nat} {se lo cu lo' : Nat → Int} {pa hp : Nat → Nat} {ko : Nat → Int} {H d : Int}
/-- the low of the state before, brought down -/
theorem TJ_l8 {k b : Nat} (J : TJ8 n fs tg se lo cu pa hp ko H d) (hd : 1 < d) (hk : pa (d - 1).toNat = k) (hb : pa (d - 2).toNat = b) (l1 : ∀ x, x ≠ b → lo' x = lo x) (l2 : lo' b ≤ lo b) (l3 : lo' b = lo b ∨ lo' b = lo k) : TJ8 n fs tg se lo' cu pa hp ko H d := by
  obtain ⟨J1, J2, J3, J4, J5, J6, J7⟩ := J
  have rbk : Rf8 (Ed8 fs tg) b k := by
    have y := J5 (d - 2).toNat (by omega)
    rw [show (d - 2).toNat + 1 = (d - 1).toNat by omega, hk, hb] at y
    exact y
  have le : ∀ x, lo' x ≤ lo x := fun x => by
    by_cases c : x = b
    · rw [c]; exact l2
    · rw [l1 x c]; exact Int.le_refl _
  obtain ⟨j41, u4, j42, j43, j44⟩ := J4 (d - 1).toNat (by omega)
  rw [hk] at j41 j43 j44
  refine ⟨J1, J2, fun x hx u he => ?_, fun j hj => ?_, J5, J6, J7⟩
  · obtain ⟨k1, k2⟩ := J3 x hx u he
    exact ⟨k1, fun y j hj => Int.le_trans (le _) (k2 y j hj)⟩
  · obtain ⟨k1, u, k2, k3, k4⟩ := J4 j hj
    refine ⟨Int.le_trans (le _) k1, ?_⟩
    by_cases c : pa j = b
    · rcases l3 with z | z
      · rw [c, z, ← c]
        exact ⟨u, k2, k3, k4⟩
      · rw [c, z]
        exact ⟨u4, j42, j43, Rf_t8 rbk j44⟩
    · rw [l1 _ c]
      exact ⟨u, k2, k3, k4⟩
end
abbrev qI8 (f : Nat → Int32) : Nat → Int := fun x => (f x).toInt
abbrev qN8 (f : Nat → Int32) : Nat → Nat := fun x => (f x).toNatClampNeg
def tjB8 (τ : zS) (a n : Nat) (d : Int) : Prop := TB8 n (qI8 (zA τ (zR τ weSeen a))) (qN8 (zA τ (zR τ wePath a))) (qN8 (zA τ (zR τ weHeap a))) (qI8 (zA τ (zR τ weKnotOf a))) (zI τ weHeaped a).toInt d
def tjA8 (τ : zS) (a n : Nat) (d : Int) : Prop := TJ8 n (qI8 (zA τ (zR τ weFirsts a))) (qN8 (zA τ (zR τ weTargets a))) (qI8 (zA τ (zR τ weSeen a))) (qI8 (zA τ (zR τ weLow a))) (qI8 (zA τ (zR τ weCursor a))) (qN8 (zA τ (zR τ wePath a))) (qN8 (zA τ (zR τ weHeap a))) (qI8 (zA τ (zR τ weKnotOf a))) (zI τ weHeaped a).toInt d
theorem m1_8 {x : Int32} : x.toInt = -1 ↔ x = -1 := ⟨fun e => Int32.toInt_inj.mp (by rw [e]; rfl), fun e => by rw [e]; rfl⟩
theorem z0_8 {x : Int32} : x.toInt = 0 ↔ x = 0 := ⟨fun e => Int32.toInt_inj.mp (by rw [e]; rfl), fun e => by rw [e]; rfl⟩
theorem tjB_z8 {τ : zS} {a n : Nat} {d : Int} (Z : tjZ τ a n d) : tjB8 τ a n d := by
  obtain ⟨⟨⟨c1, _, _, c4⟩, _⟩, h, p, o, _⟩ := Z
  have h1 := h
  obtain ⟨h11, h12, h13, h14, h15⟩ := h1
  refine ⟨fun i hi => ?_, fun i j hij hj => tjH_m h hij hj, fun s hs => ⟨(h13 s hs).1, fun s1 s2 => ?_, fun s1 => ?_⟩, fun j hj => ?_, fun i j hij hj => tjP_m p hij hj, c4, c1⟩
  · obtain ⟨a1, a2, a3, _⟩ := h11 i hi
    have kk := cnk a1.1
    have w := (h13 (zA τ (zR τ weHeap a) i).toNatClampNeg (by omega)).1
    have w2 : (zA τ (zR τ weSeen a) (zA τ (zR τ weHeap a) i).toNatClampNeg).toInt ≠ 0 := fun e => a2 (z0_8.mp e)
    refine ⟨?_, ?_, ?_⟩
    · show (zA τ (zR τ weHeap a) i).toNatClampNeg < n
      omega
    · show 0 < (zA τ (zR τ weSeen a) (zA τ (zR τ weHeap a) i).toNatClampNeg).toInt
      omega
    · exact m1_8.mpr a3
  · exact h14 s hs (fun e => s1 (z0_8.mpr e)) (m1_8.mp s2)
  · exact m1_8.mpr (h15 s hs (z0_8.mp s1))
  · obtain ⟨i, i1, i2⟩ := p.1 j hj
    exact ⟨i, i1, by show (zA τ (zR τ weHeap a) i).toNatClampNeg = (zA τ (zR τ wePath a) j).toNatClampNeg; rw [i2]⟩
/-- the class's links -/
theorem tjE_8 {τ : zS} {a n : Nat} {L : Int} (wo : wfO n L (zA τ (zR τ weFirsts a)) (zA τ (zR τ weTargets a))) : ∀ x y, x < n → Ed8 (qI8 (zA τ (zR τ weFirsts a))) (qN8 (zA τ (zR τ weTargets a))) x y → y < n := fun x y hx ⟨i, i1, i2, i3⟩ => by
  have i2' : (i : Int) < (zA τ (zR τ weFirsts a) (x + 1)).toInt := i2
  have w := wo.1 (x + 1) (by omega)
  have t := wo.2.2.2 i (by omega)
  have k := cnk t.1
  have i3' : (zA τ (zR τ weTargets a) i).toNatClampNeg = y := i3
  omega
section
variable {n : Nat} {wf tg sn lw cu pa hp ko : Nat → Int32} {H d : Int}
theorem up_i8 {f : Nat → Int32} {i : Nat} {x : Int32} : qI8 (upd f i x) i = x.toInt := by
  show (upd f i x i).toInt = _
  rw [show upd f i x i = x from if_pos rfl]
theorem up_n8 {f : Nat → Int32} {i : Nat} {x : Int32} : qN8 (upd f i x) i = x.toNatClampNeg := by
  show (upd f i x i).toNatClampNeg = _
  rw [show upd f i x i = x from if_pos rfl]
theorem un_i8 {f : Nat → Int32} {i j : Nat} {x : Int32} (h : j ≠ i) : qI8 (upd f i x) j = qI8 f j := by
  show (upd f i x j).toInt = _
  rw [show upd f i x j = f j from if_neg h]
theorem un_n8 {f : Nat → Int32} {i j : Nat} {x : Int32} (h : j ≠ i) : qN8 (upd f i x) j = qN8 f j := by
  show (upd f i x j).toNatClampNeg = _
  rw [show upd f i x j = f j from if_neg h]
/-- a state come to, by rows -/
theorem TJ_w8 {v : Nat} {y st cn : Int32} {cu0 : Nat → Int32} (B : TB8 n (qI8 sn) (qN8 pa) (qN8 hp) (qI8 ko) H d) (J : TJ8 n (qI8 wf) (qN8 tg) (qI8 sn) (qI8 lw) (qI8 cu0) (qN8 pa) (qN8 hp) (qI8 ko) H d) (yv : y.toNatClampNeg = v) (v0 : sn v = 0) (S0 : 0 ≤ st.toInt) (S1 : (st + 1).toInt = st.toInt + 1) (hS : ∀ s, s < n → (sn s).toInt ≤ st.toInt)
    (e : (d = 0 ∧ cu = cu0) ∨ (0 < d ∧ cu = upd cu0 (pa (d - 1).toNat).toNatClampNeg cn ∧ (wf (pa (d - 1).toNat).toNatClampNeg).toInt ≤ (cu0 (pa (d - 1).toNat).toNatClampNeg).toInt ∧ 0 ≤ (cu0 (pa (d - 1).toNat).toNatClampNeg).toInt ∧ (cu0 (pa (d - 1).toNat).toNatClampNeg).toInt < (wf ((pa (d - 1).toNat).toNatClampNeg + 1)).toInt ∧ (tg (cu0 (pa (d - 1).toNat).toNatClampNeg).toInt.toNat).toNatClampNeg = v ∧ cn.toInt = (cu0 (pa (d - 1).toNat).toNatClampNeg).toInt + 1)) :
    TJ8 n (qI8 wf) (qN8 tg) (qI8 (upd sn v (st + 1))) (qI8 (upd lw v (st + 1))) (qI8 (upd cu v (wf v))) (qN8 (upd pa d.toNat y)) (qN8 (upd hp H.toNat y)) (qI8 ko) (H + 1) (d + 1) := by
  have d0 := B.2.2.2.2.2.1
  have H0 := B.2.2.2.2.2.2
  have pv : 0 < d → (pa (d - 1).toNat).toNatClampNeg ≠ v := fun q z => by
    obtain ⟨i, i1, i2⟩ := B.2.2.2.1 (d - 1).toNat (by omega)
    have w := (B.1 i i1).2.1
    rw [i2] at w
    have w' : 0 < (sn (pa (d - 1).toNat).toNatClampNeg).toInt := w
    rw [z, v0, t0i] at w'
    omega
  refine TJ_v8 (S := st.toInt) B J (show (sn v).toInt = 0 by rw [v0]; rfl) S0 hS (fun q => ?_) (fun x hx => un_i8 hx) (by rw [up_i8]; exact S1) (fun x hx => un_i8 hx) (by rw [up_i8]; exact S1) (fun x hx => ?_) up_i8 (fun j hj => un_n8 (by omega)) (by rw [up_n8]; exact yv) (fun i hi => un_n8 (by omega)) (by rw [up_n8]; exact yv)
  · rcases e with ⟨z, _⟩ | ⟨_, z1, z2, z3, z4, z5, z6⟩
    · omega
    · refine ⟨z2, z3, z4, z5, ?_⟩
      have hv := pv q
      refine (un_i8 (f := cu) (i := v) (j := (pa (d - 1).toNat).toNatClampNeg) hv).trans ?_
      rw [z1, up_i8]
      exact z6
  · rcases e with ⟨_, z⟩ | ⟨z0, z1, _⟩
    · exact Or.inr (by rw [un_i8 hx, z])
    · by_cases c : x = (pa (d - 1).toNat).toNatClampNeg
      · exact Or.inl ⟨z0, c⟩
      · exact Or.inr (by rw [un_i8 hx, z1, un_i8 c])
end

end
section
set_option maxHeartbeats 1600000
/-! Tarjan's walk: steps of the class -/
section
variable {n : Nat} {wf tg sn lw cu pa hp ko : Nat → Int32} {H d : Int}
theorem TJ_x8 {k u0 : Nat} {cn : Int32} {lw' : Nat → Int32} (B : TB8 n (qI8 sn) (qN8 pa) (qN8 hp) (qI8 ko) H d) (J : TJ8 n (qI8 wf) (qN8 tg) (qI8 sn) (qI8 lw) (qI8 cu) (qN8 pa) (qN8 hp) (qI8 ko) H d) (hd : 0 < d) (hk : (pa (d - 1).toNat).toNatClampNeg = k) (y1 : (wf k).toInt ≤ (cu k).toInt ∧ 0 ≤ (cu k).toInt) (y2 : (cu k).toInt < (wf (k + 1)).toInt) (y3 : (tg (cu k).toInt.toNat).toNatClampNeg = u0) (hu : u0 < n) (su : sn u0 ≠ 0) (ec : cn.toInt = (cu k).toInt + 1)
    (l1 : ∀ x, x ≠ k → lw' x = lw x) (l2 : (lw' k).toInt ≤ (lw k).toInt) (l3 : lw' k = lw k ∨ (lw' k = sn u0 ∧ ko u0 = -1)) (l4 : ko u0 = -1 → (lw' k).toInt ≤ (sn u0).toInt) : TJ8 n (qI8 wf) (qN8 tg) (qI8 sn) (qI8 lw') (qI8 (upd cu k cn)) (qN8 pa) (qN8 hp) (qI8 ko) H d := by
  refine TJ_e8 B J hd hk y1 y2 y3 hu (fun z => su (z0_8.mp z)) (fun x hx => un_i8 hx) (by rw [up_i8]; exact ec) (fun x hx => ?_) l2 ?_ (fun z => l4 (m1_8.mp z))
  · show (lw' x).toInt = (lw x).toInt
    rw [l1 x hx]
  · rcases l3 with z | ⟨z1, z2⟩
    · exact Or.inl (show (lw' k).toInt = (lw k).toInt by rw [z])
    · exact Or.inr ⟨show (lw' k).toInt = (sn u0).toInt by rw [z1], m1_8.mpr z2⟩
end
theorem tjA_v8 {C : zC} {n0 a n : Nat} {κ τ : zS} {x : Int32} {d : Int} {cu0 : Nat → Int32} (W : zW C n0 κ) (T : zT κ a = 14) (hn : n ≤ 1000) (Z : tjZ κ a n d) (J : TJ8 n (qI8 (zA κ (zR κ weFirsts a))) (qN8 (zA κ (zR κ weTargets a))) (qI8 (zA κ (zR κ weSeen a))) (qI8 (zA κ (zR κ weLow a))) (qI8 cu0) (qN8 (zA κ (zR κ wePath a))) (qN8 (zA κ (zR κ weHeap a))) (qI8 (zA κ (zR κ weKnotOf a))) (zI κ weHeaped a).toInt d) (hs : zA κ (zR κ weSeen a) x.toNatClampNeg = 0) (hk : x.toNatClampNeg < n)
    (e : (d = 0 ∧ zA κ (zR κ weCursor a) = cu0) ∨ (0 < d ∧ ∃ k cn : Int32, zA κ (zR κ wePath a) (d - 1).toNat = k ∧ zA κ (zR κ weCursor a) = upd cu0 k.toNatClampNeg cn ∧ (zA κ (zR κ weFirsts a) k.toNatClampNeg).toInt ≤ (cu0 k.toNatClampNeg).toInt ∧ 0 ≤ (cu0 k.toNatClampNeg).toInt ∧ (cu0 k.toNatClampNeg).toInt < (zA κ (zR κ weFirsts a) (k.toNatClampNeg + 1)).toInt ∧ (zA κ (zR κ weTargets a) (cu0 k.toNatClampNeg).toInt.toNat).toNatClampNeg = x.toNatClampNeg ∧ cn.toInt = (cu0 k.toNatClampNeg).toInt + 1))
    (R : visR κ τ a x.toNatClampNeg x d.toNat) : tjA8 τ a n (d + 1) := by
  obtain ⟨E, r1, r2, r3, r4, r5, ⟨s1, s2, s3⟩, i1, i2, i3, i4⟩ := R
  have wfr := kn_r W T E (f := weFirsts) (by decide) (by decide)
  have tgr := kn_r W T E (f := weTargets) (by decide) (by decide)
  have c1 := Z.1.1
  have c2 := Z.1.2.1
  have c3 := Z.1.2.2.1
  have cl := cBq_lt (f := zA κ (zR κ weSeen a)) (n := n) hk hs
  have eS := cn1 (x := zI κ weStamp a) (by omega) (by omega)
  have eH := cn1 (x := zI κ weHeaped a) (by omega) (by omega)
  have hS : ∀ s, s < n → (zA κ (zR κ weSeen a) s).toInt ≤ (zI κ weStamp a).toInt := fun s q => (Z.2.1.2.2.1 s q).2
  have J2 : TJ8 n (qI8 (zA κ (zR κ weFirsts a))) (qN8 (zA κ (zR κ weTargets a))) (qI8 (upd (zA κ (zR κ weSeen a)) x.toNatClampNeg (zI κ weStamp a + 1))) (qI8 (upd (zA κ (zR κ weLow a)) x.toNatClampNeg (zI κ weStamp a + 1))) (qI8 (upd (zA κ (zR κ weCursor a)) x.toNatClampNeg (zA κ (zR κ weFirsts a) x.toNatClampNeg))) (qN8 (upd (zA κ (zR κ wePath a)) d.toNat x)) (qN8 (upd (zA κ (zR κ weHeap a)) (zI κ weHeaped a).toInt.toNat x)) (qI8 (zA κ (zR κ weKnotOf a))) ((zI κ weHeaped a).toInt + 1) (d + 1) := by
    rcases e with ⟨z1, z2⟩ | ⟨z0, k, cn, z1, z2, z3, z4, z5, z6, z7⟩
    · exact TJ_w8 (v := x.toNatClampNeg) (y := x) (st := zI κ weStamp a) (cn := 0) (tjB_z8 Z) J rfl hs (by omega) eS.2 hS (Or.inl ⟨z1, z2⟩)
    · refine TJ_w8 (v := x.toNatClampNeg) (y := x) (st := zI κ weStamp a) (cn := cn) (tjB_z8 Z) J rfl hs (by omega) eS.2 hS (Or.inr ⟨z0, ?_, ?_, ?_, ?_, ?_, ?_⟩)
      · rw [z1]; exact z2
      · rw [z1]; exact z3
      · rw [z1]; exact z4
      · rw [z1]; exact z5
      · rw [z1]; exact z6
      · rw [z1]; exact z7
  unfold tjA8
  rw [E.2.1, r1, r2, r3, r4, r5, s1, wfr, tgr, i2, eH.2]
  exact J2
/-- no knot: back along the path -/
theorem tjA_p8 {τ : zS} {a n : Nat} {l2 l7 : Int32} (F : tjB8 τ a n (l2.toInt + 1) ∧ tjA8 τ a n (l2.toInt + 1) ∧ (zA τ (zR τ wePath a) l2.toInt.toNat).toNatClampNeg = l7.toNatClampNeg ∧ (zA τ (zR τ weCursor a) l7.toNatClampNeg).toInt = (zA τ (zR τ weFirsts a) (l7.toNatClampNeg + 1)).toInt ∧ (0 < l2.toInt → (zA τ (zR τ weLow a) (zA τ (zR τ wePath a) (l2.toInt - 1).toNat).toNatClampNeg).toInt ≤ (zA τ (zR τ weLow a) l7.toNatClampNeg).toInt)) (h0 : 0 < l2.toInt) (ne : ¬ zA τ (zR τ weLow a) l7.toNatClampNeg = zA τ (zR τ weSeen a) l7.toNatClampNeg) : tjA8 τ a n l2.toInt := by
  obtain ⟨B, J, f1, f2, f3⟩ := F
  have e1 : (l2.toInt + 1 - 1).toNat = l2.toInt.toNat := by omega
  have e2 : (l2.toInt + 1 - 2).toNat = (l2.toInt - 1).toNat := by omega
  have q := TJ_p8 (k := l7.toNatClampNeg) (b := (zA τ (zR τ wePath a) (l2.toInt - 1).toNat).toNatClampNeg) B J (by omega) (by rw [e1]; exact f1) (by rw [e2]) f2 (fun z => ne (Int32.toInt_inj.mp z)) (fun _ _ => rfl) ⟨Int.le_refl _, f3 h0⟩ (Or.inl rfl)
  rw [show l2.toInt + 1 - 1 = l2.toInt by omega] at q
  exact q
/-- a knot is tied -/
theorem tjA_t8 {C : zC} {n0 a n pos : Nat} {κ τ : zS} {l2 l7 : Int32} {L : Int} (W : zW C n0 κ) (T : zT κ a = 14) (wo : wfO n L (zA κ (zR κ weFirsts a)) (zA κ (zR κ weTargets a))) (F : tjB8 κ a n (l2.toInt + 1) ∧ tjA8 κ a n (l2.toInt + 1) ∧ (zA κ (zR κ wePath a) l2.toInt.toNat).toNatClampNeg = l7.toNatClampNeg ∧ (zA κ (zR κ weCursor a) l7.toNatClampNeg).toInt = (zA κ (zR κ weFirsts a) (l7.toNatClampNeg + 1)).toInt ∧ (0 < l2.toInt → (zA κ (zR κ weLow a) (zA κ (zR κ wePath a) (l2.toInt - 1).toNat).toNatClampNeg).toInt ≤ (zA κ (zR κ weLow a) l7.toNatClampNeg).toInt)) (h0 : 0 ≤ l2.toInt) (el : zA κ (zR κ weLow a) l7.toNatClampNeg = zA κ (zR κ weSeen a) l7.toNatClampNeg) (hq : (pos : Int) < (zI κ weHeaped a).toInt) (ek : zA κ (zR κ weHeap a) pos = l7)
    (O : tjO n (zA κ (zR κ weKnotOf a)) (zA κ (zR κ weOrder a)) (zA κ (zR κ weKnotFirsts a)) ((zI κ wePlaced a).toInt) ((zI κ weKnots a).toInt)) (K0 : 0 ≤ (zI κ weKnots a).toInt) (S : tiS κ τ a) (h9 : (zI τ weHeaped a).toInt = (pos : Int)) : tjA8 τ a n l2.toInt := by
  obtain ⟨B, J, f1, f2, f3⟩ := F
  obtain ⟨E, L, Fk, St, R⟩ := S
  have wfr := kn_r W T E (f := weFirsts) (by decide) (by decide)
  have tgr := kn_r W T E (f := weTargets) (by decide) (by decide)
  have e1 : (l2.toInt + 1 - 1).toNat = l2.toInt.toNat := by omega
  rw [h9] at R
  obtain ⟨_, R2, R3, _⟩ := R
  have q := TJ_t8 (k := l7.toNatClampNeg) (pos := pos) (K := (zI κ weKnots a).toInt) (lo' := qI8 (zA κ (zR κ weLow a))) (ko' := qI8 (zA τ (zR κ weKnotOf a))) B J (tjE_8 wo) (by omega) (by rw [e1]; exact f1) f2 (by show (zA κ (zR κ weLow a) l7.toNatClampNeg).toInt = (zA κ (zR κ weSeen a) l7.toNatClampNeg).toInt; rw [el]) ⟨hq, by show (zA κ (zR κ weHeap a) pos).toNatClampNeg = _; rw [ek]⟩ (fun _ _ => rfl) K0 (fun s hs z => by
      obtain ⟨i, i1, i2⟩ := O.2.2 s hs (fun y => z (m1_8.mpr y))
      have w := (O.1 i i1).2.1.2
      rw [i2] at w
      exact w) (fun i i1 i2 => by
      show (zA τ (zR κ weKnotOf a) (zA κ (zR κ weHeap a) i).toNatClampNeg).toInt = _
      rw [R2 i (by omega) i2]) (fun s hs => by
      show (zA τ (zR κ weKnotOf a) s).toInt = (zA κ (zR κ weKnotOf a) s).toInt
      rw [R3 s (fun i i1 i2 => hs i (by omega) i2)])
  rw [show l2.toInt + 1 - 1 = l2.toInt by omega] at q
  unfold tjA8
  rw [E.2.1, h9, L weSeen (by decide), L weLow (by decide), L weHeap (by decide), L wePath (by decide), L weCursor (by decide), wfr, tgr]
  exact q

end
section
set_option maxHeartbeats 1600000
/-! the class: follow: Tarjan's walk -/
def foJ8 (τ : zS) (a n : Nat) (l2 l7 : Int32) : Prop := tjB8 τ a n (l2.toInt + 1) ∧ tjA8 τ a n (l2.toInt + 1) ∧ (zA τ (zR τ wePath a) l2.toInt.toNat).toNatClampNeg = l7.toNatClampNeg ∧ (zA τ (zR τ weCursor a) l7.toNatClampNeg).toInt = (zA τ (zR τ weFirsts a) (l7.toNatClampNeg + 1)).toInt ∧ (0 < l2.toInt → (zA τ (zR τ weLow a) (zA τ (zR τ wePath a) (l2.toInt - 1).toNat).toNatClampNeg).toInt ≤ (zA τ (zR τ weLow a) l7.toNatClampNeg).toInt)
theorem We_follow_q6 {C : zC} {n0 : Nat} {a0 : Nat} {a1 : Int32} {κ : zS} {Q : zS → Prop} (W : zW C n0 κ) (Ta0 : zT κ a0 = 14) (m9 : Nat) (hA9 : tjA8 κ a0 m9 0) (hp : weM κ a0 ∧ ((zI κ weTotal a0).toInt = (m9 : Int) ∧ m9 ≤ 1000) ∧ wfO m9 ((zN κ (zR κ weTargets a0))) (zA κ (zR κ weFirsts a0)) (zA κ (zR κ weTargets a0)) ∧ (zN κ (zR κ weTargets a0)) ≤ 20000 ∧ tjZ κ a0 m9 0 ∧ (zI κ weHeaped a0).toInt = 0 ∧ (0 ≤ a1.toInt ∧ a1.toInt < m9) ∧ zA κ (zR κ weSeen a0) a1.toNatClampNeg = 0) (h : ∀ (κ' : zS), ((knE κ κ' a0 ∧ tjZ κ' a0 m9 0 ∧ (zI κ' weHeaped a0).toInt = 0 ∧ snG κ κ' a0 m9 ∧ zA κ' (zR κ' weSeen a0) a1.toNatClampNeg ≠ 0) ∧ (tjA8 κ' a0 m9 0)) → Q κ') : zRun C 1 mWe_follow [.ref a0, .int a1] κ (oV Q noX) := by
  refine We_follow_run W Ta0 ?_
  replace W := W.lo (Nat.le_trans W.1.2.1 W.1.2.2) (Nat.le_refl (zn κ))
  unfold w_We_follow_0
  obtain ⟨M, ⟨tn, n1⟩, wo, lT, Z0, h0, k1, s0⟩ := hp
  have M9 := M
  obtain ⟨M1, M2, M3, M4, M5, M6, M7, M8, M09, M10, M11⟩ := M9
  have kn1 := cnk k1.1
  have wn := wo.1 m9 (Nat.le_refl _)
  have wL := wo.2.2.1
  intro T1
  refine We_visit_c W T1  ?_ (fun κ_2 q3 => ?_)
  · exact ⟨M, by omega, by decide, by omega⟩  -- p1
  have E2 := q3.1
  have V := tjZ_v (d9 := 0) W Ta0 n1 wo.2.1 Z0 (fun _ => h0) k1 s0 q3
  have tt : zI κ_2 weTotal a0 = zI κ weTotal a0 := E2.1.i (fun z => absurd z.2 (by decide))
  intro W4
  intro M5
  refine ⟨?_, ?_⟩
  · rw [E2.2.1, E2.2.2, tt, inb_iff]; omega  -- b2
  intro x6 hx6
  unfold w_We_follow_35
  refine ⟨fun n l0 l2 l3 l5 τ => n = (tjG τ a0 m9 + l2.toInt).toNat ∧ ((a0 = l0 ∧ foI κ τ a0 m9 a1.toNatClampNeg l2 ∧ l3.toInt = 2 * ((zA κ (zR κ weFirsts a0) m9).toInt + m9) + 2 ∧ 0 ≤ l5.toInt ∧ l5.toInt + tjG τ a0 m9 + l2.toInt ≤ (zA κ (zR κ weFirsts a0) m9).toInt + m9 + 1) ∧ tjA8 τ a0 m9 l2.toInt), ⟨_, rfl, ?_⟩, ?_⟩
  · refine and_5 ?_ (fun o9 => tjA_v8 (d := 0) W Ta0 n1 Z0 hA9 s0 (by omega) (Or.inl ⟨rfl, rfl⟩) q3)  -- j3
    have W2 := kn_r W Ta0 E2 (f := weFirsts) (by decide) (by decide)
    have tk : (zI κ weTotal a0).toNatClampNeg = m9 := by
      have := cnk (x := zI κ weTotal a0) (by omega)
      omega
    have b := tjF_b Z0.2.2.2.2 (Nat.le_refl m9)
    have w0 := (wo.1 0 (Nat.zero_le _)).1
    have g9 := V.2.1
    have gk : tjG κ a0 m9 ≤ (zA κ (zR κ weFirsts a0) m9).toInt - (zA κ (zR κ weFirsts a0) 0).toInt + m9 := b
    have z1 : (1 : Int32).toInt = 1 := rfl
    have z0 : (0 : Int64).toInt = 0 := rfl
    refine ⟨rfl, ⟨E2, V.1, fun z => absurd z (by decide), V.2.2.1, V.2.2.2.1⟩, ?_, by decide, by rw [z0, z1]; omega⟩
    rw [hx6, E2.2.1, tt, W2, tk, foF (L := 0) (n := 0) (by omega) (by omega)]
    omega
  rintro n35 _ x35_2 x35_3 x35_5 κ35 W35 T35_0 ⟨hn35, ⟨rfl, i35⟩, hE⟩
  obtain ⟨⟨E35, Z35, d35, s35, r35⟩, l35, p35, f35⟩ := i35
  have rr := E35.2.1
  have nn := E35.2.2
  have W9 := kn_r W Ta0 E35 (f := weFirsts) (by decide) (by decide)
  have W8 := kn_r W Ta0 E35 (f := weTargets) (by decide) (by decide)
  have G0 : 0 ≤ tjG κ35 a0 m9 := tjF_p Z35.2.2.2.2 (fun k hk => by rw [rr, W9]; exact wo.2.1 k hk)
  have dd := Z35.1.1
  have db := Z35.1.2.2.2
  have db1 := Z35.1.2.2.1
  have db2 := cBq_le (f := zA κ35 (zR κ35 weSeen a0)) (n := m9)
  have hj225 : ∀ (l0 : Nat) (l2 : Int32) (l3 : Int64) (l5 : Int64) (τ : zS), zW C (zn κ) τ → zT τ l0 = 14 → ((a0 = l0 ∧ foI κ τ a0 m9 a1.toNatClampNeg l2 ∧ x35_3 = l3 ∧ x35_5 = l5 ∧ tjG τ a0 m9 + l2.toInt + 1 = tjG κ35 a0 m9 + x35_2.toInt ∧ 0 ≤ tjG τ a0 m9 + l2.toInt ∧ x35_5.toInt < x35_3.toInt) ∧ tjA8 τ a0 m9 l2.toInt) → w_We_follow_225 C (zn κ) Q (fun (l0' : Nat) (l2' : Int32) (l3' : Int64) (l5' : Int64) (τ : zS) => ∃ k < n35, (fun (n : Nat) (l0 : Nat) (l2 : Int32) (l3 : Int64) (l5 : Int64) (τ : zS) => n = (tjG τ a0 m9 + l2.toInt).toNat ∧ ((a0 = l0 ∧ foI κ τ a0 m9 a1.toNatClampNeg l2 ∧ l3.toInt = 2 * ((zA κ (zR κ weFirsts a0) m9).toInt + m9) + 2 ∧ 0 ≤ l5.toInt ∧ l5.toInt + tjG τ a0 m9 + l2.toInt ≤ (zA κ (zR κ weFirsts a0) m9).toInt + m9 + 1) ∧ tjA8 τ a0 m9 l2.toInt)) k l0' l2' l3' l5' τ) l0 l2 l3 l5 τ := by
    rintro _ y225_2 y225_3 y225_5 τ225 W225 T225_0 ⟨⟨rfl, j225⟩, hE⟩
    unfold w_We_follow_225
    intro x7 hx7
    refine lp_b5 ?_ (fun d9 => ⟨rfl, ?_⟩)
    · obtain ⟨F, rfl, rfl, g, g0, lt⟩ := j225
      rw [hn35]; omega
    · refine and_5 ?_ (fun o9 => hE)  -- i5
      obtain ⟨F, rfl, rfl, g, g0, lt⟩ := j225
      have z1 : (1 : Int64).toInt = 1 := rfl
      have e : (x35_5 + 1).toInt = x35_5.toInt + 1 := by rw [jadd_i (by rw [z1]; omega) (by rw [z1]; omega), z1]
      exact ⟨rfl, F, l35, by rw [hx7, e]; omega, by rw [hx7, e]; omega⟩
  have hj202 : ∀ (l0 : Nat) (l2 : Int32) (l3 : Int64) (l5 : Int64) (l7 : Int32) (τ : zS), zW C (zn κ) τ → zT τ l0 = 14 → ((a0 = l0 ∧ (knE κ τ a0 ∧ snG κ τ a0 m9 ∧ zA τ (zR τ weSeen a0) a1.toNatClampNeg ≠ 0) ∧ x35_3 = l3 ∧ x35_5 = l5 ∧ x35_5.toInt < x35_3.toInt ∧ 0 ≤ l2.toInt ∧ (tjC m9 (zA τ (zR τ weSeen a0)) ((zI τ weHeaped a0).toInt) ((zI τ wePlaced a0).toInt) ((zI τ weStamp a0).toInt) ((zI τ weKnots a0).toInt) (l2.toInt + 1) ∧ tjZ τ a0 m9 l2.toInt) ∧ tjG τ a0 m9 + l2.toInt + 1 = tjG κ35 a0 m9 + x35_2.toInt ∧ (0 ≤ l7.toInt ∧ l7.toInt < m9) ∧ ∃ pos : Nat, (pos : Int) < (zI τ weHeaped a0).toInt ∧ zA τ (zR τ weHeap a0) pos = l7 ∧ (l2.toInt = 0 → pos = 0) ∧ (∀ j : Nat, (j : Int) < l2.toInt → (zA τ (zR τ weSeen a0) (zA τ (zR τ wePath a0) j).toNatClampNeg).toInt < (zA τ (zR τ weSeen a0) l7.toNatClampNeg).toInt)) ∧ foJ8 τ a0 m9 l2 l7) → w_We_follow_202 C (zn κ) Q (fun (l0' : Nat) (l2' : Int32) (l3' : Int64) (l5' : Int64) (τ : zS) => ∃ k < n35, (fun (n : Nat) (l0 : Nat) (l2 : Int32) (l3 : Int64) (l5 : Int64) (τ : zS) => n = (tjG τ a0 m9 + l2.toInt).toNat ∧ ((a0 = l0 ∧ foI κ τ a0 m9 a1.toNatClampNeg l2 ∧ l3.toInt = 2 * ((zA κ (zR κ weFirsts a0) m9).toInt + m9) + 2 ∧ 0 ≤ l5.toInt ∧ l5.toInt + tjG τ a0 m9 + l2.toInt ≤ (zA κ (zR κ weFirsts a0) m9).toInt + m9 + 1) ∧ tjA8 τ a0 m9 l2.toInt)) k l0' l2' l3' l5' τ) l0 l2 l3 l5 l7 τ := by
    rintro _ y202_2 y202_3 y202_5 y202_7 τ202 W202 T202_0 ⟨⟨rfl, j202⟩, hE⟩
    unfold w_We_follow_202
    obtain ⟨⟨E, sg, sr⟩, rfl, rfl, lt, d0, Z, g, k7, pos, hq, ek, hd, hk⟩ := j202
    have r := E.2.1
    have nE := E.2.2
    have k7n := cnk k7.1
    have W7 := kn_r W Ta0 E (f := weFirsts) (by decide) (by decide)
    have G := tjF_p Z.2.2.2.2.2 (fun k hk => by rw [r, W7]; exact wo.2.1 k hk)
    have G9 : 0 ≤ tjG τ202 a0 m9 := G
    refine ⟨?_, ?_⟩
    · rw [r, nE, inb_iff]; omega  -- b6
    refine ⟨?_, ?_⟩
    · rw [r, nE, inb_iff]; omega  -- b7
    refine ⟨fun c8 => ?_, fun c8 => ?_⟩
    · skip
      refine hj225 _ _ _ _ _ W202 ?_ ?_
      · exact T202_0  -- t8
      · refine and_5 ?_ (fun o9 => ?_)  -- k9
        · refine ⟨rfl, ⟨E, Z.2, fun z => ?_, sg, sr⟩, rfl, rfl, g, by omega, lt⟩
          have q := Z.2.2.1.1 pos hq
          have e9 := hd z
          rw [e9] at q ek
          rw [ek] at q
          exact absurd (Int32.toInt_inj.mp (by omega)) c8
        · by_cases z : y202_2.toInt = 0
          · exfalso
            have q := Z.2.2.1.1 pos hq
            have e9 := hd z
            rw [e9] at q ek
            rw [ek] at q
            exact absurd (Int32.toInt_inj.mp (by omega)) c8
          · exact tjA_p8 hE (by omega) c8
    · skip
      intro T9
      refine We_tie_c W202 T9 pos m9 ?_ (fun κ_10 q11 => ?_)
      · have c1 := Z.1.1
        have c2 := Z.1.2.1
        have c3 := Z.1.2.2.1
        have c4 := Z.1.2.2.2
        have cb := cBq_le (f := zA τ202 (zR τ202 weSeen a0)) (n := m9)
        exact ⟨weM_K E M, ⟨by rw [E.1.i (fun z => absurd z.2 (by decide))]; exact tn, n1⟩, by omega, by omega, hq, by omega, fun i hi => (Z.2.2.1.1 i hi).1, ek, fun i hi e => tjH_i Z.2.2.1 hi hq (by rw [e, ek])⟩
      intro W12
      intro M13
      refine hj225 _ _ _ _ _ W12 ?_ ?_
      · exact q11.1.1.1.t T202_0 (by decide)  -- t11
      · refine and_5 ?_ (fun o9 => ?_)  -- k12
        · obtain ⟨Z1, G1, s1, h1⟩ := tjZ_t W202 T202_0 n1 d0 Z hq ek hk hd q11.1 q11.2.1 q11.2.2
          exact ⟨rfl, ⟨E.tr q11.1.1, Z1, h1, sg.tr s1, s1 _ (by omega) sr⟩, rfl, rfl, by rw [G1]; exact g, by rw [G1]; omega, lt⟩
        · have w7 : zA τ202 (zR τ202 weFirsts a0) = zA κ (zR κ weFirsts a0) := by rw [r]; exact W7
          have w8 : zA τ202 (zR τ202 weTargets a0) = zA κ (zR κ weTargets a0) := by rw [r]; exact kn_r W Ta0 E (f := weTargets) (by decide) (by decide)
          have K0 := Z.1.1
          refine tjA_t8 W202 T202_0 (by rw [w7, w8]; exact wo) hE d0 (by first | exact c8 | exact Classical.not_not.mp c8) hq ek Z.2.2.2.2.1 (by omega) q11.1 q11.2.1
  refine ⟨fun c14 => ?_, fun c14 => ?_⟩
  · skip
    refine h _ ?_
    · refine and_5 ?_ (fun o9 => ?_)  -- q13
      · rw [lg_cmp_ge, jlei] at c14
        exfalso
        omega
      · rw [lg_cmp_ge, jlei] at c14
        exfalso
        omega
  · skip
    refine ⟨fun c15 => ?_, fun c15 => ?_⟩
    · skip
      refine h _ ?_
      · refine and_5 ?_ (fun o9 => ?_)  -- q14
        · rw [lei, t0i] at c15
          have e : x35_2.toInt = 0 := by omega
          rw [e] at Z35
          exact ⟨E35, Z35, d35 e, s35, r35⟩
        · rw [lei, t0i] at c15
          have e : x35_2.toInt = 0 := by omega
          rw [e] at hE
          exact hE
    · skip
      rw [lei, t0i] at c15
      rw [lg_cmp_ge, jlei] at c14
      obtain ⟨pos, hq, ek, hd1, kr, ks, kl1, kl2⟩ := tjZ_k Z35 (by omega)
      have d1 : (x35_2 - 1).toInt = x35_2.toInt - 1 := dec_i (by omega)
      have nd : (x35_2 - 1).toNatClampNeg = (x35_2.toInt - 1).toNat := by
        have := cnk (x := x35_2 - 1) (by omega)
        omega
      have lt : x35_5.toInt < x35_3.toInt := by omega
      refine ⟨?_, ?_⟩
      · rw [rr, nn, inb_iff, d1]; omega  -- b15
      intro x16 hx16
      rw [nd] at hx16
      have kp := kr
      rw [← hx16] at ek kr ks kl1 kl2
      have k16 := cnk kr.1
      have e16 := cn1 kr.1 (by omega)
      refine ⟨?_, ?_⟩
      · rw [rr, nn, inb_iff]; omega  -- b16
      refine ⟨?_, ?_⟩
      · rw [rr, nn, inb_iff, e16.2]; omega  -- b17
      refine ⟨fun c17 => ?_, fun c17 => ?_⟩
      · skip
        intro x18 hx18
        refine ⟨fun c19 => ?_, fun c19 => ?_⟩
        · skip
          refine hj202 _ _ _ _ _ _ W35 ?_ ?_
          · exact T35_0  -- t18
          · refine and_5 ?_ (fun o9 => ?_)  -- k19
            · have d18 : x18.toInt = x35_2.toInt - 1 := by rw [hx18, add_i (by rw [tmi]; omega) (by rw [tmi]; omega), tmi]; omega
              rw [lei, t0i] at c19
              have z := tjZ_d Z35 (by omega)
              have e9 : x35_2.toInt - 1 + 1 = x35_2.toInt := by omega
              refine ⟨rfl, ⟨E35, s35, r35⟩, rfl, rfl, lt, by omega, ?_, by omega, kr, pos, hq, ek, fun _ => hd1 (by omega), fun j hj => by omega⟩
              rw [d18, e9]
              exact ⟨Z35.1, z⟩
            · have d18 : x18.toInt = x35_2.toInt - 1 := by rw [hx18, add_i (by rw [tmi]; omega) (by rw [tmi]; omega), tmi]; omega
              rw [lei, t0i] at c19
              rw [lei, e16.1] at c17
              have uu := Z35.2.2.2.2 x16.toNatClampNeg (by omega) ks
              unfold foJ8
              rw [show x18.toInt + 1 = x35_2.toInt by omega]
              refine ⟨tjB_z8 Z35, hE, ?_, by omega, fun y => by omega⟩
              rw [d18, hx16]
        · skip
          have d18 : x18.toInt = x35_2.toInt - 1 := by rw [hx18, add_i (by rw [tmi]; omega) (by rw [tmi]; omega), tmi]; omega
          rw [lei, t0i] at c19
          have d2 : (x18 - 1).toInt = x35_2.toInt - 2 := by rw [dec_i (by omega), d18]; omega
          have nd2 : (x18 - 1).toNatClampNeg = (x35_2.toInt - 2).toNat := by
            have := cnk (x := x18 - 1) (by omega)
            omega
          refine ⟨?_, ?_⟩
          · rw [rr, nn, inb_iff, d2]; omega  -- b20
          intro x20 hx20
          rw [nd2] at hx20
          obtain ⟨i2, h21, h22⟩ := Z35.2.2.1.1 (x35_2.toInt - 2).toNat (by omega)
          have q2 := Z35.2.1.1 i2 h21
          rw [h22, ← hx20] at q2
          refine ⟨?_, ?_⟩
          · rw [rr, nn, inb_iff]; omega  -- b21
          refine ⟨?_, ?_⟩
          · rw [rr, nn, inb_iff]; omega  -- b22
          refine ⟨?_, ?_⟩
          · rw [rr, nn, inb_iff]; omega  -- b23
          intro κ_21 hκ_21
          intro W22
          refine hj202 _ _ _ _ _ _ W22 ?_ ?_
          · rw [hκ_21]; exact T35_0  -- t24
          · refine and_5 ?_ (fun o9 => ?_)  -- k25
            · have z := tjZ_d Z35 (by omega)
              have e9 : x35_2.toInt - 1 + 1 = x35_2.toInt := by omega
              obtain ⟨l1, l2, l3, l4, l5, l6⟩ := tjZ_l W35 T35_0 z (by
                split
                · exact kl1
                · exact q2.2.2.2.1) (by
                split
                · rename_i y
                  rw [lti] at y
                  omega
                · exact Int.le_refl _) hκ_21
              have r21 := l1.2.1
              have gS := l6 weSeen (by decide) (by decide)
              have gP := l6 wePath (by decide) (by decide)
              have gH := l6 weHeap (by decide) (by decide)
              refine ⟨rfl, ⟨E35.tr l1, s35.tr l4, l4 _ (by omega) r35⟩, rfl, rfl, lt, by omega, ?_, by rw [l3]; omega, kr, pos, by rw [l5]; exact hq, by rw [r21, gH]; exact ek, fun y => by omega, fun j hj => ?_⟩
              · rw [d18, e9]
                refine ⟨?_, l2⟩
                rw [r21, gS, l5]
                exact Z35.1
              · rw [r21, gS, gP, hx16]
                exact tjP_m Z35.2.2.1 (by omega) (by omega)
            · have uu := Z35.2.2.2.2 x16.toNatClampNeg (by omega) ks
              rw [lei, e16.1] at c17
              obtain ⟨u1, u2, u3, u4, u5⟩ := kn_u W35 T35_0 (f := weLow) (by decide) (by decide) hκ_21
              have r21 := u1.2.1
              have gS := u4 weSeen (by decide) (by decide)
              have gP := u4 wePath (by decide) (by decide)
              have gH := u4 weHeap (by decide) (by decide)
              have gK := u4 weKnotOf (by decide) (by decide)
              have gC := u4 weCursor (by decide) (by decide)
              have gF := u4 weFirsts (by decide) (by decide)
              have gT := u4 weTargets (by decide) (by decide)
              have x27 : x35_2.toInt - 1 = x18.toInt := by omega
              have p16 : zA κ35 (zR κ35 wePath a0) (x35_2.toInt - 1).toNat = x16 := hx16.symm
              have p20 : zA κ35 (zR κ35 wePath a0) (x35_2.toInt - 2).toNat = x20 := hx20.symm
              have ne : x20.toNatClampNeg ≠ x16.toNatClampNeg := fun z => by
                have w := tjP_m Z35.2.2.1 (i := (x35_2.toInt - 2).toNat) (j := (x35_2.toInt - 1).toNat) (by omega) (by omega)
                rw [p16, p20, z] at w
                omega
              have mn := hκ_21
              unfold foJ8 tjB8 tjA8
              rw [show x18.toInt + 1 = x35_2.toInt by omega, r21, gS, gP, gH, gK, gC, gF, gT, u2, u3]
              refine ⟨tjB_z8 Z35, ?_, by rw [← x27, p16], by omega, fun _ => ?_⟩
              · refine TJ_l8 (k := x16.toNatClampNeg) (b := x20.toNatClampNeg) hE (by omega) (by show (zA κ35 (zR κ35 wePath a0) (x35_2.toInt - 1).toNat).toNatClampNeg = _; rw [p16]) (by show (zA κ35 (zR κ35 wePath a0) (x35_2.toInt - 2).toNat).toNatClampNeg = _; rw [p20]) (fun x hx => un_i8 hx) ?_ ?_
                · rw [up_i8]
                  split
                  · rename_i y
                    rw [lti] at y
                    exact Int.le_of_lt y
                  · exact Int.le_refl _
                · rw [up_i8]
                  split
                  · exact Or.inr rfl
                  · exact Or.inl rfl
              · rw [show (x18.toInt - 1).toNat = (x35_2.toInt - 2).toNat by omega, p20]
                show qI8 (upd (zA κ35 (zR κ35 weLow a0)) x20.toNatClampNeg _) x20.toNatClampNeg ≤ qI8 (upd (zA κ35 (zR κ35 weLow a0)) x20.toNatClampNeg _) x16.toNatClampNeg
                rw [up_i8, un_i8 (fun z => ne z.symm)]
                split
                · exact Int.le_refl _
                · rename_i y
                  rw [lti] at y
                  show (zA κ35 (zR κ35 weLow a0) x20.toNatClampNeg).toInt ≤ (zA κ35 (zR κ35 weLow a0) x16.toNatClampNeg).toInt
                  omega
      · skip
        rw [lei, e16.1] at c17
        have uu := Z35.2.2.2.2 x16.toNatClampNeg (by omega) ks
        have W9q : zA κ35 (zR κ35 weFirsts a0) = zA κ (zR κ weFirsts a0) := by rw [rr]; exact W9
        have W8q : zA κ35 (zR κ35 weTargets a0) = zA κ (zR κ weTargets a0) := by rw [rr]; exact W8
        have w1 := wo.1 x16.toNatClampNeg (by omega)
        have w2 := wo.1 (x16.toNatClampNeg + 1) (by omega)
        rw [W9q] at uu
        have c17b := c17
        rw [W9q] at c17b
        have kc := cnk (x := zA κ35 (zR κ35 weCursor a0) x16.toNatClampNeg) (by omega)
        refine ⟨?_, ?_⟩
        · rw [rr, nn, inb_iff]; omega  -- b26
        refine ⟨?_, ?_⟩
        · have e : zN κ35 (zR κ35 weTargets a0) = zN κ (zR κ weTargets a0) := by rw [rr, nn]
          rw [e, inb_iff]; omega
        intro x23 hx23
        have tr := wo.2.2.2 (zA κ35 (zR κ35 weCursor a0) x16.toNatClampNeg).toNatClampNeg (by omega)
        rw [W8q] at hx23
        rw [← hx23] at tr
        have k23 := cnk tr.1
        refine ⟨?_, ?_⟩
        · rw [rr, nn, inb_iff]; omega  -- b28
        refine ⟨?_, ?_⟩
        · rw [rr, nn, inb_iff]; omega  -- b29
        intro κ_24 hκ_24
        intro W25
        have ex : (zA κ35 (zR κ35 weCursor a0) x16.toNatClampNeg + 1).toInt = (zA κ35 (zR κ35 weCursor a0) x16.toNatClampNeg).toInt + 1 := (cn1 (by omega) (by omega)).2
        obtain ⟨f1, f2, f3, f4, f5, f6, f7⟩ := tjZ_c W35 T35_0 Z35 (by omega) ks (by omega) ex hκ_24
        have E24 := E35.tr f1
        have r24 := f1.2.1
        have rq := E24.2.1
        have nq := E24.2.2
        refine ⟨?_, ?_⟩
        · rw [rq, nq, inb_iff]; omega  -- b30
        refine ⟨fun c26 => ?_, fun c26 => ?_⟩
        · skip
          refine ⟨?_, ?_⟩
          · rw [rq, nq, inb_iff]; omega  -- b31
          refine ⟨fun c27 => ?_, fun c27 => ?_⟩
          · skip
            refine hj225 _ _ _ _ _ W25 ?_ ?_
            · exact f7  -- t32
            · refine and_5 ?_ (fun o9 => ?_)  -- k33
              · exact ⟨rfl, ⟨E24, f2, fun z => by omega, s35.tr f4, f4 _ (by omega) r35⟩, rfl, rfl, by omega, by omega, lt⟩
              · have hd9 : 0 < x35_2.toInt := by omega
                have p16 : zA κ35 (zR κ35 wePath a0) (x35_2.toInt - 1).toNat = x16 := hx16.symm
                obtain ⟨u1, u2, u3, u4, u5⟩ := kn_u W35 T35_0 (f := weCursor) (by decide) (by decide) hκ_24
                have gS := u4 weSeen (by decide) (by decide)
                have gK := u4 weKnotOf (by decide) (by decide)
                have sq : zA κ35 (zR κ35 weSeen a0) x23.toNatClampNeg ≠ 0 := by rw [← gS, ← u1.2.1]; exact c26
                have kq : zA κ35 (zR κ35 weKnotOf a0) x23.toNatClampNeg ≠ -1 := by rw [← gK, ← u1.2.1]; exact c27
                unfold tjA8
                rw [u1.2.1, gS, u4 wePath (by decide) (by decide), u4 weHeap (by decide) (by decide), gK, u4 weFirsts (by decide) (by decide), u4 weTargets (by decide) (by decide), u4 weLow (by decide) (by decide), u2, u3]
                refine TJ_x8 (u0 := x23.toNatClampNeg) (tjB_z8 Z35) hE hd9 (by rw [p16]) ⟨by rw [W9q]; exact uu.1, by omega⟩ (by rw [W9q]; omega) (by rw [W8q, hx23]; rfl) (by omega) sq ex (fun _ _ => rfl) (Int.le_refl _) (Or.inl rfl) (fun z => absurd z kq)
          · skip
            refine ⟨?_, ?_⟩
            · rw [rq, nq, inb_iff]; omega  -- b34
            refine ⟨?_, ?_⟩
            · rw [rq, nq, inb_iff]; omega  -- b35
            refine ⟨?_, ?_⟩
            · rw [rq, nq, inb_iff]; omega  -- b36
            intro κ_28 hκ_28
            intro W29
            refine hj225 _ _ _ _ _ W29 ?_ ?_
            · rw [hκ_28]; exact f7  -- t37
            · refine and_5 ?_ (fun o9 => ?_)  -- k38
              · obtain ⟨i9, h91, h92⟩ := f2.2.1.2.2.2.1 x23.toNatClampNeg (by omega) c26 c27
                have q9 := f2.2.1.1 i9 h91
                rw [h92] at q9
                obtain ⟨i8, h81, h82⟩ := f2.2.2.1.1 (x35_2.toInt - 1).toNat (by omega)
                have q8 := f2.2.1.1 i8 h81
                have e8 : zA κ_24 (zR κ_24 wePath a0) (x35_2.toInt - 1).toNat = x16 := by rw [r24, f6 wePath (by decide) (by decide), hx16]
                rw [h82, e8] at q8
                obtain ⟨l1, l2, l3, l4, l5, l6⟩ := tjZ_l W25 f7 f2 (by
                  split
                  · omega
                  · exact q8.2.2.2.1) (by
                  split
                  · rename_i y
                    rw [lti] at y
                    omega
                  · exact Int.le_refl _) hκ_28
                exact ⟨rfl, ⟨E24.tr l1, l2, fun z => by omega, (s35.tr f4).tr l4, l4 _ (by omega) (f4 _ (by omega) r35)⟩, rfl, rfl, by omega, by omega, lt⟩
              · have hd9 : 0 < x35_2.toInt := by omega
                have p16 : zA κ35 (zR κ35 wePath a0) (x35_2.toInt - 1).toNat = x16 := hx16.symm
                obtain ⟨u1, u2, u3, u4, u5⟩ := kn_u W35 T35_0 (f := weCursor) (by decide) (by decide) hκ_24
                obtain ⟨v1, v2, v3, v4, v5⟩ := kn_u W25 f7 (f := weLow) (by decide) (by decide) hκ_28
                have r1 := u1.2.1
                have gS := u4 weSeen (by decide) (by decide)
                have gK := u4 weKnotOf (by decide) (by decide)
                have gL := u4 weLow (by decide) (by decide)
                have sq : zA κ35 (zR κ35 weSeen a0) x23.toNatClampNeg ≠ 0 := by rw [← gS, ← r1]; exact c26
                have kq : zA κ35 (zR κ35 weKnotOf a0) x23.toNatClampNeg = -1 := by rw [← gK, ← r1]; first | exact c27 | exact Classical.not_not.mp c27
                unfold tjA8
                rw [v1.2.1, v2, v3, v4 weSeen (by decide) (by decide), v4 wePath (by decide) (by decide), v4 weHeap (by decide) (by decide), v4 weKnotOf (by decide) (by decide), v4 weFirsts (by decide) (by decide), v4 weTargets (by decide) (by decide), v4 weCursor (by decide) (by decide), r1, gS, u4 wePath (by decide) (by decide), u4 weHeap (by decide) (by decide), gK, u4 weFirsts (by decide) (by decide), u4 weTargets (by decide) (by decide), gL, u2, u3]
                refine TJ_x8 (u0 := x23.toNatClampNeg) (tjB_z8 Z35) hE hd9 (by rw [p16]) ⟨by rw [W9q]; exact uu.1, by omega⟩ (by rw [W9q]; omega) (by rw [W8q, hx23]; rfl) (by omega) sq ex (fun x hx => if_neg hx) ?_ ?_ (fun _ => ?_)
                · rw [show ∀ y, upd (zA κ35 (zR κ35 weLow a0)) x16.toNatClampNeg y x16.toNatClampNeg = y from fun y => if_pos rfl]
                  split
                  · rename_i y
                    rw [lti] at y
                    exact Int.le_of_lt y
                  · exact Int.le_refl _
                · rw [show ∀ y, upd (zA κ35 (zR κ35 weLow a0)) x16.toNatClampNeg y x16.toNatClampNeg = y from fun y => if_pos rfl]
                  split
                  · exact Or.inr ⟨rfl, kq⟩
                  · exact Or.inl rfl
                · rw [show ∀ y, upd (zA κ35 (zR κ35 weLow a0)) x16.toNatClampNeg y x16.toNatClampNeg = y from fun y => if_pos rfl]
                  split
                  · exact Int.le_refl _
                  · rename_i y
                    rw [lti] at y
                    omega
        · skip
          intro T30
          refine We_visit_c W25 T30  ?_ (fun κ_31 q32 => ?_)
          · have cl := cBq_lt (f := zA κ_24 (zR κ_24 weSeen a0)) (n := m9) (k := x23.toNatClampNeg) (by omega) c26
            have c1 := f2.1.1
            have c2 := f2.1.2.1
            have c3 := f2.1.2.2.1
            have c4 := f2.1.2.2.2
            exact ⟨weM_K E24 M, by omega, by omega, by omega⟩
          intro W33
          intro M34
          intro x35 hx35
          refine hj225 _ _ _ _ _ W33 ?_ ?_
          · exact q32.1.1.t f7 (by decide)  -- t40
          · refine and_5 ?_ (fun o9 => ?_)  -- k41
            · have W5 : zA κ_24 (zR κ_24 weFirsts a0) = zA κ (zR κ weFirsts a0) := by rw [r24, f6 weFirsts (by decide) (by decide)]; exact W9q
              obtain ⟨v1, v2, v3, v4, v5⟩ := tjZ_v W25 f7 n1 (fun k hk => by rw [W5]; exact wo.2.1 k hk) f2 (fun z => by omega) tr c26 q32
              have e2 := cn1 (x := x35_2) (by omega) (by omega)
              refine ⟨rfl, ⟨E24.tr q32.1, by rw [hx35, e2.2]; exact v1, fun z => ?_, (s35.tr f4).tr v3, v3 _ (by omega) (f4 _ (by omega) r35)⟩, rfl, rfl, by rw [hx35, e2.2]; omega, by rw [hx35, e2.2]; omega, lt⟩
              rw [hx35, e2.2] at z
              omega
            · have hd9 : 0 < x35_2.toInt := by omega
              have p16 : zA κ35 (zR κ35 wePath a0) (x35_2.toInt - 1).toNat = x16 := hx16.symm
              have e2 := cn1 (x := x35_2) (by omega) (by omega)
              obtain ⟨u1, u2, u3, u4, u5⟩ := kn_u W35 T35_0 (f := weCursor) (by decide) (by decide) hκ_24
              have r1 := u1.2.1
              have gP := u4 wePath (by decide) (by decide)
              have gF := u4 weFirsts (by decide) (by decide)
              have gT := u4 weTargets (by decide) (by decide)
              have q := tjA_v8 (τ := κ_31) (d := x35_2.toInt) (x := x23) (cu0 := zA κ35 (zR κ35 weCursor a0)) W25 f7 n1 f2 (by
                rw [r1, u4 weSeen (by decide) (by decide), gP, u4 weHeap (by decide) (by decide), u4 weKnotOf (by decide) (by decide), gF, gT, u4 weLow (by decide) (by decide), u2]
                exact hE) c26 (by omega) (Or.inr ⟨hd9, x16, _, by rw [r1, gP]; exact p16, by rw [r1]; exact u3, by rw [r1, gF, W9q]; exact uu.1, by omega, by rw [r1, gF, W9q]; omega, by rw [r1, gT, W8q, hx23]; rfl, ex⟩) q32
              rw [hx35, e2.2]
              exact q

end
section
set_option maxHeartbeats 1600000
/-! the class: knots are the states that come to each other -/
def knP8 (κ κ' : zS) (a n : Nat) : Prop := ∀ u v, u < n → v < n → (zA κ' (zR κ' weKnotOf a) u = zA κ' (zR κ' weKnotOf a) v ↔ Rf8 (Ed8 (qI8 (zA κ (zR κ weFirsts a))) (qN8 (zA κ (zR κ weTargets a)))) u v ∧ Rf8 (Ed8 (qI8 (zA κ (zR κ weFirsts a))) (qN8 (zA κ (zR κ weTargets a)))) v u)
/-- links go to knots that came before -/
def knL8 (κ κ' : zS) (a n : Nat) : Prop := ∀ v u, v < n → Ed8 (qI8 (zA κ (zR κ weFirsts a))) (qN8 (zA κ (zR κ weTargets a))) v u → (zA κ' (zR κ' weKnotOf a) u).toInt ≤ (zA κ' (zR κ' weKnotOf a) v).toInt
theorem We_knot_q6 {C : zC} {n0 : Nat} {a0 : Nat} {κ : zS} {Q : zS → Prop} (W : zW C n0 κ) (Ta0 : zT κ a0 = 14) (m9 : Nat) (hp : weM κ a0 ∧ ((zI κ weTotal a0).toInt = (m9 : Int) ∧ m9 ≤ 1000) ∧ wfO m9 ((zN κ (zR κ weTargets a0))) (zA κ (zR κ weFirsts a0)) (zA κ (zR κ weTargets a0)) ∧ (zN κ (zR κ weTargets a0)) ≤ 20000) (h : ∀ (κ' : zS), ((knE κ κ' a0 ∧ weKn κ' a0 m9) ∧ (knP8 κ κ' a0 m9 ∧ knL8 κ κ' a0 m9)) → Q κ') : zRun C 2 mWe_knot [.ref a0] κ (oV Q noX) := by
  refine We_knot_run W Ta0 ?_
  replace W := W.lo (Nat.le_trans W.1.2.1 W.1.2.2) (Nat.le_refl (zn κ))
  unfold w_We_knot_0
  obtain ⟨M, ⟨tn, n1⟩, wo, lT⟩ := hp
  have M9 := M
  obtain ⟨M1, M2, M3, M4, M5, M6, M7, M8, M09, M10, M11⟩ := M9
  intro T1
  refine Ar_fill_c W T1  (fun κ_2 q3 => ?_)
  intro W4
  intro M5
  intro T6
  refine Ar_fill_c W4 T6  (fun κ_7 q8 => ?_)
  intro W9
  intro M10
  intro κ_11 hκ_11
  intro W12
  intro κ_13 hκ_13
  intro W14
  intro κ_15 hκ_15
  intro W16
  intro κ_17 hκ_17
  intro W18
  unfold w_We_knot_38
  refine ⟨fun n l0 l1 τ => n = (1000 - l1.toInt).toNat ∧ ((a0 = l0 ∧ knE κ τ a0 ∧ tjZ τ a0 m9 0 ∧ (zI τ weHeaped a0).toInt = 0 ∧ (0 ≤ l1.toInt ∧ l1.toInt ≤ m9) ∧ ∀ s : Nat, (s : Int) < l1.toInt → zA τ (zR τ weSeen a0) s ≠ 0) ∧ tjA8 τ a0 m9 0), ⟨_, rfl, ?_⟩, ?_⟩
  · refine and_5 ?_ (fun o9 => ?_)  -- j1
    · have Z2 : zF (knF a0) κ κ_2 := by rw [q3]; exact zF_uf (by rw [weRf_o W Ta0 (f := weSeen) (by decide)]; exact ⟨rfl, show 1407 ≤ 1411 by decide⟩)
      have R2 : zR κ_2 = zR κ := by rw [q3]; rfl
      have N2 : zN κ_2 = zN κ := by rw [q3]; rfl
      have E2 : knE κ κ_2 a0 := ⟨Z2, R2, N2⟩
      have T2 : zT κ_2 a0 = 14 := Z2.t Ta0 (by decide)
      have Z7 : zF (knF a0) κ_2 κ_7 := by rw [q8]; exact zF_uf (by rw [weRf_o W4 T2 (f := weKnotOf) (by decide)]; exact ⟨rfl, show 1407 ≤ 1409 by decide⟩)
      have R7 : zR κ_7 = zR κ_2 := by rw [q8]; rfl
      have N7 : zN κ_7 = zN κ_2 := by rw [q8]; rfl
      have E7 : knE κ_2 κ_7 a0 := ⟨Z7, R7, N7⟩
      have T7 : zT κ_7 a0 = 14 := Z7.t T2 (by decide)
      obtain ⟨x1, x2, x3, x4, x5⟩ := kn_i (f := weKnots) (by decide) hκ_11
      obtain ⟨y1, y2, y3, y4, y5⟩ := kn_i (f := wePlaced) (by decide) hκ_13
      obtain ⟨z1, z2, z3, z4, z5⟩ := kn_i (f := weHeaped) (by decide) hκ_15
      obtain ⟨w1, w2, w3, w4, w5⟩ := kn_i (f := weStamp) (by decide) hκ_17
      have EE := ((((E2.tr E7).tr x1).tr y1).tr z1).tr w1
      have A17 : zA κ_17 = zA κ_7 := by rw [w2, z2, y2, x2]
      have i1 : zI κ_17 weKnots a0 = 0 := by rw [w4 weKnots (by decide), z4 weKnots (by decide), y4 weKnots (by decide), x3]
      have i2 : zI κ_17 wePlaced a0 = 0 := by rw [w4 wePlaced (by decide), z4 wePlaced (by decide), y3]
      have i3 : zI κ_17 weHeaped a0 = 0 := by rw [w4 weHeaped (by decide), z3]
      have ne := weRf_n W4 T2 (f := weSeen) (g := weKnotOf) (by decide) (by decide) (by decide)
      have sz : ∀ s, s < m9 → zA κ_17 (zR κ_17 weSeen a0) s = 0 := fun s hs => by
        have e : zA κ_7 (zR κ_2 weSeen a0) = zA κ_2 (zR κ_2 weSeen a0) := by rw [q8]; exact if_neg ne
        rw [A17, EE.2.1, ← R2, e, R2, q3]
        refine (congrFun (if_pos rfl) s).trans ?_
        exact if_pos ⟨Nat.zero_le _, by omega⟩
      have kz : ∀ s, s < m9 → zA κ_17 (zR κ_17 weKnotOf a0) s = -1 := fun s hs => by
        rw [A17, EE.2.1, ← R2, q8]
        refine (congrFun (if_pos rfl) s).trans ?_
        exact if_pos ⟨Nat.zero_le _, by rw [R2, N2]; omega⟩
      refine ⟨rfl, EE, ⟨?_, ?_, ?_, ?_, fun k hk z => absurd (sz k hk) z⟩, by rw [i3]; rfl, ⟨by decide, by rw [t0i]; omega⟩, fun s hs => by rw [t0i] at hs; omega⟩
      · rw [i1, i2, i3, w3]
        exact ⟨by decide, rfl, (cBq_z sz).symm, by decide⟩
      · rw [i3, w3]
        exact ⟨fun i hi => by rw [t0i] at hi; omega, fun i hi => by rw [t0i] at hi; omega, fun s hs => by rw [sz s hs]; decide, fun s hs a => absurd (sz s hs) a, fun s hs _ => kz s hs⟩
      · exact ⟨fun j hj => by omega, fun j hj => by omega, fun hj => absurd hj (by decide)⟩
      · rw [i1, i2]
        exact ⟨fun i hi => by rw [t0i] at hi; omega, fun i hi => by rw [t0i] at hi; omega, fun s hs a => absurd (kz s hs) a⟩
    · obtain ⟨_, _, Z9, h9, _⟩ := o9
      have y := kn_i (f := wePlaced) (by decide) hκ_13
      have z := kn_i (f := weHeaped) (by decide) hκ_15
      have w := kn_i (f := weStamp) (by decide) hκ_17
      have i2 : zI κ_17 wePlaced a0 = 0 := by rw [w.2.2.2.1 wePlaced (by decide), z.2.2.2.1 wePlaced (by decide), y.2.2.1]
      refine TJ_08 (fun v hv => ?_) h9 rfl
      refine m1_8.mpr (Decidable.byContradiction (fun c => ?_))
      obtain ⟨i, i1, _⟩ := Z9.2.2.2.1.2.2 v hv c
      rw [i2, t0i] at i1
      omega
  rintro n38 _ x38_1 κ38 W38 T38_0 ⟨hn38, ⟨rfl, i38⟩, hE⟩
  obtain ⟨E38, Z38, h38, k38, s38⟩ := i38
  have rr := E38.2.1
  have nn := E38.2.2
  have tt : zI κ38 weTotal a0 = zI κ weTotal a0 := E38.1.i (fun z => absurd z.2 (by decide))
  have kk := cnk k38.1
  refine ⟨fun c19 => ?_, fun c19 => ?_⟩
  · skip
    refine ⟨?_, ?_⟩
    · have c1 := Z38.1.1
      have c4 := Z38.1.2.2.2
      have c3 := Z38.1.2.2.1
      have cb := cBq_le (f := zA κ38 (zR κ38 weSeen a0)) (n := m9)
      rw [rr, nn, inb_iff]; omega
    intro κ_20 hκ_20
    intro W21
    refine h _ ?_
    · refine and_5 ?_ (fun o9 => ?_)  -- q3
      · rw [lei, tt] at c19
        obtain ⟨u1, u2, u3, u4, u5⟩ := kn_u W38 T38_0 (f := weKnotFirsts) (by decide) (by decide) hκ_20
        obtain ⟨⟨c1, c2, c3, c4⟩, h, p, o, u⟩ := Z38
        have all := cBq_a (f := zA κ38 (zR κ38 weSeen a0)) (n := m9) (fun s hs => s38 s (by omega))
        have r := u1.2.1
        have gK := u4 weKnotOf (by decide) (by decide)
        have gO := u4 weOrder (by decide) (by decide)
        have kn : (zI κ38 weKnots a0).toNatClampNeg = (zI κ38 weKnots a0).toInt.toNat := rfl
        rw [kn] at u3
        have fK : upd (zA κ38 (zR κ38 weKnotFirsts a0)) (zI κ38 weKnots a0).toInt.toNat (zI κ38 wePlaced a0) (zI κ38 weKnots a0).toInt.toNat = zI κ38 wePlaced a0 := if_pos rfl
        have fc : ∀ x, x ≠ (zI κ38 weKnots a0).toInt.toNat → upd (zA κ38 (zR κ38 weKnotFirsts a0)) (zI κ38 weKnots a0).toInt.toNat (zI κ38 wePlaced a0) x = zA κ38 (zR κ38 weKnotFirsts a0) x := fun x hx => if_neg hx
        refine ⟨E38.tr u1, ?_⟩
        unfold weKn
        rw [r, u2, gK, gO, u3]
        refine ⟨by omega, fun c hc => ?_, fun i hi => ?_, fun s hs => ?_⟩
        · obtain ⟨a, b⟩ := o.2.1 c hc
          rw [fc c (by omega)]
          by_cases z : c + 1 = (zI κ38 weKnots a0).toInt.toNat
          · rw [z, fK]; omega
          · rw [fc (c + 1) z]
            have b2 := b (by omega)
            have a2 := (o.2.1 (c + 1) (by omega)).1
            omega
        · obtain ⟨a, b, c, d⟩ := o.1 i (by omega)
          have kb := cnk b.1
          refine ⟨a, b, ?_, ?_⟩
          · rw [fc _ (by omega)]; exact c
          · by_cases z : (zA κ38 (zR κ38 weKnotOf a0) (zA κ38 (zR κ38 weOrder a0) i).toNatClampNeg).toNatClampNeg + 1 = (zI κ38 weKnots a0).toInt.toNat
            · rw [z, fK]; omega
            · rw [fc _ z]; exact d (by omega)
        · have nz : zA κ38 (zR κ38 weKnotOf a0) s ≠ -1 := fun z => by
            obtain ⟨i, g1, g2⟩ := h.2.2.2.1 s hs (s38 s (by omega)) z
            omega
          obtain ⟨i, g1, g2⟩ := o.2.2 s hs nz
          exact ⟨i, by omega, g2⟩
      · rw [lei, tt] at c19
        obtain ⟨u1, u2, u3, u4, u5⟩ := kn_u W38 T38_0 (f := weKnotFirsts) (by decide) (by decide) hκ_20
        have w9 : zA κ38 (zR κ38 weFirsts a0) = zA κ (zR κ weFirsts a0) := by rw [rr]; exact kn_r W Ta0 E38 (f := weFirsts) (by decide) (by decide)
        have w8 : zA κ38 (zR κ38 weTargets a0) = zA κ (zR κ weTargets a0) := by rw [rr]; exact kn_r W Ta0 E38 (f := weTargets) (by decide) (by decide)
        have nk : ∀ s, s < m9 → (zA κ38 (zR κ38 weKnotOf a0) s).toInt ≠ -1 := fun s hs z => by
          obtain ⟨i, i1, _⟩ := Z38.2.1.2.2.2.1 s hs (s38 s (by omega)) (m1_8.mp z)
          omega
        refine ⟨?_, ?_⟩
        rotate_left
        · intro v u hv e
          have q := hE.2.2.2.2.2.1 v u hv (nk v hv) (by rw [w9, w8]; exact e)
          rw [u1.2.1, u4 weKnotOf (by decide) (by decide)]
          exact q.2
        intro u v hu hv
        have q := TJ_z8 (u := u) (v := v) (tjE_8 (τ := κ38) (a := a0) (n := m9) (L := zN κ (zR κ weTargets a0)) (by rw [w9, w8]; exact wo)) hE (fun s hs z => by
          obtain ⟨i, i1, _⟩ := Z38.2.1.2.2.2.1 s hs (s38 s (by omega)) (m1_8.mp z)
          omega) hu hv
        rw [w9, w8] at q
        rw [u1.2.1, u4 weKnotOf (by decide) (by decide), ← q]
        exact ⟨fun e => congrArg Int32.toInt e, fun e => Int32.toInt_inj.mp e⟩
  · skip
    rw [lei, tt] at c19
    have e1 := cn1 k38.1 (by omega)
    refine ⟨?_, ?_⟩
    · rw [rr, nn, inb_iff]; omega  -- b4
    refine ⟨fun c22 => ?_, fun c22 => ?_⟩
    · skip
      intro x23 hx23
      refine lp_b5 ?_ (fun d9 => ⟨rfl, ?_⟩)
      · rw [hn38, hx23, e1.2]; omega  -- d5
      · refine and_5 ?_ (fun o9 => hE)  -- i6
        refine ⟨rfl, E38, Z38, h38, by rw [hx23, e1.2]; omega, fun s hs => ?_⟩
        rw [hx23, e1.2] at hs
        by_cases z : s = x38_1.toNatClampNeg
        · rw [z]; exact c22
        · exact s38 s (by omega)
    · skip
      intro T24
      refine We_follow_q6 W38 T24 m9 hE ?_ (fun κ_25 q26 => ?_)
      · have W9 := kn_r W Ta0 E38 (f := weFirsts) (by decide) (by decide)
        have W8 := kn_r W Ta0 E38 (f := weTargets) (by decide) (by decide)
        exact ⟨weM_K E38 M, ⟨by rw [tt]; exact tn, n1⟩, by rw [rr, nn, W9, W8]; exact wo, by rw [rr, nn]; exact lT, Z38, h38, by omega, c22⟩
      obtain ⟨q26, z9⟩ := q26
      intro W27
      intro M28
      intro x29 hx29
      refine lp_b5 ?_ (fun d9 => ⟨rfl, ?_⟩)
      · rw [hn38, hx29, e1.2]; omega  -- d8
      · refine and_5 ?_ (fun o9 => z9)  -- i9
        refine ⟨rfl, E38.tr q26.1, q26.2.1, q26.2.2.1, by rw [hx29, e1.2]; omega, fun s hs => ?_⟩
        rw [hx29, e1.2] at hs
        by_cases z : s = x38_1.toNatClampNeg
        · rw [z]; exact q26.2.2.2.2
        · exact q26.2.2.2.1 s (by omega) (s38 s (by omega))

end
section
set_option maxHeartbeats 1600000
/-! counting: how many of the first ones -/
noncomputable def on8 (P : Prop) : Nat := @ite Nat P (Classical.propDecidable P) 1 0
theorem on_1 {P : Prop} (h : P) : on8 P = 1 := if_pos h
theorem on_0 {P : Prop} (h : ¬ P) : on8 P = 0 := if_neg h
noncomputable def ct8 (P : Nat → Prop) : Nat → Nat
  | 0 => 0
  | n + 1 => ct8 P n + on8 (P n)
theorem ct_e8 {P Q : Nat → Prop} : ∀ {n : Nat}, (∀ k, k < n → (P k ↔ Q k)) → ct8 P n = ct8 Q n
  | 0, _ => rfl
  | n + 1, h => by
    have e := ct_e8 (n := n) (fun k hk => h k (by omega))
    have q := h n (by omega)
    unfold ct8
    rw [e]
    by_cases c : Q n
    · rw [on_1 c, on_1 (q.mpr c)]
    · rw [on_0 c, on_0 (fun z => c (q.mp z))]
theorem ct_l8 {P Q : Nat → Prop} : ∀ {n : Nat}, (∀ k, k < n → P k → Q k) → ct8 P n ≤ ct8 Q n
  | 0, _ => Nat.le_refl _
  | n + 1, h => by
    have e := ct_l8 (n := n) (fun k hk => h k (by omega))
    have q := h n (by omega)
    unfold ct8
    by_cases c : P n
    · rw [on_1 c, on_1 (q c)]; omega
    · rw [on_0 c]; omega
theorem ct_n8 {P : Nat → Prop} : ∀ {n : Nat}, ct8 P n + ct8 (fun k => ¬ P k) n = n
  | 0 => rfl
  | n + 1 => by
    have e := ct_n8 (P := P) (n := n)
    unfold ct8
    by_cases c : P n
    · rw [on_1 c, on_0 (fun z => z c)]; omega
    · rw [on_0 c, on_1 c]; omega
/-- one more -/
theorem ct_a8 {P Q : Nat → Prop} {c0 : Nat} (hq : ¬ Q c0) : ∀ {n : Nat}, ct8 (fun c => P c ∧ (Q c ∨ c = c0)) n = ct8 (fun c => P c ∧ Q c) n + on8 (c0 < n ∧ P c0)
  | 0 => by
    rw [on_0 (P := c0 < 0 ∧ P c0) (fun z => absurd z.1 (Nat.not_lt_zero _))]
    rfl
  | n + 1 => by
    have e := ct_a8 (P := P) hq (n := n)
    unfold ct8
    rw [e]
    by_cases c : n = c0
    · rw [c, on_0 (P := c0 < c0 ∧ P c0) (fun z => absurd z.1 (Nat.lt_irrefl _))]
      by_cases p : P c0
      · rw [on_1 ⟨p, Or.inr rfl⟩, on_0 (fun z => hq z.2), on_1 ⟨by omega, p⟩]
      · rw [on_0 (fun z => p z.1), on_0 (fun z => p z.1), on_0 (fun z => p z.2)]
    · have e1 : (n < n + 1) := by omega
      have x1 : (P n ∧ (Q n ∨ n = c0)) ↔ (P n ∧ Q n) := ⟨fun z => ⟨z.1, z.2.resolve_right c⟩, fun z => ⟨z.1, Or.inl z.2⟩⟩
      have x2 : (c0 < n + 1 ∧ P c0) ↔ (c0 < n ∧ P c0) := ⟨fun z => ⟨by omega, z.2⟩, fun z => ⟨by omega, z.2⟩⟩
      by_cases y : P n ∧ Q n
      · rw [on_1 (x1.mpr y), on_1 y]
        by_cases w : c0 < n ∧ P c0
        · rw [on_1 w, on_1 (x2.mpr w)]
        · rw [on_0 w, on_0 (fun z => w (x2.mp z))]
      · rw [on_0 (fun z => y (x1.mp z)), on_0 y]
        by_cases w : c0 < n ∧ P c0
        · rw [on_1 w, on_1 (x2.mpr w)]
        · rw [on_0 w, on_0 (fun z => w (x2.mp z))]
/-- values, by the first place that has each -/
theorem ct_f8 {P : Nat → Prop} {f : Nat → Nat} {K : Nat} : ∀ {n : Nat}, (∀ k, k < n → f k < K) → ct8 (fun k => P (f k) ∧ ∀ m, m < k → f m ≠ f k) n = ct8 (fun c => P c ∧ ∃ k, k < n ∧ f k = c) K
  | 0, _ => by
    have e : ct8 (fun c => P c ∧ ∃ k, k < 0 ∧ f k = c) K = ct8 (fun _ => False) K := ct_e8 (fun c _ => ⟨fun ⟨_, k, hk, _⟩ => absurd hk (Nat.not_lt_zero _), fun z => z.elim⟩)
    have z : ∀ K, ct8 (fun _ => False) K = 0 := fun K => by
      induction K with
      | zero => rfl
      | succ K ih => unfold ct8; rw [ih, on_0 (fun z => z)]
    rw [e, z]
    rfl
  | n + 1, h => by
    have e := ct_f8 (P := P) (f := f) (K := K) (n := n) (fun k hk => h k (by omega))
    have fn := h n (by omega)
    rw [show ct8 (fun k => P (f k) ∧ ∀ m, m < k → f m ≠ f k) (n + 1) = ct8 (fun k => P (f k) ∧ ∀ m, m < k → f m ≠ f k) n + on8 (P (f n) ∧ ∀ m, m < n → f m ≠ f n) from rfl, e]
    by_cases c : ∃ k, k < n ∧ f k = f n
    · obtain ⟨k, k1, k2⟩ := c
      rw [on_0 (fun z => z.2 k k1 k2)]
      refine (Nat.add_zero _).trans (ct_e8 (fun c _ => ⟨fun ⟨z1, q, q1, q2⟩ => ⟨z1, q, by omega, q2⟩, fun ⟨z1, q, q1, q2⟩ => ⟨z1, ?_⟩⟩))
      by_cases w : q = n
      · exact ⟨k, k1, by rw [k2, ← w]; exact q2⟩
      · exact ⟨q, by omega, q2⟩
    · have r := ct_a8 (P := P) (Q := fun c => ∃ k, k < n ∧ f k = c) (c0 := f n) c (n := K)
      have r2 : ct8 (fun c => P c ∧ ∃ k, k < n + 1 ∧ f k = c) K = ct8 (fun c => P c ∧ ((∃ k, k < n ∧ f k = c) ∨ c = f n)) K := ct_e8 (fun c _ => by
        constructor
        · rintro ⟨z1, q, q1, q2⟩
          refine ⟨z1, ?_⟩
          by_cases w : q = n
          · exact Or.inr (by rw [← q2, w])
          · exact Or.inl ⟨q, by omega, q2⟩
        · rintro ⟨z1, ⟨q, q1, q2⟩ | z⟩
          · exact ⟨z1, q, by omega, q2⟩
          · exact ⟨z1, n, by omega, z.symm⟩)
      rw [r2, r]
      by_cases p : P (f n)
      · rw [on_1 ⟨p, fun m hm z => c ⟨m, hm, z⟩⟩, on_1 ⟨fn, p⟩]
      · rw [on_0 (fun z => p z.1), on_0 (fun z => p z.2)]
/-- onto: as many as first places -/
theorem ct_s8 {P : Nat → Prop} {f : Nat → Nat} {K n : Nat} (h : ∀ k, k < n → f k < K) (s : ∀ c, c < K → ∃ k, k < n ∧ f k = c) : ct8 P K = ct8 (fun k => P (f k) ∧ ∀ m, m < k → f m ≠ f k) n := by
  rw [ct_f8 h]
  exact ct_e8 (fun c hc => ⟨fun z => ⟨z, s c hc⟩, fun z => z.1⟩)
/-- a rearrangement keeps counts -/
theorem ct_p8 {P : Nat → Prop} {f : Nat → Nat} {n : Nat} (h : ∀ k, k < n → f k < n) (s : ∀ c, c < n → ∃ k, k < n ∧ f k = c) : ct8 P n = ct8 (fun k => P (f k)) n := by
  have a : ct8 P n ≤ ct8 (fun k => P (f k)) n := by
    rw [ct_s8 h s]
    exact ct_l8 (fun k _ z => z.1)
  have b : ct8 (fun k => ¬ P k) n ≤ ct8 (fun k => ¬ P (f k)) n := by
    rw [ct_s8 (P := fun k => ¬ P k) h s]
    exact ct_l8 (fun k _ z => z.1)
  have c := ct_n8 (P := P) (n := n)
  have d := ct_n8 (P := fun k => P (f k)) (n := n)
  omega
/-- a stretch -/
theorem ct_i8 {a b : Nat} : ∀ {n : Nat}, ct8 (fun i => a ≤ i ∧ i < b) n = min n b - min n a
  | 0 => by
    show 0 = _
    omega
  | n + 1 => by
    have e := ct_i8 (a := a) (b := b) (n := n)
    unfold ct8
    rw [e]
    by_cases c : a ≤ n ∧ n < b
    · rw [on_1 c]; omega
    · rw [on_0 c]; omega
/-- the greatest -/
def mx8 (f : Nat → Nat) : Nat → Nat
  | 0 => 0
  | n + 1 => max (mx8 f n) (f n)
theorem mx_l8 {f : Nat → Nat} {B : Nat} : ∀ {n : Nat}, mx8 f n ≤ B ↔ ∀ k, k < n → f k ≤ B
  | 0 => ⟨fun _ k hk => absurd hk (Nat.not_lt_zero _), fun _ => Nat.zero_le _⟩
  | n + 1 => by
    have e := mx_l8 (f := f) (B := B) (n := n)
    unfold mx8
    constructor
    · intro z k hk
      by_cases c : k = n
      · rw [c]; omega
      · exact e.mp (by omega) k (by omega)
    · intro z
      have z1 := e.mpr (fun k hk => z k (by omega))
      have z2 := z n (by omega)
      omega
theorem mx_e8 {f g : Nat → Nat} {n m : Nat} (h : ∀ k, k < n → f k = 0 ∨ ∃ j, j < m ∧ f k ≤ g j) (h2 : ∀ j, j < m → g j = 0 ∨ ∃ k, k < n ∧ g j ≤ f k) : mx8 f n = mx8 g m := by
  refine Nat.le_antisymm (mx_l8.mpr (fun k hk => ?_)) (mx_l8.mpr (fun j hj => ?_))
  · rcases h k hk with z | ⟨j, j1, j2⟩
    · omega
    · exact Nat.le_trans j2 ((mx_l8 (f := g) (B := mx8 g m) (n := m)).mp (Nat.le_refl _) j j1)
  · rcases h2 j hj with z | ⟨k, k1, k2⟩
    · omega
    · exact Nat.le_trans k2 ((mx_l8 (f := f) (B := mx8 f n) (n := n)).mp (Nat.le_refl _) k k1)

end
section
set_option maxHeartbeats 1600000
/-! the class: which knots are rings -/
def iR8 (κ : zS) (a c : Nat) : Prop := (1 < (zA κ (zR κ weKnotFirsts a) (c + 1)).toInt - (zA κ (zR κ weKnotFirsts a) c).toInt) ∨ Ed8 (qI8 (zA κ (zR κ weFirsts a))) (qN8 (zA κ (zR κ weTargets a))) (zA κ (zR κ weOrder a) (zA κ (zR κ weKnotFirsts a) c).toNatClampNeg).toNatClampNeg (zA κ (zR κ weOrder a) (zA κ (zR κ weKnotFirsts a) c).toNatClampNeg).toNatClampNeg
theorem We_isRing_q6 {C : zC} {n0 : Nat} {a0 : Nat} {a1 : Int32} {κ : zS} {Q : Int32 → zS → Prop} (W : zW C n0 κ) (Ta0 : zT κ a0 = 14) (m9 : Nat) (hp : weM κ a0 ∧ m9 ≤ 1000 ∧ weKn κ a0 m9 ∧ (0 ≤ a1.toInt ∧ a1.toInt < (zI κ weKnots a0).toInt) ∧ wfO m9 ((zN κ (zR κ weTargets a0))) (zA κ (zR κ weFirsts a0)) (zA κ (zR κ weTargets a0)) ∧ (zN κ (zR κ weTargets a0)) ≤ 20000) (h : ∀ (v : Int32), ((nb v) ∧ ((v ≠ 0 ↔ iR8 κ a0 a1.toNatClampNeg))) → Q v κ) : zRun C 1 mWe_isRing [.ref a0, .int a1] κ (oI Q noX) := by
  refine We_isRing_run W Ta0 ?_
  replace W := W.lo (Nat.le_trans W.1.2.1 W.1.2.2) (Nat.le_refl (zn κ))
  unfold w_We_isRing_0
  obtain ⟨M, n1, K, k1, wo, lT⟩ := hp
  have m4 := M.2.2.2.1
  have m6 := M.2.2.2.2.2.1
  have m1 := M.1
  have kb := K.1
  have kk := cnk k1.1
  have q := K.2.1 a1.toNatClampNeg (by omega)
  have kc := cnk (x := zA κ (zR κ weKnotFirsts a0) a1.toNatClampNeg) (by omega)
  have oo := K.2.2.1 (zA κ (zR κ weKnotFirsts a0) a1.toNatClampNeg).toNatClampNeg (by omega)
  intro T1
  refine We_sizeOf_c W T1 m9 ?_ (fun r2 q4 => ?_)
  · exact ⟨M, n1, K, k1⟩  -- p1
  intro W5
  intro M6
  refine ⟨fun c7 => ?_, fun c7 => ?_⟩
  · skip
    refine ⟨?_, ?_⟩
    · rw [inb_iff]; omega  -- b2
    refine ⟨?_, ?_⟩
    · rw [inb_iff]; omega  -- b3
    intro x8 hx8
    have o1 := oo.1
    rw [← hx8] at o1
    have k8 := cnk o1.1
    have e8 := cn1 o1.1 (by omega)
    have w1 := wo.1 x8.toNatClampNeg (by omega)
    have w2 := wo.1 (x8.toNatClampNeg + 1) (by omega)
    have wL := wo.2.2.1
    refine ⟨?_, ?_⟩
    · rw [inb_iff]; omega  -- b4
    intro x9 hx9
    unfold w_We_isRing_30
    refine ⟨fun n l0 l2 l3 τ => n = (20000 - l3.toInt).toNat ∧ ((κ = τ ∧ a0 = l0 ∧ x8 = l2 ∧ (zA κ (zR κ weFirsts a0) x8.toNatClampNeg).toInt ≤ l3.toInt) ∧ ∀ i : Nat, (zA κ (zR κ weFirsts a0) x8.toNatClampNeg).toInt ≤ (i : Int) → (i : Int) < l3.toInt → (zA κ (zR κ weTargets a0) i).toNatClampNeg ≠ x8.toNatClampNeg), ⟨_, rfl, ?_⟩, ?_⟩
    · refine and_5 ?_ (fun o9 => fun i h1 h2 => by rw [hx9] at h2; omega)  -- j5
      exact ⟨rfl, rfl, rfl, by rw [hx9]; exact Int.le_refl _⟩
    rintro n30 _ x30_2 x30_3 _ W30 T30_0 ⟨hn30, ⟨rfl, rfl, i30⟩, hE⟩
    obtain ⟨rfl, l3⟩ := i30
    refine ⟨?_, ?_⟩
    · rw [inb_iff, e8.2]; omega  -- b6
    refine ⟨fun c10 => ?_, fun c10 => ?_⟩
    · skip
      refine h _ ?_
      · refine and_5 ?_ (fun o9 => ?_)  -- q7
        · exact nb_0
        · rw [lei, e8.1] at c10
          refine ⟨fun z => absurd rfl z, fun z => ?_⟩
          rcases z with z | ⟨i, i1, i2, i3⟩
          · have c7' := c7
            have s4 := q4.1
            first | (rw [lei, t1i] at c7'; omega) | (rw [lti, t1i] at c7'; omega)
          · rw [← hx8] at i1 i2 i3
            exact absurd i3 (hE i i1 (Int.lt_of_lt_of_le i2 c10))
    · skip
      rw [lei, e8.1] at c10
      have e3 := cn1 (x := x30_3) (by omega) (by omega)
      refine ⟨?_, ?_⟩
      · rw [inb_iff]; omega  -- b8
      refine ⟨fun c11 => ?_, fun c11 => ?_⟩
      · skip
        intro x12 hx12
        refine lp_b5 ?_ (fun d9 => ⟨rfl, ?_⟩)
        · rw [hn30, hx12, e3.2]; omega  -- d9
        · refine and_5 ?_ (fun o9 => ?_)  -- i10
          · exact ⟨rfl, rfl, rfl, by rw [hx12, e3.2]; omega⟩
          · intro i h1 h2
            rw [hx12, e3.2] at h2
            by_cases c : (i : Int) < x30_3.toInt
            · exact hE i h1 c
            · have n3 := cnk (x := x30_3) (by omega)
              have ei : i = x30_3.toNatClampNeg := by omega
              have tr := wo.2.2.2 x30_3.toNatClampNeg (by omega)
              have nt := cnk tr.1
              rw [ei]
              intro y
              have w : zA κ (zR κ weTargets a0) x30_3.toNatClampNeg = x8 := Int32.toInt_inj.mp (by omega)
              exact c11 w
      · skip
        refine h _ ?_
        · refine and_5 ?_ (fun o9 => ?_)  -- q11
          · exact nb_1
          · have w : zA κ (zR κ weTargets a0) x30_3.toNatClampNeg = x8 := by first | exact c11 | exact Classical.not_not.mp c11
            have n3 := cnk (x := x30_3) (by omega)
            refine ⟨fun _ => Or.inr ⟨x30_3.toNatClampNeg, ?_, ?_, ?_⟩, fun _ => by decide⟩
            · rw [← hx8]
              show (zA κ (zR κ weFirsts a0) x8.toNatClampNeg).toInt ≤ _
              omega
            · rw [← hx8]
              show _ < (zA κ (zR κ weFirsts a0) (x8.toNatClampNeg + 1)).toInt
              omega
            · rw [← hx8]
              show (zA κ (zR κ weTargets a0) x30_3.toNatClampNeg).toNatClampNeg = _
              rw [w]
  · skip
    refine h _ ?_
    · refine and_5 ?_ (fun o9 => ?_)  -- q12
      · exact nb_1
      · have s4 := q4.1
        refine ⟨fun _ => Or.inl ?_, fun _ => by decide⟩
        have c7' := c7
        first | (rw [lei, t1i] at c7'; omega) | (rw [lti, t1i] at c7'; omega)

end
section
set_option maxHeartbeats 1600000
/-! rings, by knots and by states -/
theorem ct_18 {P : Nat → Prop} {s : Nat} : ∀ {n : Nat}, (∀ k, k < n → P k → k = s) → ct8 P n ≤ on8 (s < n)
  | 0, _ => Nat.zero_le _
  | n + 1, h => by
    have e := ct_18 (P := P) (s := s) (n := n) (fun k hk => h k (by omega))
    unfold ct8
    by_cases c : P n
    · have es := h n (by omega) c
      rw [on_1 c, on_1 (show s < n + 1 by omega)]
      rw [on_0 (show ¬ s < n by omega)] at e
      omega
    · rw [on_0 c]
      by_cases d : s < n
      · rw [on_1 (show s < n + 1 by omega)]
        rw [on_1 d] at e
        omega
      · rw [on_0 d] at e
        omega
theorem on_l {P : Prop} : on8 P ≤ 1 := by
  by_cases c : P
  · rw [on_1 c]; omega
  · rw [on_0 c]; omega
/-- the first place of a value -/
theorem fst_8 {P : Nat → Prop} : ∀ (k : Nat), P k → ∃ j, j ≤ k ∧ P j ∧ ∀ m, m < j → ¬ P m := by
  intro k
  induction k using Nat.strongRecOn with
  | _ k ih =>
    intro h
    by_cases c : ∃ m, m < k ∧ P m
    · obtain ⟨m, m1, m2⟩ := c
      obtain ⟨j, j1, j2⟩ := ih m m1 m2
      exact ⟨j, by omega, j2⟩
    · exact ⟨k, Nat.le_refl _, h, fun m m1 m2 => c ⟨m, m1, m2⟩⟩
theorem Rf_n8 {E : Nat → Nat → Prop} {a b : Nat} (h : Rf8 E a b) (ne : a ≠ b) : Tr E a b := h.resolve_left ne
section
variable {n K : Nat} {ko od kf : Nat → Nat} {E : Nat → Nat → Prop}
/-- knots, as the class lays them -/
def KN8 (n K : Nat) (ko od kf : Nat → Nat) (E : Nat → Nat → Prop) : Prop := (∀ i, i < n → od i < n ∧ ko (od i) < K ∧ kf (ko (od i)) ≤ i ∧ i < kf (ko (od i) + 1)) ∧ (∀ c, c < K → kf c < kf (c + 1) ∧ kf (c + 1) ≤ n) ∧ (∀ s, s < n → ∃ i, i < n ∧ od i = s) ∧ (∀ u v, u < n → v < n → (ko u = ko v ↔ Rf8 E u v ∧ Rf8 E v u)) ∧ (∀ x y, x < n → E x y → y < n)
def ir8 (od kf : Nat → Nat) (E : Nat → Nat → Prop) (c : Nat) : Prop := 1 < kf (c + 1) - kf c ∨ E (od (kf c)) (od (kf c))
theorem kf_8 (h : KN8 n K ko od kf E) : ∀ {d c : Nat}, c < d → d ≤ K → kf (c + 1) ≤ kf d := by
  intro d
  induction d with
  | zero => intro c hc; omega
  | succ d ih =>
    intro c hc hd
    by_cases e : c = d
    · rw [e]; exact Nat.le_refl _
    · have a := ih (c := c) (by omega) (by omega)
      have b := h.2.1 d (by omega)
      omega
theorem kn_88 (h : KN8 n K ko od kf E) {c i : Nat} (hc : c < K) (hi : i < n) : ko (od i) = c ↔ kf c ≤ i ∧ i < kf (c + 1) := by
  obtain ⟨a1, a2, a3, a4⟩ := h.1 i hi
  constructor
  · intro e
    rw [e] at a3 a4
    exact ⟨a3, a4⟩
  · rintro ⟨b1, b2⟩
    refine Decidable.byContradiction (fun z => ?_)
    by_cases w : ko (od i) < c
    · have q := kf_8 h w (by omega)
      omega
    · have q := kf_8 h (c := c) (d := ko (od i)) (by omega) (by omega)
      omega
theorem ko_88 (h : KN8 n K ko od kf E) {s : Nat} (hs : s < n) : ko s < K := by
  obtain ⟨i, i1, i2⟩ := h.2.2.1 s hs
  rw [← i2]
  exact (h.1 i i1).2.1
/-- a knot's size -/
theorem sz_8 (h : KN8 n K ko od kf E) {c : Nat} (hc : c < K) : ct8 (fun s => ko s = c) n = kf (c + 1) - kf c := by
  have a := h.2.1 c hc
  rw [ct_p8 (P := fun s => ko s = c) (f := od) (fun k hk => (h.1 k hk).1) h.2.2.1, ct_e8 (Q := fun i => kf c ≤ i ∧ i < kf (c + 1)) (fun i hi => kn_88 h hc hi), ct_i8]
  omega
/-- the first state of a knot -/
theorem hd_8 (h : KN8 n K ko od kf E) {c : Nat} (hc : c < K) : od (kf c) < n ∧ ko (od (kf c)) = c := by
  have a := h.2.1 c hc
  exact ⟨(h.1 (kf c) (by omega)).1, (kn_88 h hc (by omega)).mpr ⟨Nat.le_refl _, by omega⟩⟩
theorem rg_8 (h : KN8 n K ko od kf E) {k : Nat} (hk : k < n) : ir8 od kf E (ko k) ↔ Tr E k k := by
  have hc := ko_88 h hk
  obtain ⟨s1, s2⟩ := hd_8 h hc
  have sz := sz_8 h hc
  have kp := h.2.2.2.1
  -- a member that comes to itself: each member does
  have mem : ∀ a b, a < n → b < n → ko a = ko b → Tr E a a → Tr E b b := fun a b ha hb e t => by
    by_cases c : a = b
    · rw [← c]; exact t
    · obtain ⟨r1, r2⟩ := (kp a b ha hb).mp e
      exact Tr_tr (Rf_n8 r2 (fun z => c z.symm)) (Rf_n8 r1 c)
  constructor
  · rintro (z | z)
    · have x : ∃ u, u < n ∧ ko u = ko k ∧ u ≠ od (kf (ko k)) := by
        refine Classical.byContradiction (fun q => ?_)
        have l := ct_18 (P := fun s => ko s = ko k) (s := od (kf (ko k))) (n := n) (fun u hu e => Classical.byContradiction (fun w => q ⟨u, hu, e, w⟩))
        have l2 := on_l (P := od (kf (ko k)) < n)
        omega
      obtain ⟨u, u1, u2, u3⟩ := x
      obtain ⟨r1, r2⟩ := (kp u _ u1 s1).mp (u2.trans s2.symm)
      exact mem u k u1 hk u2 (Tr_tr (Rf_n8 r1 u3) (Rf_n8 r2 (fun y => u3 y.symm)))
    · exact mem _ k s1 hk s2 (Tr_1 z)
  · intro t
    by_cases z : 1 < kf (ko k + 1) - kf (ko k)
    · exact Or.inl z
    · refine Or.inr ?_
      -- the only member
      have one : ∀ a b, a < n → b < n → ko a = ko k → ko b = ko k → a = b := fun a b ha hb ea eb => by
        refine Classical.byContradiction (fun w => ?_)
        have q := ct_a8 (P := fun s => s < n) (Q := fun s => s = a) (c0 := b) (fun y => w y.symm) (n := n)
        have q2 := ct_a8 (P := fun s => s < n) (Q := fun _ => False) (c0 := a) (fun y => y) (n := n)
        rw [on_1 ⟨hb, hb⟩] at q
        rw [on_1 ⟨ha, ha⟩] at q2
        have l1 : ct8 (fun s => s < n ∧ (s = a ∨ s = b)) n ≤ ct8 (fun s => ko s = ko k) n := ct_l8 (fun s _ y => by rcases y.2 with y | y <;> rw [y] <;> assumption)
        have l2 : ct8 (fun s => s < n ∧ (False ∨ s = a)) n ≤ ct8 (fun s => s < n ∧ s = a) n := ct_l8 (fun s _ y => ⟨y.1, y.2.resolve_left (fun f => f)⟩)
        omega
      have es : od (kf (ko k)) = k := one _ k s1 hk s2 rfl
      rw [es]
      obtain ⟨j, t⟩ := t
      cases j with
      | zero => exact t
      | succ j =>
        obtain ⟨x, x1, x2⟩ := t
        have hx := h.2.2.2.2 k x hk x1
        have ex := (kp x k hx hk).mpr ⟨Or.inr ⟨j, x2⟩, Or.inr (Tr_1 x1)⟩
        have e2 := one x k hx hk ex rfl
        rw [e2] at x1
        exact x1
theorem eq_8 (h : KN8 n K ko od kf E) {a b : Nat} (ha : a < n) (hb : b < n) (ne : a ≠ b) : ko a = ko b ↔ Tr E b a ∧ Tr E a b := by
  rw [h.2.2.2.1 a b ha hb]
  exact ⟨fun z => ⟨Rf_n8 z.2 (fun y => ne y.symm), Rf_n8 z.1 ne⟩, fun z => ⟨Or.inr z.2, Or.inr z.1⟩⟩
/-- the least of a ring -/
def ls8 (E : Nat → Nat → Prop) (k : Nat) : Prop := Tr E k k ∧ ∀ m, m < k → ¬ (Tr E k m ∧ Tr E m k)
/-- as many rings -/
theorem rn_8 (h : KN8 n K ko od kf E) : ct8 (ir8 od kf E) K = ct8 (ls8 E) n := by
  rw [ct_s8 (P := ir8 od kf E) (f := ko) (n := n) (fun k hk => ko_88 h hk) (fun c hc => ⟨od (kf c), (hd_8 h hc).1, (hd_8 h hc).2⟩)]
  refine ct_e8 (fun k hk => ?_)
  show (ir8 od kf E (ko k) ∧ ∀ m, m < k → ko m ≠ ko k) ↔ ls8 E k
  rw [rg_8 h hk]
  unfold ls8
  constructor
  · rintro ⟨z1, z2⟩
    exact ⟨z1, fun m hm y => z2 m hm ((eq_8 h (by omega) hk (by omega)).mpr y)⟩
  · rintro ⟨z1, z2⟩
    exact ⟨z1, fun m hm y => z2 m hm ((eq_8 h (by omega) hk (by omega)).mp y)⟩
/-- a ring's size -/
theorem rs_8 (h : KN8 n K ko od kf E) {k : Nat} (hk : k < n) (t : Tr E k k) : ct8 (fun m => Tr E k m ∧ Tr E m k) n = kf (ko k + 1) - kf (ko k) := by
  rw [← sz_8 h (ko_88 h hk)]
  refine ct_e8 (fun m hm => ?_)
  by_cases c : m = k
  · rw [c]
    exact ⟨fun _ => rfl, fun _ => ⟨t, t⟩⟩
  · exact (eq_8 h hm hk c).symm
/-- the greatest ring, by knots and by states -/
theorem gr_8 (h : KN8 n K ko od kf E) {f g : Nat → Nat} (hf : ∀ c, c < K → (ir8 od kf E c ∧ f c = kf (c + 1) - kf c) ∨ (¬ ir8 od kf E c ∧ f c = 0)) (hg : ∀ k, k < n → (ls8 E k ∧ g k = ct8 (fun m => Tr E k m ∧ Tr E m k) n) ∨ (¬ ls8 E k ∧ g k = 0)) : mx8 f K = mx8 g n := by
  refine mx_e8 (fun c hc => ?_) (fun k hk => ?_)
  · rcases hf c hc with ⟨z1, z2⟩ | ⟨_, z⟩
    · obtain ⟨s1, s2⟩ := hd_8 h hc
      obtain ⟨j, j1, j2, j3⟩ := fst_8 (P := fun k => ko k = c) (od (kf c)) s2
      have jn : j < n := by omega
      have t : Tr E j j := (rg_8 h jn).mp (by rw [j2]; exact z1)
      have l : ls8 E j := ⟨t, fun m hm y => j3 m hm (((eq_8 h (by omega) jn (by omega)).mpr y).trans j2)⟩
      refine Or.inr ⟨j, jn, ?_⟩
      rcases hg j jn with ⟨_, w⟩ | ⟨w, _⟩
      · rw [w, rs_8 h jn t, j2, z2]
        exact Nat.le_refl _
      · exact absurd l w
    · exact Or.inl z
  · rcases hg k hk with ⟨z1, z2⟩ | ⟨_, z⟩
    · refine Or.inr ⟨ko k, ko_88 h hk, ?_⟩
      rcases hf (ko k) (ko_88 h hk) with ⟨_, w⟩ | ⟨w, _⟩
      · rw [z2, rs_8 h hk z1.1, w]
        exact Nat.le_refl _
      · exact absurd ((rg_8 h hk).mpr z1.1) w
    · exact Or.inl z
end

end
section
set_option maxHeartbeats 1600000
/-! weaving: the links themselves -/
section
variable {D : Nat → Nat → Nat → Prop} {F wf tg wf' tg' : Nat → Int32} {k : Nat} {L x : Int}
/-- the links of state j, from place a to place b of the targets, are those of its nexts up to x -/
def LK8 (D : Nat → Nat → Nat → Prop) (F tg : Nat → Int32) (j : Nat) (a b x : Int) : Prop := ∀ y, (∃ q : Nat, a ≤ (q : Int) ∧ (q : Int) < b ∧ (tg q).toNatClampNeg = y) ↔ ∃ i : Nat, (F j).toInt ≤ (i : Int) ∧ (i : Int) < x ∧ D y j i
def LO8 (D : Nat → Nat → Nat → Prop) (F wf tg : Nat → Int32) (k : Nat) (L : Int) : Prop := (∀ j, j < k → (wf j).toInt ≤ L) ∧ (∀ j, j + 1 < k → LK8 D F tg j (wf j).toInt (wf (j + 1)).toInt (F (j + 1)).toInt) ∧ (0 < k → LK8 D F tg (k - 1) (wf (k - 1)).toInt L (F k).toInt)
def LI8 (D : Nat → Nat → Nat → Prop) (F wf tg : Nat → Int32) (k : Nat) (L x : Int) : Prop := (∀ j, j ≤ k → (wf j).toInt ≤ L) ∧ (∀ j, j < k → LK8 D F tg j (wf j).toInt (wf (j + 1)).toInt (F (j + 1)).toInt) ∧ LK8 D F tg k (wf k).toInt L x
theorem LO_08 : LO8 D F wf tg 0 L := ⟨fun j hj => by omega, fun j hj => by omega, fun h => by omega⟩
/-- a state begun -/
theorem LI_b8 (h : LO8 D F wf tg k L) (n1 : ∀ j, j ≠ k → wf' j = wf j) (n2 : (wf' k).toInt = L) : LI8 D F wf' tg k L (F k).toInt := by
  obtain ⟨h1, h2, h3⟩ := h
  refine ⟨fun j hj => ?_, fun j hj => ?_, fun y => ⟨fun ⟨q, q1, q2, _⟩ => by omega, fun ⟨i, i1, i2, _⟩ => by omega⟩⟩
  · by_cases c : j = k
    · rw [c, n2]; exact Int.le_refl _
    · rw [n1 j c]; exact h1 j (by omega)
  · by_cases c : j + 1 = k
    · have e : k - 1 = j := by omega
      have w := h3 (by omega)
      rw [e] at w
      rw [n1 j (by omega), c, n2]
      exact w
    · rw [n1 j (by omega), n1 (j + 1) c]
      exact h2 j (by omega)
/-- a next that is no link -/
theorem LI_n8 (h : LI8 D F wf tg k L x) (hx : 0 ≤ x) (no : ∀ y, ¬ D y k x.toNat) : LI8 D F wf tg k L (x + 1) := by
  obtain ⟨h1, h2, h3⟩ := h
  refine ⟨h1, h2, fun y => (h3 y).trans ⟨fun ⟨i, i1, i2, i3⟩ => ⟨i, i1, by omega, i3⟩, fun ⟨i, i1, i2, i3⟩ => ?_⟩⟩
  by_cases c : (i : Int) < x
  · exact ⟨i, i1, c, i3⟩
  · have e : i = x.toNat := by omega
    rw [e] at i3
    exact absurd i3 (no y)
/-- a link -/
theorem LI_s8 {y0 : Nat} (h : LI8 D F wf tg k L x) (hx : 0 ≤ x) (hL : 0 ≤ L) (fx : (F k).toInt ≤ x) (t1 : ∀ q, q ≠ L.toNat → tg' q = tg q) (t2 : (tg' L.toNat).toNatClampNeg = y0) (d : ∀ y, D y k x.toNat ↔ y = y0) : LI8 D F wf tg' k (L + 1) (x + 1) := by
  obtain ⟨h1, h2, h3⟩ := h
  have low : ∀ {j : Nat} {a b z : Int}, b ≤ L → LK8 D F tg j a b z → LK8 D F tg' j a b z := fun hb w y => by
    refine Iff.trans ⟨fun ⟨q, q1, q2, q3⟩ => ⟨q, q1, q2, ?_⟩, fun ⟨q, q1, q2, q3⟩ => ⟨q, q1, q2, ?_⟩⟩ (w y)
    · rw [← t1 q (by omega)]; exact q3
    · rw [t1 q (by omega)]; exact q3
  refine ⟨fun j hj => by have := h1 j hj; omega, fun j hj => low (h1 (j + 1) (by omega)) (h2 j hj), fun y => ?_⟩
  have w := h3 y
  have wk := h1 k (Nat.le_refl _)
  constructor
  · rintro ⟨q, q1, q2, q3⟩
    by_cases c : (q : Int) < L
    · rw [t1 q (by omega)] at q3
      obtain ⟨i, i1, i2, i3⟩ := w.mp ⟨q, q1, c, q3⟩
      exact ⟨i, i1, by omega, i3⟩
    · have e : q = L.toNat := by omega
      rw [e, t2] at q3
      exact ⟨x.toNat, by omega, by omega, (d y).mpr q3.symm⟩
  · rintro ⟨i, i1, i2, i3⟩
    by_cases c : (i : Int) < x
    · obtain ⟨q, q1, q2, q3⟩ := w.mpr ⟨i, i1, c, i3⟩
      exact ⟨q, q1, by omega, by rw [t1 q (by omega)]; exact q3⟩
    · have e : i = x.toNat := by omega
      rw [e] at i3
      exact ⟨L.toNat, by omega, by omega, by rw [t2]; exact ((d y).mp i3).symm⟩
/-- a state ended -/
theorem LI_e8 (h : LI8 D F wf tg k L x) (hx : x = (F (k + 1)).toInt) : LO8 D F wf tg (k + 1) L := by
  obtain ⟨h1, h2, h3⟩ := h
  refine ⟨fun j hj => h1 j (by omega), fun j hj => h2 j (by omega), fun _ => ?_⟩
  rw [show k + 1 - 1 = k by omega, ← hx]
  exact h3
/-- all -/
theorem LO_z8 {n : Nat} (h : LO8 D F wf tg n L) (n1 : ∀ j, j ≠ n → wf' j = wf j) (n2 : (wf' n).toInt = L) : ∀ j, j < n → ∀ y, (∃ q : Nat, (wf' j).toInt ≤ (q : Int) ∧ (q : Int) < (wf' (j + 1)).toInt ∧ (tg q).toNatClampNeg = y) ↔ ∃ i : Nat, (F j).toInt ≤ (i : Int) ∧ (i : Int) < (F (j + 1)).toInt ∧ D y j i := fun j hj => (LI_b8 h n1 n2).2.1 j hj
end

end
section
set_option maxHeartbeats 1600000
/-! survey: rings counted -/
noncomputable def kz8 (κ : zS) (w c : Nat) : Nat := ((zA κ (zR κ weKnotFirsts w) (c + 1)).toInt - (zA κ (zR κ weKnotFirsts w) c).toInt).toNat
noncomputable def sr8 (κ : zS) (w c : Nat) : Nat := on8 (iR8 κ w c) * kz8 κ w c
def RG8 (κ : zS) (w : Nat) (r g : Int32) (c : Nat) : Prop := r = Int32.ofNat (ct8 (iR8 κ w) c) ∧ g = Int32.ofNat (mx8 (sr8 κ w) c)
theorem ct_b8 {P : Nat → Prop} {n : Nat} : ct8 P n ≤ n := by
  have e := ct_n8 (P := P) (n := n)
  omega
section
variable {κ : zS} {w c : Nat} {r g z : Int32}
theorem RG_08 (hr : r = 0) (hg : g = 0) : RG8 κ w r g 0 := ⟨hr, hg⟩
theorem RG_n8 (h : RG8 κ w r g c) (no : ¬ iR8 κ w c) : RG8 κ w r g (c + 1) := by
  obtain ⟨h1, h2⟩ := h
  refine ⟨?_, ?_⟩
  · rw [h1]
    show _ = Int32.ofNat (ct8 (iR8 κ w) c + on8 (iR8 κ w c))
    rw [on_0 no, Nat.add_zero]
  · rw [h2]
    show _ = Int32.ofNat (max (mx8 (sr8 κ w) c) (sr8 κ w c))
    have e : sr8 κ w c = 0 := by
      unfold sr8
      rw [on_0 no, Nat.zero_mul]
    rw [e, Nat.max_zero]
theorem RG_s8 (h : RG8 κ w r g c) (yes : iR8 κ w c) (c1 : c < 1000) (hz : z.toInt = (kz8 κ w c : Int)) (bd : ∀ d, d ≤ c → kz8 κ w d ≤ 1000) : RG8 κ w (r + 1) (if g < z then z else g) (c + 1) := by
  obtain ⟨h1, h2⟩ := h
  have cb := ct_b8 (P := iR8 κ w) (n := c)
  have mb : mx8 (sr8 κ w) c ≤ 1000 := mx_l8.mpr (fun d hd => by
    have b := bd d (by omega)
    unfold sr8
    have l := on_l (P := iR8 κ w d)
    calc on8 (iR8 κ w d) * kz8 κ w d ≤ 1 * kz8 κ w d := Nat.mul_le_mul_right _ l
      _ ≤ 1000 := by omega)
  have kb := bd c (Nat.le_refl _)
  refine ⟨?_, ?_⟩
  · show _ = Int32.ofNat (ct8 (iR8 κ w) c + on8 (iR8 κ w c))
    rw [on_1 yes, h1]
    refine Int32.toInt_inj.mp ?_
    rw [add_i (by rw [ofn_i (by omega), t1i]; omega) (by rw [ofn_i (by omega), t1i]; omega), ofn_i (by omega), ofn_i (by omega), t1i]
    omega
  · show _ = Int32.ofNat (max (mx8 (sr8 κ w) c) (sr8 κ w c))
    have e : sr8 κ w c = kz8 κ w c := by
      unfold sr8
      rw [on_1 yes, Nat.one_mul]
    rw [e, h2]
    refine Int32.toInt_inj.mp ?_
    by_cases q : Int32.ofNat (mx8 (sr8 κ w) c) < z
    · rw [if_pos q, hz, ofn_i (by omega)]
      rw [lti, ofn_i (by omega), hz] at q
      omega
    · rw [if_neg q, ofn_i (by omega), ofn_i (by omega)]
      rw [lti, ofn_i (by omega), hz] at q
      omega
end
/-- the web's links and the atlas's -/
theorem pl_w8 {E F : Nat → Nat → Prop} {n : Nat} (h : ∀ x y, x < n → E x y → F x y ∧ y < n) : ∀ (j x y : Nat), x < n → pth E j x y → pth F j x y
  | 0, x, y, hx, p => (h x y hx p).1
  | j + 1, x, y, hx, p => by
    obtain ⟨c, g1, g2⟩ := p
    exact ⟨c, (h x c hx g1).1, pl_w8 h j c y (h x c hx g1).2 g2⟩
theorem Rf_w8 {E F : Nat → Nat → Prop} {n : Nat} (h : ∀ x y, x < n → E x y → F x y ∧ y < n) {x y : Nat} (hx : x < n) (r : Rf8 E x y) : Rf8 F x y := by
  rcases r with r | ⟨j, r⟩
  · exact Or.inl r
  · exact Or.inr ⟨j, pl_w8 h j x y hx r⟩
/-- the greatest ring, by states -/
noncomputable def gs8 (E : Nat → Nat → Prop) (n k : Nat) : Nat := on8 (ls8 E k) * ct8 (fun m => Tr E k m ∧ Tr E m k) n
theorem KN_r8 {n K : Nat} {ko od kf : Nat → Nat} {E : Nat → Nat → Prop} (h : KN8 n K ko od kf E) {f : Nat → Nat} {P : Nat → Prop} (hp : ∀ c, c < K → (P c ↔ ir8 od kf E c)) (hf : ∀ c, c < K → f c = on8 (P c) * (kf (c + 1) - kf c)) : ct8 P K = ct8 (ls8 E) n ∧ mx8 f K = mx8 (gs8 E n) n := by
  refine ⟨(ct_e8 hp).trans (rn_8 h), gr_8 h (fun c hc => ?_) (fun k hk => ?_)⟩
  · by_cases z : ir8 od kf E c
    · exact Or.inl ⟨z, by rw [hf c hc, on_1 ((hp c hc).mpr z), Nat.one_mul]⟩
    · exact Or.inr ⟨z, by rw [hf c hc, on_0 (fun y => z ((hp c hc).mp y)), Nat.zero_mul]⟩
  · unfold gs8
    by_cases z : ls8 E k
    · exact Or.inl ⟨z, by rw [on_1 z, Nat.one_mul]⟩
    · exact Or.inr ⟨z, by rw [on_0 z, Nat.zero_mul]⟩

end
section
set_option maxHeartbeats 1600000
/-! the reference: findRings: hopeless states, rings, the greatest -/
def rl8 (r : Nat → Int64) (k : Nat) : Prop := bR r k k = true ∧ ∀ m, m < k → ¬ rng r k m
noncomputable def rg8 (r : Nat → Int64) (n k : Nat) : Nat := on8 (rl8 r k) * cntR r k n
def RH8 (r : Nat → Int64) (n : Nat) (x g : Int32) (c : Nat) : Prop := x = Int32.ofNat (ct8 (rl8 r) c) ∧ g = Int32.ofNat (mx8 (rg8 r n) c)
theorem RH_s8 {r : Nat → Int64} {n c : Nat} {x g l s : Int32} (h : RH8 r n x g c) (c1 : c < 1000) (n1 : n ≤ 1000) (l0 : 0 ≤ l.toInt) (q : (¬ rl8 r c ∧ l = 0 ∧ s = 0) ∨ (rl8 r c ∧ l.toNatClampNeg = cntR r c n ∧ s = 1)) : (l ≤ g → RH8 r n (x + s) g (c + 1)) ∧ (¬ l ≤ g → RH8 r n (x + s) l (c + 1)) := by
  obtain ⟨h1, h2⟩ := h
  have cb := ct_b8 (P := rl8 r) (n := c)
  have mb : mx8 (rg8 r n) c ≤ 1000 := mx_l8.mpr (fun d hd => by
    have b := cntR_le (r := r) (a := d) (n := n)
    unfold rg8
    have y := on_l (P := rl8 r d)
    calc on8 (rl8 r d) * cntR r d n ≤ 1 * cntR r d n := Nat.mul_le_mul_right _ y
      _ ≤ 1000 := by omega)
  have nl := cnk l0
  have cr := cntR_le (r := r) (a := c) (n := n)
  have sx : x + s = Int32.ofNat (ct8 (rl8 r) (c + 1)) := by
    show _ = Int32.ofNat (ct8 (rl8 r) c + on8 (rl8 r c))
    refine Int32.toInt_inj.mp ?_
    rcases q with ⟨q1, _, q3⟩ | ⟨q1, _, q3⟩
    · rw [on_0 q1, q3, h1, add_i (by rw [ofn_i (by omega), t0i]; omega) (by rw [ofn_i (by omega), t0i]; omega), ofn_i (by omega), ofn_i (by omega), t0i]
      omega
    · rw [on_1 q1, q3, h1, add_i (by rw [ofn_i (by omega), t1i]; omega) (by rw [ofn_i (by omega), t1i]; omega), ofn_i (by omega), ofn_i (by omega), t1i]
      omega
  have gl : rg8 r n c = l.toNatClampNeg := by
    unfold rg8
    rcases q with ⟨q1, q2, _⟩ | ⟨q1, q2, _⟩
    · rw [on_0 q1, q2, Nat.zero_mul]; rfl
    · rw [on_1 q1, q2, Nat.one_mul]
  have ml : l.toNatClampNeg ≤ 1000 := by
    rw [← gl]
    unfold rg8
    have y := on_l (P := rl8 r c)
    calc on8 (rl8 r c) * cntR r c n ≤ 1 * cntR r c n := Nat.mul_le_mul_right _ y
      _ ≤ 1000 := by omega
  refine ⟨fun z => ⟨sx, ?_⟩, fun z => ⟨sx, ?_⟩⟩
  · show _ = Int32.ofNat (max (mx8 (rg8 r n) c) (rg8 r n c))
    rw [h2] at z ⊢
    rw [lei, ofn_i (by omega)] at z
    rw [gl, Nat.max_eq_left (by omega)]
  · show _ = Int32.ofNat (max (mx8 (rg8 r n) c) (rg8 r n c))
    rw [h2, lei, ofn_i (by omega)] at z
    rw [gl, Nat.max_eq_right (by omega)]
    exact Int32.toInt_inj.mp (by rw [ofn_i (by omega)]; omega)
theorem cn_t8 {r : Nat → Int64} {E : Nat → Nat → Prop} {N k : Nat} (bt : ∀ a b, a < N → b < N → (bR r a b = true ↔ Tr E a b)) (hk : k < N) : ∀ n, n ≤ N → cntR r k n = ct8 (fun m => Tr E k m ∧ Tr E m k) n
  | 0, _ => rfl
  | n + 1, h => by
    have e := cn_t8 bt hk n (by omega)
    have q : (bR r k n = true ∧ bR r n k = true) ↔ (Tr E k n ∧ Tr E n k) := by rw [bt k n hk (by omega), bt n k (by omega) hk]
    show cntR r k n + (if bR r k n = true ∧ bR r n k = true then 1 else 0) = ct8 (fun m => Tr E k m ∧ Tr E m k) n + on8 (Tr E k n ∧ Tr E n k)
    rw [e]
    by_cases c : Tr E k n ∧ Tr E n k
    · rw [on_1 c, if_pos (q.mpr c)]
    · rw [on_0 c, if_neg (fun z => c (q.mp z))]
theorem RH_t8 {r : Nat → Int64} {E : Nat → Nat → Prop} {N : Nat} {x g : Int32} (bt : ∀ a b, a < N → b < N → (bR r a b = true ↔ Tr E a b)) (h : RH8 r N x g N) : x = Int32.ofNat (ct8 (ls8 E) N) ∧ g = Int32.ofNat (mx8 (gs8 E N) N) := by
  have q : ∀ k, k < N → (rl8 r k ↔ ls8 E k) := fun k hk => by
    unfold rl8 ls8
    rw [bt k k hk hk]
    constructor
    · rintro ⟨a, b⟩
      exact ⟨a, fun m hm y => b m hm ⟨(bt k m hk (by omega)).mpr y.1, (bt m k (by omega) hk).mpr y.2⟩⟩
    · rintro ⟨a, b⟩
      exact ⟨a, fun m hm y => b m hm ⟨(bt k m hk (by omega)).mp y.1, (bt m k (by omega) hk).mp y.2⟩⟩
  have e : ∀ k, k < N → rg8 r N k = gs8 E N k := fun k hk => by
    unfold rg8 gs8
    rw [cn_t8 bt hk N (Nat.le_refl _)]
    by_cases c : ls8 E k
    · rw [on_1 c, on_1 ((q k hk).mpr c)]
    · rw [on_0 c, on_0 (fun z => c ((q k hk).mp z))]
  refine ⟨h.1.trans (congrArg Int32.ofNat (ct_e8 q)), h.2.trans (congrArg Int32.ofNat (mx_e8 (fun k hk => Or.inr ⟨k, hk, by rw [e k hk]; exact Nat.le_refl _⟩) (fun k hk => Or.inr ⟨k, hk, by rw [e k hk]; exact Nat.le_refl _⟩)))⟩
/-! the reference's findRings: which states are hopeless -/
def hp8 (σ : rS) (k : Nat) : Prop := endN σ 0 k ∨ ∃ m, m < (σ.1 70).toNatClampNeg ∧ Tr (edN σ 0 87 1) k m ∧ endN σ 0 m
def hl8 (σ τ : rS) (l : Nat) : Prop := ∀ k, k < l → (τ.2.2.1 87 k ≠ 0 ↔ ¬ hp8 σ k)
theorem endN_o8 {σ τ : rS} {k : Nat} (hr : ∀ k, k = 76 ∨ k = 77 ∨ k = 81 ∨ k = 83 → τ.2.2.1 k = σ.2.2.1 k) : endN τ 0 k ↔ endN σ 0 k := by
  unfold endN
  simp only [rd]
  rw [hr 76 (by decide), hr 77 (by decide), hr 81 (by decide), hr 83 (by decide)]
theorem ringOf_g5 {C : rCx} (hC : cOK C)  {σ : rS} {a1 : Int32} {Q : Int32 → rS → Prop} (hp : 0 ≤ a1 ∧ a1 < σ.1 70 ∧ σ.1 70 ≤ 1000) (h : ∀ (v : Int32), ((0 ≤ v ∧ v ≤ 1000 ∧ (bR (σ.2.2.2 86) a1.toNatClampNeg a1.toNatClampNeg = true → (∀ m, m < a1.toNatClampNeg → ¬ rng (σ.2.2.2 86) a1.toNatClampNeg m) → v.toNatClampNeg = cntR (σ.2.2.2 86) a1.toNatClampNeg (σ.1 70).toNatClampNeg)) ∧ ((¬ rl8 (σ.2.2.2 86) a1.toNatClampNeg ∧ v = 0) ∨ (rl8 (σ.2.2.2 86) a1.toNatClampNeg ∧ v.toNatClampNeg = cntR (σ.2.2.2 86) a1.toNatClampNeg (σ.1 70).toNatClampNeg))) → Q v σ) : cI C 2 m_ringOf [.ref (co C), .int a1] σ Q := by
  refine m_ringOf_run hC ?_
  unfold w_ringOf_0
  obtain ⟨h0, h1, h2⟩ := hp
  refine leads_c hC  ?_ (fun r1 q3 => ?_)
  · clear h; exact ⟨h0, Int32.lt_of_lt_of_le h1 h2, h0, Int32.lt_of_lt_of_le h1 h2⟩  -- p1
  refine ⟨fun c4 => ?_, fun c4 => ?_⟩
  · skip
    unfold w_ringOf_15
    refine ⟨fun n l1 l2 l3 τ => n = (σ.1 70 - l3).toNatClampNeg ∧ ((σ = τ ∧ l1 = a1 ∧ 0 ≤ l2 ∧ l2 ≤ l3 ∧ 0 ≤ l3 ∧ l3 ≤ σ.1 70 ∧ l2.toNatClampNeg = cntR (σ.2.2.2 86) a1.toNatClampNeg l3.toNatClampNeg) ∧ ∀ m, m < l3.toNatClampNeg → m < a1.toNatClampNeg → ¬ rng (σ.2.2.2 86) a1.toNatClampNeg m), ⟨_, rfl, ?_⟩, ?_⟩
    · refine and_5 ?_ (fun o9 => fun m hm _ => absurd hm (Nat.not_lt_zero m))  -- j2
      clear h; exact ⟨rfl, rfl, by decide, by decide, by decide, Int32.le_trans h0 (Int32.le_of_lt h1), rfl⟩
    rintro n15 x15_1 x15_2 x15_3 _ ⟨hn15, ⟨rfl, i15⟩, hE⟩
    obtain ⟨e1, g1, g2, g3, g4, g5⟩ := i15
    refine ⟨fun c5 => ?_, fun c5 => ?_⟩
    · skip
      refine h _ ?_
      · refine and_5 ?_ (fun o9 => ?_)  -- q3
        · clear h; have e : x15_3 = σ.1 70 := Int32.le_antisymm g4 c5
          rw [e] at g5
          exact ⟨g1, Int32.le_trans g2 (Int32.le_trans g4 h2), fun _ _ => g5⟩
        · clear o9
          have e : x15_3 = σ.1 70 := Int32.le_antisymm g4 c5
          have lt := cn_lt h0 h1
          rw [e] at g5 hE
          exact Or.inr ⟨⟨q3.2.mp c4, fun m hm => hE m (by omega) hm⟩, g5⟩
    · skip
      have u := uk g3 c5 h2
      have k3 := cn_succ g3 (Int32.lt_trans u.2.2.2.2.2 (by decide))
      have lu := le_up g1 g2 u.2.2.2.2.2
      refine isRingWith_c hC  ?_ (fun r6 q8 => ?_)
      · clear h; rw [e1]; exact ⟨h0, Int32.lt_of_lt_of_le h1 h2, g3, u.2.2.2.2.2⟩  -- p4
      have qr := q8.2
      rw [e1] at qr
      refine ⟨fun c9 => ?_, fun c9 => ?_⟩
      · skip
        intro x10 hx10
        refine lp_b5 (cn_lt2 hn15 ?_ ?_) (fun d9 => ⟨rfl, ?_⟩)
        · clear h; rw [hx10]; exact u.1  -- d5
        · clear h; rw [hx10]; exact u.2.1  -- d6
        · refine and_5 ?_ (fun o9 => ?_)  -- i7
          · clear h; rw [hx10]
            refine ⟨rfl, e1, g1, lu.2.2.2, u.2.2.1, u.2.2.2.1, ?_⟩
            rw [k3, cnt_out (fun z => absurd c9 (qr.mpr z))]
            exact g5
          · clear o9
            rw [hx10, k3]
            intro m hm h2
            by_cases c : m = x15_3.toNatClampNeg
            · rw [c]; exact fun z => absurd c9 (qr.mpr z)
            · exact hE m (by omega) h2
      · skip
        refine ⟨fun c11 => ?_, fun c11 => ?_⟩
        · skip
          intro x12 hx12
          intro x13 hx13
          refine lp_b5 (cn_lt2 hn15 ?_ ?_) (fun d9 => ⟨rfl, ?_⟩)
          · clear h; rw [hx13]; exact u.1  -- d8
          · clear h; rw [hx13]; exact u.2.1  -- d9
          · refine and_5 ?_ (fun o9 => ?_)  -- i10
            · clear h; rw [hx12, hx13]
              refine ⟨rfl, e1, lu.1, lu.2.1, u.2.2.1, u.2.2.2.1, ?_⟩
              rw [k3, cn_succ g1 lu.2.2.1, cnt_in (qr.mp c9), g5]
            · clear o9
              rw [hx13, k3]
              intro m hm h2
              by_cases c : m = x15_3.toNatClampNeg
              · rw [e1, lei] at c11
                have n1 := cnk (x := a1) (by rw [lei, t0i] at h0; exact h0)
                have n3 := cnk (x := x15_3) (by rw [lei, t0i] at g3; exact g3)
                omega
              · exact hE m (by omega) h2
        · skip
          refine h _ ?_
          · refine and_5 ?_ (fun o9 => ?_)  -- q11
            · clear h; rw [e1] at c11
              exact ⟨by decide, by decide, fun _ hm => absurd (qr.mp c9) (hm _ (cn_lt g3 (Int32.not_le.mp c11)))⟩
            · clear o9
              rw [e1] at c11
              exact Or.inl ⟨fun z => z.2 _ (cn_lt g3 (Int32.not_le.mp c11)) (qr.mp c9), rfl⟩
  · skip
    refine h _ ?_
    · refine and_5 ?_ (fun o9 => Or.inl ⟨fun z => absurd c4 (q3.2.mpr z.1), rfl⟩)  -- q12
      clear h; exact ⟨by decide, by decide, fun z => absurd c4 (q3.2.mpr z)⟩

theorem findRings_g5 {C : rCx} (hC : cOK C)  {σ : rS}  {Q : rS → Prop} (hp : exO σ) (h : ∀ (σ' : rS), ((frM fgF fgR σ σ' ∧ 0 ≤ σ'.1 88 ∧ (σ'.1 88 = 0 → ∀ a, a < (σ.1 70).toNatClampNeg → ¬ Tr (edN σ 0 87 1) a a)) ∧ (hl8 σ σ' (σ.1 70).toNatClampNeg ∧ σ'.1 88 = Int32.ofNat (ct8 (ls8 (edN σ 0 87 1)) (σ.1 70).toNatClampNeg) ∧ σ'.1 89 = Int32.ofNat (mx8 (gs8 (edN σ 0 87 1) (σ.1 70).toNatClampNeg) (σ.1 70).toNatClampNeg))) → Q σ') : cV C 3 m_findRings [.ref (co C)] σ Q := by
  refine m_findRings_run hC ?_
  unfold w_findRings_0
  refine findReach_c hC  ?_ (fun σ_1 q2 => ?_)
  · clear h; exact ⟨hp, Or.inl rfl⟩  -- p1
  intro σ_3 hσ_3
  intro σ_4 hσ_4
  have f4 : frM fgF fgR σ σ_4 := frM_tr (frM_L q2.1) (by rw [hσ_4, hσ_3]; exact frM_tr (frM_0 (by decide)) (frM_0 (by decide)))
  have v88 : σ_4.1 88 = 0 := by rw [hσ_4, si1, if_neg (by decide), hσ_3, si1, if_pos rfl]
  unfold w_findRings_22
  refine ⟨fun n l1 τ => n = (σ.1 70 - l1).toNatClampNeg ∧ ((frM fgF fgR σ τ ∧ τ.2.2.2 86 = σ_1.2.2.2 86 ∧ 0 ≤ l1 ∧ l1 ≤ σ.1 70 ∧ 0 ≤ τ.1 88 ∧ τ.1 88 ≤ l1 ∧ (τ.1 88 = 0 → ∀ a, a < l1.toNatClampNeg → bR (σ_1.2.2.2 86) a a = true → ∃ m, m < a ∧ rng (σ_1.2.2.2 86) a m)) ∧ hl8 σ τ l1.toNatClampNeg ∧ RH8 (σ_1.2.2.2 86) (σ.1 70).toNatClampNeg (τ.1 88) (τ.1 89) l1.toNatClampNeg), ⟨_, rfl, ?_⟩, ?_⟩
  · refine and_5 ?_ (fun o9 => ⟨fun k hk => absurd hk (Nat.not_lt_zero k), v88, by rw [hσ_4, si1, if_pos rfl]; rfl⟩)  -- j2
    clear h; exact ⟨f4, by rw [hσ_4, si2, hσ_3, si2], by decide, hp.1.1, by rw [v88]; decide, by rw [v88]; decide, fun _ a ha => absurd ha (Nat.not_lt_zero a)⟩
  rintro n22 x22_1 σ22 ⟨hn22, i22, hE⟩
  have hj91 : ∀ (l1 : Int32) (s1 : Int32) (τ : rS), ((frM fgF fgR σ τ ∧ τ.2.2.2 86 = σ_1.2.2.2 86 ∧ l1 = x22_1 ∧ ¬ σ.1 70 ≤ x22_1 ∧ 0 ≤ τ.1 88 ∧ τ.1 88 ≤ x22_1 + 1 ∧ (τ.1 88 = 0 → ∀ a, a < (x22_1 + 1).toNatClampNeg → bR (σ_1.2.2.2 86) a a = true → ∃ m, m < a ∧ rng (σ_1.2.2.2 86) a m)) ∧ hl8 σ τ (x22_1 + 1).toNatClampNeg ∧ RH8 (σ_1.2.2.2 86) (σ.1 70).toNatClampNeg (τ.1 88) s1 (x22_1 + 1).toNatClampNeg) → w_findRings_91 C Q (fun l1' τ => ∃ k < n22, (fun n l1 τ => n = (σ.1 70 - l1).toNatClampNeg ∧ ((frM fgF fgR σ τ ∧ τ.2.2.2 86 = σ_1.2.2.2 86 ∧ 0 ≤ l1 ∧ l1 ≤ σ.1 70 ∧ 0 ≤ τ.1 88 ∧ τ.1 88 ≤ l1 ∧ (τ.1 88 = 0 → ∀ a, a < l1.toNatClampNeg → bR (σ_1.2.2.2 86) a a = true → ∃ m, m < a ∧ rng (σ_1.2.2.2 86) a m)) ∧ hl8 σ τ l1.toNatClampNeg ∧ RH8 (σ_1.2.2.2 86) (σ.1 70).toNatClampNeg (τ.1 88) (τ.1 89) l1.toNatClampNeg)) k l1' τ) l1 s1 τ := by
    rintro y91_1 y91_s1 τ91 ⟨j91, hE⟩
    unfold w_findRings_91
    intro σ_5 hσ_5
    intro x6 hx6
    obtain ⟨g1, g2, g3, g4, g5, g6, g7⟩ := i22
    obtain ⟨f1, f2, f3, f4', f5, f6, f7⟩ := j91
    have u := uk g3 f4' hp.1.2
    have e5 : σ_5.1 88 = τ91.1 88 := by rw [hσ_5, si1, if_neg (by decide)]
    refine lp_b5 (cn_lt2 hn22 ?_ ?_) (fun d9 => ⟨rfl, ?_⟩)
    · clear h; rw [hx6, f3]; exact u.1  -- d3
    · clear h; rw [hx6, f3]; exact u.2.1  -- d4
    · refine and_5 ?_ (fun o9 => ?_)  -- i5
      · clear h; rw [hx6, f3]; exact ⟨frM_tr f1 (by rw [hσ_5]; exact frM_0 (by decide)), by rw [hσ_5, si2]; exact f2, u.2.2.1, u.2.2.2.1, by rw [e5]; exact f5, by rw [e5]; exact f6, by rw [e5]; exact f7⟩
      · clear o9
        rw [hx6, f3]
        refine ⟨fun k hk => by rw [hσ_5, si2]; exact hE.1 k hk, ?_⟩
        rw [e5, show σ_5.1 89 = y91_s1 by rw [hσ_5, si1, if_pos rfl]]
        exact hE.2
  have hj70 : ∀ (l1 : Int32) (l2 : Int32) (s1 : Int32) (s2 : Int32) (τ : rS), ((frM fgF fgR σ τ ∧ τ.2.2.2 86 = σ_1.2.2.2 86 ∧ l1 = x22_1 ∧ ¬ σ.1 70 ≤ x22_1 ∧ s1 = σ22.1 88 ∧ (s2 = 0 ∨ s2 = 1) ∧ (s2 = 0 → bR (σ_1.2.2.2 86) x22_1.toNatClampNeg x22_1.toNatClampNeg = true → ∃ m, m < x22_1.toNatClampNeg ∧ rng (σ_1.2.2.2 86) x22_1.toNatClampNeg m)) ∧ hl8 σ τ (x22_1 + 1).toNatClampNeg ∧ RH8 (σ_1.2.2.2 86) (σ.1 70).toNatClampNeg s1 (τ.1 89) x22_1.toNatClampNeg ∧ 0 ≤ l2.toInt ∧ ((¬ rl8 (σ_1.2.2.2 86) x22_1.toNatClampNeg ∧ l2 = 0 ∧ s2 = 0) ∨ (rl8 (σ_1.2.2.2 86) x22_1.toNatClampNeg ∧ l2.toNatClampNeg = cntR (σ_1.2.2.2 86) x22_1.toNatClampNeg (σ.1 70).toNatClampNeg ∧ s2 = 1))) → w_findRings_70 C Q (fun l1' τ => ∃ k < n22, (fun n l1 τ => n = (σ.1 70 - l1).toNatClampNeg ∧ ((frM fgF fgR σ τ ∧ τ.2.2.2 86 = σ_1.2.2.2 86 ∧ 0 ≤ l1 ∧ l1 ≤ σ.1 70 ∧ 0 ≤ τ.1 88 ∧ τ.1 88 ≤ l1 ∧ (τ.1 88 = 0 → ∀ a, a < l1.toNatClampNeg → bR (σ_1.2.2.2 86) a a = true → ∃ m, m < a ∧ rng (σ_1.2.2.2 86) a m)) ∧ hl8 σ τ l1.toNatClampNeg ∧ RH8 (σ_1.2.2.2 86) (σ.1 70).toNatClampNeg (τ.1 88) (τ.1 89) l1.toNatClampNeg)) k l1' τ) l1 l2 s1 s2 τ := by
    rintro y70_1 y70_2 y70_s1 y70_s2 τ70 ⟨j70, hE⟩
    unfold w_findRings_70
    intro σ_7 hσ_7
    obtain ⟨g1, g2, g3, g4, g5, g6, g7⟩ := i22
    obtain ⟨f1, f2, f3, f4', f5, f6, f7⟩ := j70
    have u := uk g3 f4' hp.1.2
    have e7 : σ_7.1 88 = y70_s1 + y70_s2 := by rw [hσ_7, si1, if_pos rfl]
    have ru := r_up g5 g6 u.2.2.2.2.2
    have fin : frM fgF fgR σ σ_7 ∧ σ_7.2.2.2 86 = σ_1.2.2.2 86 ∧ y70_1 = x22_1 ∧ ¬ σ.1 70 ≤ x22_1 ∧ 0 ≤ σ_7.1 88 ∧ σ_7.1 88 ≤ x22_1 + 1 ∧ (σ_7.1 88 = 0 → ∀ a, a < (x22_1 + 1).toNatClampNeg → bR (σ_1.2.2.2 86) a a = true → ∃ m, m < a ∧ rng (σ_1.2.2.2 86) a m) := by
      rw [e7, f5]
      refine ⟨frM_tr f1 (by rw [hσ_7]; exact frM_0 (by decide)), by rw [hσ_7, si2]; exact f2, f3, f4', ?_, ?_, fun z a ha hb => ?_⟩
      · rcases f6 with y | y
        · rw [y]; exact ru.1
        · rw [y]; exact ru.2.2.1
      · rcases f6 with y | y
        · rw [y]; exact ru.2.1
        · rw [y]; exact ru.2.2.2.1
      · rw [cn_succ g3 (Int32.lt_trans u.2.2.2.2.2 (by decide))] at ha
        have s0 : y70_s2 = 0 := by
          rcases f6 with y | y
          · exact y
          · rw [y] at z; exact absurd z ru.2.2.2.2.2
        rw [s0, ru.2.2.2.2.1] at z
        by_cases e : a = x22_1.toNatClampNeg
        · rw [e] at hb ⊢; exact f7 s0 hb
        · exact g7 z a (by omega) hb
    refine ⟨fun c8 => ?_, fun c8 => ?_⟩
    · skip
      refine hj91 _ _ _ ?_
      · refine and_5 ?_ (fun o9 => ?_)  -- k6
        · clear h; exact fin
        · clear o9
          refine ⟨fun k hk => by rw [hσ_7, si2]; exact hE.1 k hk, ?_⟩
          have n7 : (σ.1 70).toNatClampNeg ≤ 1000 := by
            have a := hp.1.1
            have b := hp.1.2
            rw [lei, t0i] at a
            rw [lei, show (1000 : Int32).toInt = 1000 from rfl] at b
            have c := cnk a
            omega
          have xn : x22_1.toNatClampNeg < (σ.1 70).toNatClampNeg := cn_lt g3 u.2.2.2.2.1
          have e89 : σ_7.1 89 = τ70.1 89 := by rw [hσ_7, si1, if_neg (by decide)]
          rw [e89] at c8 
          rw [e7, cn_succ g3 (Int32.lt_trans u.2.2.2.2.2 (by decide)), e89]
          exact (RH_s8 hE.2.1 (by omega) n7 hE.2.2.1 hE.2.2.2).1 c8
    · skip
      refine hj91 _ _ _ ?_
      · refine and_5 ?_ (fun o9 => ?_)  -- k7
        · clear h; exact fin
        · clear o9
          refine ⟨fun k hk => by rw [hσ_7, si2]; exact hE.1 k hk, ?_⟩
          have n7 : (σ.1 70).toNatClampNeg ≤ 1000 := by
            have a := hp.1.1
            have b := hp.1.2
            rw [lei, t0i] at a
            rw [lei, show (1000 : Int32).toInt = 1000 from rfl] at b
            have c := cnk a
            omega
          have xn : x22_1.toNatClampNeg < (σ.1 70).toNatClampNeg := cn_lt g3 u.2.2.2.2.1
          have e89 : σ_7.1 89 = τ70.1 89 := by rw [hσ_7, si1, if_neg (by decide)]
          rw [e89] at c8 
          rw [e7, cn_succ g3 (Int32.lt_trans u.2.2.2.2.2 (by decide))]
          exact (RH_s8 hE.2.1 (by omega) n7 hE.2.2.1 hE.2.2.2).2 c8
  have hj49 : ∀ (l1 : Int32) (s1 : Int32) (s2 : Int32) (τ : rS), ((frM fgF fgR σ τ ∧ τ = σ22 ∧ l1 = x22_1 ∧ s1 = x22_1 ∧ (s2 = 0 ∨ s2 = 1) ∧ ¬ σ.1 70 ≤ x22_1) ∧ (hl8 σ τ x22_1.toNatClampNeg ∧ ((s2 = 0 ∧ hp8 σ x22_1.toNatClampNeg) ∨ (s2 = 1 ∧ ¬ hp8 σ x22_1.toNatClampNeg))) ∧ RH8 (σ_1.2.2.2 86) (σ.1 70).toNatClampNeg (τ.1 88) (τ.1 89) x22_1.toNatClampNeg) → w_findRings_49 C Q (fun l1' τ => ∃ k < n22, (fun n l1 τ => n = (σ.1 70 - l1).toNatClampNeg ∧ ((frM fgF fgR σ τ ∧ τ.2.2.2 86 = σ_1.2.2.2 86 ∧ 0 ≤ l1 ∧ l1 ≤ σ.1 70 ∧ 0 ≤ τ.1 88 ∧ τ.1 88 ≤ l1 ∧ (τ.1 88 = 0 → ∀ a, a < l1.toNatClampNeg → bR (σ_1.2.2.2 86) a a = true → ∃ m, m < a ∧ rng (σ_1.2.2.2 86) a m)) ∧ hl8 σ τ l1.toNatClampNeg ∧ RH8 (σ_1.2.2.2 86) (σ.1 70).toNatClampNeg (τ.1 88) (τ.1 89) l1.toNatClampNeg)) k l1' τ) l1 s1 s2 τ := by
    rintro y49_1 y49_s1 y49_s2 τ49 ⟨j49, hE⟩
    unfold w_findRings_49
    obtain ⟨g1, g2, g3, g4, g5, g6, g7⟩ := i22
    obtain ⟨f1, f2, f3, f4', f5, f6⟩ := j49
    have u := uk g3 f6 hp.1.2
    have xn : x22_1.toNatClampNeg < (σ.1 70).toNatClampNeg := cn_lt g3 u.2.2.2.2.1
    refine ⟨ib_1000.mpr ?_, ?_⟩
    · clear h; rw [f4']; exact ⟨g3, u.2.2.2.2.2⟩  -- b8
    intro σ_9 hσ_9
    have e9 : ∀ k, σ_9.1 k = σ22.1 k := fun k => by rw [hσ_9, ri1, f2]
    have l9 : σ_9.2.2.2 86 = σ_1.2.2.2 86 := by rw [hσ_9, f2]; exact g2
    have f9 : frM fgF fgR σ σ_9 := frM_tr f1 (by rw [hσ_9]; exact frM_1 (by decide))
    have e70 : σ_9.1 70 = σ.1 70 := f9.1 70 (by decide)
    refine ringOf_g5 hC  ?_ (fun r10 q12 => ?_)
    · clear h; rw [f3, e70]; exact ⟨g3, u.2.2.2.2.1, hp.1.2⟩  -- p9
    obtain ⟨q12, z9⟩ := q12
    refine ⟨fun c13 => ?_, fun c13 => ?_⟩
    · skip
      refine hj70 _ _ _ _ _ ?_
      · refine and_5 ?_ (fun o9 => ?_)  -- k10
        · clear h; refine ⟨f9, l9, f3, f6, e9 88, Or.inl rfl, fun _ hb => Classical.byContradiction (fun nx => ?_)⟩
          have q := q12.2.2
          rw [l9, f3, e70] at q
          have c := q hb (fun m hm y => nx ⟨m, hm, y⟩)
          have p := cntR_pos (r := σ_1.2.2.2 86) xn ⟨hb, hb⟩
          have z := cn_zero c13
          omega
        · clear o9
          refine ⟨fun k hk => ?_, ?_, ?_, ?_⟩
          · rw [cn_succ g3 (Int32.lt_trans u.2.2.2.2.2 (by decide))] at hk
            rw [hσ_9, ri34, if_pos rfl, f4']
            by_cases e : k = x22_1.toNatClampNeg
            · rw [if_pos e, e]
              rcases hE.1.2 with ⟨z1, z2⟩ | ⟨z1, z2⟩
              · rw [z1]
                exact ⟨fun y => absurd rfl y, fun y => absurd z2 y⟩
              · rw [z1]
                exact ⟨fun _ => z2, fun _ => by decide⟩
            · rw [if_neg e]
              exact hE.1.1 k (by omega)
          · rw [e9 88, e9 89, ← f2]
            exact hE.2
          · have y := q12.1
            rw [lei, t0i] at y
            exact y
          · have y := z9
            rw [l9, f3, e70] at y
            rcases y with ⟨y1, y2⟩ | ⟨y1, y2⟩
            · exact Or.inl ⟨y1, y2, rfl⟩
            · have p := cntR_pos (r := σ_1.2.2.2 86) xn ⟨y1.1, y1.1⟩
              have z := cn_zero c13
              omega
    · skip
      refine hj70 _ _ _ _ _ ?_
      · refine and_5 ?_ (fun o9 => ?_)  -- k11
        · clear h; exact ⟨f9, l9, f3, f6, e9 88, Or.inr rfl, fun z => absurd z (by decide)⟩
        · clear o9
          refine ⟨fun k hk => ?_, ?_, ?_, ?_⟩
          · rw [cn_succ g3 (Int32.lt_trans u.2.2.2.2.2 (by decide))] at hk
            rw [hσ_9, ri34, if_pos rfl, f4']
            by_cases e : k = x22_1.toNatClampNeg
            · rw [if_pos e, e]
              rcases hE.1.2 with ⟨z1, z2⟩ | ⟨z1, z2⟩
              · rw [z1]
                exact ⟨fun y => absurd rfl y, fun y => absurd z2 y⟩
              · rw [z1]
                exact ⟨fun _ => z2, fun _ => by decide⟩
            · rw [if_neg e]
              exact hE.1.1 k (by omega)
          · rw [e9 88, e9 89, ← f2]
            exact hE.2
          · have y := q12.1
            rw [lei, t0i] at y
            exact y
          · have y := z9
            rw [l9, f3, e70] at y
            rcases y with ⟨y1, y2⟩ | ⟨y1, y2⟩
            · rw [y2] at c13
              exact absurd (Int32.le_refl 0) c13
            · exact Or.inr ⟨y1, y2, rfl⟩
  obtain ⟨g1, g2, g3, g4, g5, g6, g7⟩ := i22
  have e70 : σ22.1 70 = σ.1 70 := g1.1 70 (by decide)
  refine ⟨fun c14 => ?_, fun c14 => ?_⟩
  · skip
    refine h _ ?_
    · refine and_5 ?_ (fun o9 => ?_)  -- q12
      · clear h; refine ⟨g1, g5, fun z a ha T => ?_⟩
        have e : x22_1 = σ.1 70 := Int32.le_antisymm g4 (by rw [← e70]; exact c14)
        rw [e] at g7
        have bt := q2.2
        obtain ⟨m, m1, m2, m3⟩ := rng_least ((bt a a ha ha).mpr T)
        have hm : m < (σ.1 70).toNatClampNeg := by omega
        have tam := (bt a m ha hm).mp m2.1
        have tma := (bt m a hm ha).mp m2.2
        obtain ⟨j, j1, j2⟩ := g7 z m hm ((bt m m hm hm).mpr (Tr_tr tma tam))
        have hj : j < (σ.1 70).toNatClampNeg := by omega
        exact m3 j j1 ⟨(bt a j ha hj).mpr (Tr_tr tam ((bt m j hm hj).mp j2.1)), (bt j a hj ha).mpr (Tr_tr ((bt j m hj hm).mp j2.2) tma)⟩
      · clear o9
        have e : x22_1 = σ.1 70 := Int32.le_antisymm g4 (by rw [← e70]; exact c14)
        refine ⟨by rw [← e]; exact hE.1, RH_t8 q2.2 ?_⟩
        have w := hE.2
        rw [e] at w
        exact w
  · skip
    have c14' : ¬ σ.1 70 ≤ x22_1 := by rw [← e70]; exact c14
    have u := uk g3 c14' hp.1.2
    refine canEnd_c hC  ?_ (fun r15 q17 => ?_)
    · clear h; exact ⟨exO_o hp (fun k hk => g1.1 k (by rcases hk with rfl | rfl | rfl <;> decide)) (fun k hk => g1.2.2.1 k (by rcases hk with rfl | rfl | rfl | rfl | rfl | rfl <;> decide)), g3, by rw [e70]; exact u.2.2.2.2.1⟩  -- p13
    refine ⟨fun c18 => ?_, fun c18 => ?_⟩
    · skip
      refine hj49 _ _ _ _ ?_
      · refine and_5 ?_ (fun o9 => ⟨⟨hE.1, by
have xn : x22_1.toNatClampNeg < (σ.1 70).toNatClampNeg := cn_lt g3 u.2.2.2.2.1
have q := q17.2
have eo : ∀ k, endN σ22 0 k ↔ endN σ 0 k := fun k => endN_o8 (fun r hr => g1.2.2.1 r (by rcases hr with z | z | z | z <;> rw [z] <;> decide))
have hq : hp8 σ x22_1.toNatClampNeg ↔ r15 ≠ 0 := by
  refine Iff.trans ?_ q.symm
  unfold hp8
  rw [eo, e70, g2]
  constructor
  · rintro (y | ⟨m, y1, y2, y3⟩)
    · exact Or.inl y
    · exact Or.inr ⟨m, y1, (q2.2 _ m xn y1).mpr y2, (eo m).mpr y3⟩
  · rintro (y | ⟨m, y1, y2, y3⟩)
    · exact Or.inl y
    · exact Or.inr ⟨m, y1, (q2.2 _ m xn y1).mp y2, (eo m).mp y3⟩
first | exact Or.inl ⟨rfl, hq.mpr c18⟩ | exact Or.inr ⟨rfl, fun y => hq.mp y c18⟩⟩, hE.2⟩)  -- k14
        clear h; exact ⟨g1, rfl, rfl, rfl, Or.inl rfl, c14'⟩
    · skip
      refine hj49 _ _ _ _ ?_
      · refine and_5 ?_ (fun o9 => ⟨⟨hE.1, by
have xn : x22_1.toNatClampNeg < (σ.1 70).toNatClampNeg := cn_lt g3 u.2.2.2.2.1
have q := q17.2
have eo : ∀ k, endN σ22 0 k ↔ endN σ 0 k := fun k => endN_o8 (fun r hr => g1.2.2.1 r (by rcases hr with z | z | z | z <;> rw [z] <;> decide))
have hq : hp8 σ x22_1.toNatClampNeg ↔ r15 ≠ 0 := by
  refine Iff.trans ?_ q.symm
  unfold hp8
  rw [eo, e70, g2]
  constructor
  · rintro (y | ⟨m, y1, y2, y3⟩)
    · exact Or.inl y
    · exact Or.inr ⟨m, y1, (q2.2 _ m xn y1).mpr y2, (eo m).mpr y3⟩
  · rintro (y | ⟨m, y1, y2, y3⟩)
    · exact Or.inl y
    · exact Or.inr ⟨m, y1, (q2.2 _ m xn y1).mp y2, (eo m).mp y3⟩
first | exact Or.inl ⟨rfl, hq.mpr c18⟩ | exact Or.inr ⟨rfl, fun y => hq.mp y c18⟩⟩, hE.2⟩)  -- k15
        clear h; exact ⟨g1, rfl, rfl, rfl, Or.inr rfl, c14'⟩

end
section
set_option maxHeartbeats 1600000
/-! back from the open states to all that come to them -/
def bk8 (B S : Nat → Int32) (n a b : Nat) : Prop := a < n ∧ b < n ∧ ∃ i : Nat, (B b).toInt ≤ (i : Int) ∧ (i : Int) < (B (b + 1)).toInt ∧ (S i).toInt = (a : Int)
def rq8 (O0 B S O H : Nat → Int32) (n : Nat) (m x : Int) : Prop := (∀ i : Nat, (i : Int) < m → (0 ≤ (H i).toInt ∧ (H i).toInt < n) ∧ O (H i).toNatClampNeg ≠ 0) ∧ (∀ k, k < n → O k ≠ 0 → ∃ i : Nat, (i : Int) < m ∧ (H i).toInt = (k : Int)) ∧ (∀ k, k < n → O0 k ≠ 0 → O k ≠ 0) ∧ (∀ k, k < n → O k ≠ 0 → O0 k ≠ 0 ∨ ∃ t, t < n ∧ O0 t ≠ 0 ∧ Tr (bk8 B S n) k t) ∧ (∀ i : Nat, (i : Int) < x → (i : Int) < m → ∀ a, bk8 B S n a (H i).toNatClampNeg → O a ≠ 0)
def ri8 (B S O H : Nat → Int32) (m x : Int) (k : Int32) (y : Int) : Prop := (0 ≤ x ∧ x < m ∧ H x.toNat = k) ∧ ∀ i : Nat, (B k.toNatClampNeg).toInt ≤ (i : Int) → (i : Int) < y → O (S i).toNatClampNeg ≠ 0
theorem pr_8 {E : Nat → Nat → Prop} {P : Nat → Prop} (h : ∀ a b, E a b → P b → P a) {a b : Nat} (T : Tr E a b) (hb : P b) : P a := by
  obtain ⟨k, T⟩ := T
  induction k generalizing a with
  | zero => exact h a b T hb
  | succ k ih =>
    obtain ⟨c, g1, g2⟩ := T
    exact h a c g1 (ih g2)
section
variable {O0 B S O H : Nat → Int32} {n : Nat} {m x : Int}
/-- all that waited was gone through -/
theorem rq_e8 (h : rq8 O0 B S O H n m x) (hx : m ≤ x) : ∀ k, k < n → (O k ≠ 0 ↔ O0 k ≠ 0 ∨ ∃ t, t < n ∧ O0 t ≠ 0 ∧ Tr (bk8 B S n) k t) := by
  obtain ⟨h1, h2, h3, h4, h5⟩ := h
  have cl : ∀ a b, bk8 B S n a b → O b ≠ 0 → O a ≠ 0 := fun a b e hb => by
    obtain ⟨i, i1, i2⟩ := h2 b e.2.1 hb
    have hn : (H i).toNatClampNeg = b := by
      have := cnk (x := H i) (by omega)
      omega
    exact h5 i (by omega) i1 a (by rw [hn]; exact e)
  refine fun k hk => ⟨h4 k hk, fun z => ?_⟩
  rcases z with z | ⟨t, t1, t2, t3⟩
  · exact h3 k hk z
  · exact pr_8 (P := fun a => O a ≠ 0) cl t3 (h3 t t1 t2)
/-- a state's sources were gone through -/
theorem rq_n8 {k : Int32} {y : Int} (h : rq8 O0 B S O H n m x) (g : ri8 B S O H m x k y) (hy : (B (k.toNatClampNeg + 1)).toInt ≤ y) : rq8 O0 B S O H n m (x + 1) := by
  obtain ⟨h1, h2, h3, h4, h5⟩ := h
  obtain ⟨⟨x0, x1, x2⟩, g2⟩ := g
  refine ⟨h1, h2, h3, h4, fun i i1 i2 a e => ?_⟩
  by_cases c : (i : Int) < x
  · exact h5 i c i2 a e
  · have ei : i = x.toNat := by omega
    rw [ei, x2] at e
    obtain ⟨_, _, j, j1, j2, j3⟩ := e
    have z := g2 j j1 (by omega)
    have : (S j).toNatClampNeg = a := by
      have := cnk (x := S j) (by omega)
      omega
    rw [this] at z
    exact z
/-- a source that was open -/
theorem ri_o8 {k : Int32} {y : Nat} (g : ri8 B S O H m x k (y : Int)) (ho : O (S y).toNatClampNeg ≠ 0) : ri8 B S O H m x k ((y : Int) + 1) := by
  refine ⟨g.1, fun i i1 i2 => ?_⟩
  by_cases c : i = y
  · rw [c]; exact ho
  · exact g.2 i i1 (by omega)
/-- a source that is opened -/
theorem ri_s8 {k w : Int32} {y mm : Nat} (h : rq8 O0 B S O H n m x) (g : ri8 B S O H m x k (y : Int)) (hm : (mm : Int) = m) (hk : 0 ≤ k.toInt ∧ k.toInt < n) (hb : (B k.toNatClampNeg).toInt ≤ (y : Int) ∧ (y : Int) < (B (k.toNatClampNeg + 1)).toInt) (hs : 0 ≤ (S y).toInt ∧ (S y).toInt < n) (hw : w ≠ 0) : rq8 O0 B S (upd O (S y).toNatClampNeg w) (upd H mm (S y)) n (m + 1) x ∧ ri8 B S (upd O (S y).toNatClampNeg w) (upd H mm (S y)) (m + 1) x k ((y : Int) + 1) := by
  obtain ⟨h1, h2, h3, h4, h5⟩ := h
  obtain ⟨⟨x0, x1, x2⟩, g2⟩ := g
  have sn := cnk hs.1
  have kn := cnk hk.1
  have up : ∀ a, O a ≠ 0 → upd O (S y).toNatClampNeg w a ≠ 0 := fun a ha => by
    by_cases c : a = (S y).toNatClampNeg
    · have e : upd O (S y).toNatClampNeg w a = w := if_pos c
      rw [e]; exact hw
    · have e : upd O (S y).toNatClampNeg w a = O a := if_neg c
      rw [e]; exact ha
  have us : upd O (S y).toNatClampNeg w (S y).toNatClampNeg ≠ 0 := by
    have e : upd O (S y).toNatClampNeg w (S y).toNatClampNeg = w := if_pos rfl
    rw [e]; exact hw
  have hlo : ∀ i, i ≠ mm → upd H mm (S y) i = H i := fun i c => if_neg c
  have hne : upd H mm (S y) mm = S y := if_pos rfl
  have ok : O k.toNatClampNeg ≠ 0 := by
    have z := (h1 x.toNat (by omega)).2
    rw [x2] at z
    exact z
  have ed : bk8 B S n (S y).toNatClampNeg k.toNatClampNeg := ⟨by omega, by omega, y, hb.1, hb.2, by omega⟩
  refine ⟨⟨fun i hi => ?_, fun a ha z => ?_, fun a ha z => up a (h3 a ha z), fun a ha z => ?_, fun i i1 i2 a e => ?_⟩, ⟨x0, by omega, ?_⟩, fun i i1 i2 => ?_⟩
  · by_cases c : i = mm
    · rw [c, hne]
      exact ⟨hs, us⟩
    · rw [hlo i c]
      obtain ⟨y1, y2⟩ := h1 i (by omega)
      exact ⟨y1, up _ y2⟩
  · by_cases c : a = (S y).toNatClampNeg
    · exact ⟨mm, by omega, by rw [hne]; omega⟩
    · have e : upd O (S y).toNatClampNeg w a = O a := if_neg c
      rw [e] at z
      obtain ⟨i, i1, i2⟩ := h2 a ha z
      exact ⟨i, by omega, by rw [hlo i (by omega)]; exact i2⟩
  · by_cases c : a = (S y).toNatClampNeg
    · rw [c]
      rcases h4 _ (by omega) ok with q | ⟨t, t1, t2, t3⟩
      · exact Or.inr ⟨_, by omega, q, Tr_1 ed⟩
      · exact Or.inr ⟨t, t1, t2, Tr_tr (Tr_1 ed) t3⟩
    · have e : upd O (S y).toNatClampNeg w a = O a := if_neg c
      rw [e] at z
      exact h4 a ha z
  · rw [hlo i (by omega)] at e
    exact up a (h5 i i1 (by omega) a e)
  · rw [hlo _ (by omega)]; exact x2
  · by_cases c : i = y
    · rw [c]; exact us
    · exact up _ (g2 i i1 (by omega))
end

end
