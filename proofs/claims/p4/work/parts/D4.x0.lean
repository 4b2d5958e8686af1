set_option maxHeartbeats 1600000
/-! the class: Solver's fresh -/
/-- what fresh may touch -/
def frF9 (ρ : Nat → Nat) (κ : zS) (f9 s9 : Nat) : Nat → Nat → Prop := fun f b => soF ρ (fun r => 100 ≤ r ∧ r < 1000000 ∧ (f9 = soWorths → 4 ≤ (r - 100) % 8)) 0 f b ∨ (f = f9 ∧ b = s9) ∨ f = 0 ∨ zn κ ≤ b
def frN9 (x : Int32) : Nat := (if (1000 : Int32) < ((2 : Int32) * x) then (1000 : Int32) else ((2 : Int32) * x)).toNatClampNeg
/-- the row that is filled: the old one, or a new one -/
def frW9 (κ κ1 : zS) (o r : Nat) (m : Int32) : Prop := (r = o ∧ κ1 = κ ∧ m.toInt ≤ (zN κ o : Int)) ∨ (r = zn κ ∧ κ1 = na κ 25 (frN9 m) ∧ (zN κ o : Int) < m.toInt)
/-- fractions below k are in order -/
def frX9 (ρ : Nat → Nat) (s b f9 : Nat) (κ τ : zS) (o r : Nat) (m : Int32) (k : Nat) (X : (Nat → Nat) → Prop) : Prop := ∃ (κ1 : zS) (ρ' : Nat → Nat), frW9 κ κ1 o r m ∧ (∀ x, x < zn κ → ρ' x = ρ x) ∧ (nmI ρ' τ ∧ soI ρ' τ s) ∧ zF (frF9 ρ κ f9 s) κ1 τ ∧ (zO τ r = zO κ1 r ∧ zO τ o = zO κ o ∧ zR τ f9 s = zR κ f9 s) ∧ (∀ j u, j < 1000 → zQ τ r j = some u → ρ' u = b + 8 * j) ∧ (∀ j u, j < 1000 → zQ τ o j = some u → ρ' u = b + 8 * j) ∧ (∀ j, j < k → ∃ u, zQ τ r j = some u ∧ zI τ raSign u = 0 ∧ nuN τ (zR τ raTop u) = 0 ∧ nuN τ (zR τ raBottom u) = 1) ∧ X ρ'
theorem frN9_v {x : Int32} (h : 0 ≤ x.toInt ∧ x.toInt ≤ 1000) : x.toInt ≤ (frN9 x : Int) ∧ frN9 x ≤ 1000 ∧ (frN9 x = 1000 ∨ (frN9 x : Int) = 2 * x.toInt) := by
  have t2 : (2 : Int32).toInt = 2 := rfl
  have t1 : (1000 : Int32).toInt = 1000 := rfl
  have m : ((2 : Int32) * x).toInt = 2 * x.toInt := by
    have q := mul_i (x := 2) (y := x) (by rw [t2]; omega) (by rw [t2]; omega)
    rw [t2] at q
    exact q
  unfold frN9
  by_cases z : (1000 : Int32) < (2 : Int32) * x
  · rw [if_pos z]
    have q : (1000 : Int32).toNatClampNeg = 1000 := by decide
    rw [q]
    exact ⟨by omega, Nat.le_refl _, Or.inl rfl⟩
  · rw [if_neg z]
    rw [lti, t1, m] at z
    have k := cnk (x := (2 : Int32) * x) (by omega)
    exact ⟨by omega, by omega, Or.inr (by omega)⟩
/-- a row that is made changes no number -/
theorem nm_na9 {C : zC} {n0 t n : Nat} {ρ : Nat → Nat} {κ κ1 : zS} (W : zW C n0 κ) (N : nmI ρ κ) (e : κ1 = na κ t n) : nmI ρ κ1 := by
  have lt : ∀ x, zT κ x ≠ 0 → x ≠ zn κ := fun x h => Nat.ne_of_lt (W.2.1 x h).2
  have hT : ∀ x, zT κ x ≠ 0 → zT κ1 x = zT κ x := fun x h => by rw [e]; exact if_neg (lt x h)
  have hI : zI κ1 = zI κ := by rw [e]; rfl
  have hR : zR κ1 = zR κ := by rw [e]; rfl
  refine ⟨fun w h => ?_, fun v h => ?_⟩
  · obtain ⟨a, b, c⟩ := N.1 w h
    have tr := ty_nuLimbs W a
    have hN : zN κ1 (zR κ nuLimbs w) = zN κ (zR κ nuLimbs w) := by rw [e]; exact if_neg (lt _ (by rw [tr]; decide))
    have hA : zA κ1 (zR κ nuLimbs w) = zA κ (zR κ nuLimbs w) := by rw [e]; exact if_neg (lt _ (by rw [tr]; decide))
    refine ⟨by rw [hT w (by rw [a]; decide)]; exact a, ?_, fun y => ?_⟩
    · unfold nuC
      rw [hR, hN]
      exact b
    · have i := c y
      unfold nuI nuB nuZ at i ⊢
      rw [hI, hR, hN, hA]
      exact i
  · obtain ⟨a, b, c⟩ := N.2 v h
    rw [hR]
    exact ⟨by rw [hT v (by rw [a]; decide)]; exact a, b, c⟩
theorem so_na9 {C : zC} {n0 t n a : Nat} {ρ : Nat → Nat} {κ κ1 : zS} (W : zW C n0 κ) (Ta : zT κ a = 12) (S : soI ρ κ a) (e : κ1 = na κ t n) : soI ρ κ1 a := by
  have tf := ty_caFactors W (ty_soCalc W Ta)
  refine so_k S (fun f b _ _ => by rw [e]; rfl) ?_
  rw [e]
  exact if_neg (Nat.ne_of_lt (W.2.1 _ (by rw [tf]; decide)).2)
/-- whose the row is -/
theorem fr_o9 {C : zC} {n0 s f9 o r : Nat} {κ κ1 τ : zS} {m : Int32} (W : zW C n0 κ) (To : zT κ o = 25) (hs : zT κ s = 12) (ho : zO κ o = (f9, s)) (H : frW9 κ κ1 o r m) (e : zO τ r = zO κ1 r) : (zO τ r = (f9, s) ∧ r = o) ∨ (zO τ r = (0, 0) ∧ r = zn κ) := by
  rcases H with ⟨h1, h2, _⟩ | ⟨h1, h2, _⟩
  · left
    rw [e, h2, h1]
    exact ⟨ho, rfl⟩
  · right
    refine ⟨?_, h1⟩
    rw [e, h2, h1]
    exact if_pos rfl
theorem fr_l9 {C : zC} {n0 o r f9 s : Nat} {ρ : Nat → Nat} {κ κ1 τ : zS} {m : Int32} (W : zW C n0 κ) (To : zT κ o = 25) (hm : 0 ≤ m.toInt ∧ m.toInt ≤ 1000) (ho : zN κ o ≤ 1000) (H : frW9 κ κ1 o r m) (Z : zF (frF9 ρ κ f9 s) κ1 τ) : m.toInt ≤ (zN τ r : Int) ∧ zN τ r ≤ 1000 ∧ zN τ o = zN κ o ∧ zn κ ≤ zn τ := by
  have mn := Z.2.2.2.2.2.2
  rcases H with ⟨h1, h2, h3⟩ | ⟨h1, h2, h3⟩
  · subst h2
    rw [h1, Z.l To]
    exact ⟨h3, ho, rfl, mn⟩
  · have t1 : zT κ1 r = 25 := by rw [h2, h1]; exact if_pos rfl
    have to1 : zT κ1 o = 25 := by
      rw [h2]
      exact (if_neg (Nat.ne_of_lt (W.2.1 o (by rw [To]; decide)).2)).trans To
    have n1 : zN κ1 r = frN9 m := by rw [h2, h1]; exact if_pos rfl
    have no1 : zN κ1 o = zN κ o := by
      rw [h2]
      exact if_neg (Nat.ne_of_lt (W.2.1 o (by rw [To]; decide)).2)
    have v := frN9_v hm
    rw [Z.l t1, Z.l to1, n1, no1]
    have z1 : zn κ1 = zn κ + 1 := by rw [h2]; rfl
    exact ⟨v.1, v.2.1, rfl, by omega⟩
theorem raF_0 {t b a x : Nat} : ¬ raF t b a 0 x := fun z => by
  rcases z with ⟨_, z | z⟩ | ⟨_, z⟩ <;> exact absurd z (by decide)
/-- how many of the first k places are filled -/
def nk9 (κ : zS) (o k : Nat) : Nat := zSum (if k ≤ zN κ o then k else zN κ o) (fun j => if zQ κ o j = none then 0 else 1)
theorem nk_s9 {κ : zS} {o k : Nat} : nk9 κ o (k + 1) ≤ nk9 κ o k + 1 := by
  unfold nk9
  by_cases h : k + 1 ≤ zN κ o
  · rw [if_pos h, if_pos (by omega)]
    show zSum k _ + (if zQ κ o k = none then 0 else 1) ≤ _
    split <;> omega
  · by_cases g : k ≤ zN κ o
    · have e : zN κ o = k := by omega
      rw [if_neg h, if_pos g, e]
      omega
    · rw [if_neg h, if_neg g]
      omega
theorem nk_n9 {κ : zS} {o k : Nat} (h : zN κ o ≤ k ∨ zQ κ o k = none) : nk9 κ o (k + 1) ≤ nk9 κ o k := by
  unfold nk9
  rcases h with h | h
  · rw [if_neg (show ¬ k + 1 ≤ zN κ o by omega)]
    by_cases g : k ≤ zN κ o
    · have e : zN κ o = k := by omega
      rw [if_pos g, e]
      exact Nat.le_refl _
    · rw [if_neg g]
      exact Nat.le_refl _
  · by_cases g : k + 1 ≤ zN κ o
    · rw [if_pos g, if_pos (by omega)]
      show zSum k _ + (if zQ κ o k = none then 0 else 1) ≤ _
      rw [if_pos h]
      exact Nat.le_refl _
    · rw [if_neg g]
      by_cases g2 : k ≤ zN κ o
      · have e : zN κ o = k := by omega
        rw [if_pos g2, e]
        exact Nat.le_refl _
      · rw [if_neg g2]
        exact Nat.le_refl _
/-- as many fractions are made as places were empty -/
def frC9 (κ τ : zS) (o k k' : Nat) : Prop := (nT9 11 τ + nk9 κ o k ≤ nT9 11 κ + k ∧ nT9 8 τ + 2 * nk9 κ o k ≤ nT9 8 κ + 2 * k) ∧ ∀ j, k' ≤ j → zQ τ o j = zQ κ o j
theorem frC_09 {κ : zS} {o : Nat} : nk9 κ o 0 = 0 := by
  unfold nk9
  rw [if_pos (Nat.zero_le _)]
  rfl
theorem So_fresh_c {C : zC} {n0 : Nat} {a0 : Nat} {a1 : Int32} {κ : zS} {Q : Nat → zS → Prop} (W : zW C n0 κ) (Ta0 : zT κ a0 = 25) (ρ : Nat → Nat) (s9 b9 f9 : Nat) (hp : (nmI ρ κ ∧ soI ρ κ s9) ∧ zT κ s9 = 12 ∧ ((b9 = 100 ∨ b9 = 104) ∧ (f9 = soVisits ∨ f9 = soWorths) ∧ zO κ a0 = (f9, s9) ∧ (f9 = soWorths → b9 = 104)) ∧ (∀ j u, j < 1000 → zQ κ a0 j = some u → ρ u = b9 + 8 * j) ∧ zN κ a0 ≤ 1000 ∧ (0 ≤ a1.toInt ∧ a1.toInt ≤ 1000)) (h : ∀ (v : Nat) (κ' : zS), (frX9 ρ s9 b9 f9 κ κ' a0 v a1 a1.toNatClampNeg (fun _ => True) ∧ frC9 κ κ' a0 a1.toNatClampNeg a1.toNatClampNeg) → Q v κ') : zRun C 3 mSo_fresh [.ref a0, .int a1] κ (oR 25 Q noX) := by
  refine So_fresh_run W Ta0 ?_
  replace W := W.lo (Nat.le_trans W.1.2.1 W.1.2.2) (Nat.le_refl (zn κ))
  unfold w_So_fresh_0
  obtain ⟨⟨N0, S0⟩, hs, ⟨hb, hf, ho, hw0⟩, p4, p5, p6⟩ := hp
  have hw : id (f9 = soWorths → b9 = 104) := hw0
  clear hw0
  have ka1 := cnk p6.1
  have ls := (W.2.1 s9 (by rw [hs]; decide)).2
  have lo := (W.2.1 a0 (by rw [Ta0]; decide)).2
  have hh23 : ∀ (l0 : Nat) (l1 : Int32) (l2 : Nat) (l3 : Int32) (τ : zS), zW C (zn κ) τ → zT τ l0 = 25 → zT τ l2 = 25 → (a0 = l0 ∧ a1 = l1 ∧ frX9 ρ s9 b9 f9 κ τ a0 l2 a1 l3.toNatClampNeg (fun _ => True) ∧ 0 ≤ l3.toInt ∧ l3.toInt ≤ a1.toInt ∧ frC9 κ τ a0 l3.toNatClampNeg l3.toNatClampNeg) → w_So_fresh_23 C (zn κ) Q  l0 l1 l2 l3 τ := by
    intro z0 z1 z2 z3 τi Wi _ _ hinit
    unfold w_So_fresh_23
    refine ⟨fun n l0 l1 l2 l3 τ => n = (a1.toInt - l3.toInt).toNat ∧ (a0 = l0 ∧ a1 = l1 ∧ frX9 ρ s9 b9 f9 κ τ a0 l2 a1 l3.toNatClampNeg (fun _ => True) ∧ 0 ≤ l3.toInt ∧ l3.toInt ≤ a1.toInt ∧ frC9 κ τ a0 l3.toNatClampNeg l3.toNatClampNeg), ⟨_, rfl, hinit⟩, ?_⟩
    clear hinit
    rintro n23 _ _ x23_2 x23_3 κ23 W23 T23_0 T23_1 ⟨hn23, rfl, rfl, i23⟩
    obtain ⟨J1, l1, l2, C1⟩ := i23
    obtain ⟨κa, ρa, Ha, Ra, Na, Za, Oa, A1, A2, A3, _⟩ := id J1
    have La := fr_l9 W Ta0 p6 p5 Ha Za
    have kc := cnk l1
    have tN : ∀ x, zN κ23 x ≤ 1000 → (Int32.ofNat (zN κ23 x)).toInt = (zN κ23 x : Int) := fun x h => ofn_i (by omega)
    have hj63 : ∀ (l0 : Nat) (l1 : Int32) (l2 : Nat) (l3 : Int32) (s0 : Nat) (s1 : Int32) (s2 : Option Nat) (τ : zS), zW C (zn κ) τ → zT τ l0 = 25 → zT τ l2 = 25 → zT τ s0 = 25 → (∀ v, s2 = some v → zT τ v = 11) → (a0 = l0 ∧ a1 = l1 ∧ (∃ u, s2 = some u ∧ frX9 ρ s9 b9 f9 κ τ a0 l2 a1 l3.toNatClampNeg (fun ρ' => ρ' u = b9 + 8 * l3.toNatClampNeg)) ∧ (0 ≤ l3.toInt ∧ l3.toInt < a1.toInt ∧ x23_3 = l3) ∧ (l2 = s0 ∧ l3 = s1) ∧ frC9 κ τ a0 (l3.toNatClampNeg + 1) l3.toNatClampNeg) → w_So_fresh_63 C (zn κ) Q (fun (l0' : Nat) (l1' : Int32) (l2' : Nat) (l3' : Int32) (τ : zS) => ∃ k < n23, (fun (n : Nat) (l0 : Nat) (l1 : Int32) (l2 : Nat) (l3 : Int32) (τ : zS) => n = (a1.toInt - l3.toInt).toNat ∧ (a0 = l0 ∧ a1 = l1 ∧ frX9 ρ s9 b9 f9 κ τ a0 l2 a1 l3.toNatClampNeg (fun _ => True) ∧ 0 ≤ l3.toInt ∧ l3.toInt ≤ a1.toInt ∧ frC9 κ τ a0 l3.toNatClampNeg l3.toNatClampNeg)) k l0' l1' l2' l3' τ) l0 l1 l2 l3 s0 s1 s2 τ := by
      rintro _ _ y63_2 y63_3 y63_s0 y63_s1 y63_s2 τ63 W63 T63_0 T63_1 T63_2 T63_3 ⟨rfl, rfl, j63⟩
      unfold w_So_fresh_63
      obtain ⟨⟨u9, e2, J2⟩, ⟨l31, l32, l33⟩, ⟨e0, e1⟩, C3⟩ := j63
      subst l33
      subst e0
      subst e1
      obtain ⟨κb, ρb, Hb, Rb, ⟨Nb, Sb⟩, Zb, Ob, B1, B2, B3, Bu⟩ := J2
      have Lb := fr_l9 W Ta0 p6 p5 Hb Zb
      have kd := cnk l31
      have wo := fr_o9 W Ta0 hs ho Hb Ob.1
      refine ex_some ?_ (fun u1 hu1 => ?_)
      · exact ⟨u9, e2⟩  -- e1
      refine ⟨?_, ?_⟩
      · rw [inb_iff]; omega  -- b2
      intro κ_2 hκ_2
      intro W3
      have eu : u1 = u9 := Option.some.inj (hu1.symm.trans e2)
      subst eu
      have qn : zN κ_2 = zN τ63 := by rw [hκ_2]; rfl
      have qq : zQ κ_2 y63_2 = va_up (zQ τ63 y63_2) x23_3.toNatClampNeg (some u1) := by rw [hκ_2]; exact if_pos rfl
      refine ⟨?_, ?_⟩
      · rw [inb_iff, qn]; omega  -- b3
      refine ex_some ?_ (fun u4 hu4 => ?_)
      · exact ⟨u1, by rw [qq]; exact if_pos rfl⟩  -- e4
      intro T5
      have eu : u4 = u1 := by
        rw [qq] at hu4
        have q : va_up (zQ τ63 y63_2) x23_3.toNatClampNeg (some u1) x23_3.toNatClampNeg = some u1 := if_pos rfl
        exact Option.some.inj (hu4.symm.trans q)
      subst eu
      have N2 : nmI ρb κ_2 := by rw [hκ_2]; exact Nb
      have S2 : soI ρb κ_2 s9 := by rw [hκ_2]; exact Sb
      have g2 := ra_g9 N2 Bu (by omega) (by omega) (by omega)
      refine Ra_putZero_c W3 T5 20 ?_ (fun κ_6 q7 => ?_)
      · exact g2.2.2.1  -- p5
      intro W8
      intro M9
      intro x10 hx10
      obtain ⟨Zp, Jp, Vp⟩ := q7
      have ts63 : zT τ63 s9 = 12 := by
        rcases Hb with ⟨_, q, _⟩ | ⟨_, q, _⟩
        · rw [q] at Zb; exact Zb.t hs (by decide)
        · refine Zb.t ?_ (by decide)
          rw [q]
          exact (if_neg (Nat.ne_of_lt ls)).trans hs
      have ts2 : zT κ_2 s9 = 12 := by rw [hκ_2]; exact ts63
      have Rp := ra_w9 W3 ts2 N2 S2 Bu (by omega) (by omega) (by omega) Zp Jp
      have ix := cn1 (x := x23_3) (by omega) (by omega)
      have o2 : zO κ_2 = zO τ63 := by rw [hκ_2]; rfl
      have t2 : ∀ x, zT κ_2 x = zT τ63 x := fun x => by rw [hκ_2]; rfl
      have nf : ∀ x, zO τ63 x = (f9, s9) ∨ zO τ63 x = (0, 0) → ¬ raF (zR κ_2 raTop u4) (zR κ_2 raBottom u4) u4 (zO κ_2 x).1 (zO κ_2 x).2 := fun x hx => by
        rw [o2]
        rcases hx with hx | hx
        · rw [hx]
          show ¬ raF (zR κ_2 raTop u4) (zR κ_2 raBottom u4) u4 f9 s9
          rcases hf with q | q <;> rw [q] <;> exact raF_q (by decide) (by decide) (by decide)
        · rw [hx]; exact raF_0
      have qr6 := Zp.2.1 y63_2 (by rw [t2, T63_1]; decide) (nf _ (wo.elim (fun y => Or.inl y.1) (fun y => Or.inr y.1)))
      have qo6 := Zp.2.1 a0 (by rw [t2, T63_0]; decide) (nf _ (Or.inl (by rw [Ob.2.1]; exact ho)))
      have Zu : zF (frF9 ρ κ f9 s9) τ63 κ_2 := by
        rw [hκ_2]
        refine zF_uq ?_
        rcases wo with y | y
        · rw [y.1]; exact Or.inr (Or.inl ⟨rfl, rfl⟩)
        · rw [y.1]; exact Or.inr (Or.inr (Or.inl rfl))
      have Zf : zF (frF9 ρ κ f9 s9) κb κ_6 := (Zb.tr Zu).tr ((Rp.2 0).mono (fun f b z => by
        by_cases l : b < zn κ
        · left
          rcases z with ⟨z, y⟩ | z
          · left
            refine ⟨?_, y⟩
            rw [Rb b l] at z
            rcases z with z | z | z <;> (rw [z]; exact ⟨by omega, by omega, fun y => by have q : b9 = 104 := hw y; omega⟩)
          · exact Or.inr z
        · exact Or.inr (Or.inr (Or.inr (by omega)))))
      refine ⟨_, ?_, rfl, ?_⟩
      · rw [hn23, hx10, ix.2]; omega  -- d6
      · refine ⟨rfl, rfl, ⟨κb, ρb, Hb, Rb, Rp.1, Zf, ⟨?_, ?_, ?_⟩, fun j u hj hu => ?_, fun j u hj hu => ?_, fun j hj => ?_, trivial⟩, by rw [hx10, ix.2]; omega, by rw [hx10, ix.2]; omega, ⟨?_, ?_⟩, fun j hj => ?_⟩
        · rw [qr6.2.2.2, o2]; exact Ob.1
        · rw [qo6.2.2.2, o2]; exact Ob.2.1
        · rw [raF_r Zp (by rcases hf with q | q <;> rw [q] <;> decide) (by rcases hf with q | q <;> rw [q] <;> decide) (by rcases hf with q | q <;> rw [q] <;> decide), hκ_2]
          exact Ob.2.2
        · rw [qr6.2.2.1, qq] at hu
          unfold va_up at hu
          by_cases e : j = x23_3.toNatClampNeg
          · rw [if_pos e] at hu
            rw [← Option.some.inj hu, e]
            exact Bu
          · rw [if_neg e] at hu
            exact B1 j u hj hu
        · rw [qo6.2.2.1] at hu
          by_cases er : a0 = y63_2
          · rw [er, qq] at hu
            unfold va_up at hu
            by_cases e : j = x23_3.toNatClampNeg
            · rw [if_pos e] at hu
              rw [← Option.some.inj hu, e]
              exact Bu
            · rw [if_neg e] at hu
              exact B1 j u hj hu
          · have qa : zQ κ_2 a0 = zQ τ63 a0 := by rw [hκ_2]; exact if_neg er
            rw [qa] at hu
            exact B2 j u hj hu
        · rw [hx10, ix.1] at hj
          rw [qr6.2.2.1, qq]
          unfold va_up
          by_cases e : j = x23_3.toNatClampNeg
          · exact ⟨u4, if_pos e, Int32.toInt.inj Vp.1, Vp.2.1, Vp.2.2⟩
          · obtain ⟨u, hu, hz, ht, hb9⟩ := B3 j (by omega)
            refine ⟨u, by rw [if_neg e]; exact hu, ?_⟩
            have ru := B1 j u (by omega) hu
            have i6 := Zp.i (f := raSign) (a := u) (fun z => by
              rcases z with ⟨_, z | z⟩ | ⟨z, _⟩
              · exact absurd z (by decide)
              · exact absurd z (by decide)
              · rw [z, Bu] at ru
                omega)
            have gu := ra_g9 N2 ru (by omega) (by omega) (by omega)
            have f9' := ra_f9 W3 N2 (Rp.2 0) ru gu.1.2 ⟨by omega, by omega, by omega⟩
            rw [i6, f9'.2.1.1, f9'.2.1.2, f9'.2.2.1, f9'.2.2.2, hκ_2]
            exact ⟨hz, ht, hb9⟩
        · have q2 : nT9 11 κ_2 = nT9 11 τ63 := nT_09 (by rw [hκ_2]; rfl) (fun b _ => t2 b)
          have q6 := nT_z9 W3 Zp (fun b _ => raF_0) (t := 11) (by decide)
          have q3 := C3.1.1
          rw [hx10, ix.1]
          omega
        · have q2 : nT9 8 κ_2 = nT9 8 τ63 := nT_09 (by rw [hκ_2]; rfl) (fun b _ => t2 b)
          have q6 := nT_z9 W3 Zp (fun b _ => raF_0) (t := 8) (by decide)
          have q3 := C3.1.2
          rw [hx10, ix.1]
          omega
        · rw [hx10, ix.1] at hj
          rw [qo6.2.2.1, ← C3.2 j (by omega)]
          by_cases er : a0 = y63_2
          · rw [er, qq]
            exact if_neg (by omega)
          · rw [hκ_2]
            exact congrFun (if_neg er) j
    have hj54 : ∀ (l0 : Nat) (l1 : Int32) (l2 : Nat) (l3 : Int32) (s0 : Nat) (s1 : Int32) (τ : zS), zW C (zn κ) τ → zT τ l0 = 25 → zT τ l2 = 25 → zT τ s0 = 25 → (a0 = l0 ∧ a1 = l1 ∧ frX9 ρ s9 b9 f9 κ τ a0 l2 a1 l3.toNatClampNeg (fun _ => True) ∧ (0 ≤ l3.toInt ∧ l3.toInt < a1.toInt ∧ x23_3 = l3) ∧ (l2 = s0 ∧ l3 = s1) ∧ frC9 κ τ a0 l3.toNatClampNeg l3.toNatClampNeg ∧ (zN κ a0 ≤ l3.toNatClampNeg ∨ zQ κ a0 l3.toNatClampNeg = none)) → w_So_fresh_54 C (zn κ) Q (fun (l0' : Nat) (l1' : Int32) (l2' : Nat) (l3' : Int32) (τ : zS) => ∃ k < n23, (fun (n : Nat) (l0 : Nat) (l1 : Int32) (l2 : Nat) (l3 : Int32) (τ : zS) => n = (a1.toInt - l3.toInt).toNat ∧ (a0 = l0 ∧ a1 = l1 ∧ frX9 ρ s9 b9 f9 κ τ a0 l2 a1 l3.toNatClampNeg (fun _ => True) ∧ 0 ≤ l3.toInt ∧ l3.toInt ≤ a1.toInt ∧ frC9 κ τ a0 l3.toNatClampNeg l3.toNatClampNeg)) k l0' l1' l2' l3' τ) l0 l1 l2 l3 s0 s1 τ := by
      rintro _ _ y54_2 y54_3 y54_s0 y54_s1 τ54 W54 T54_0 T54_1 T54_2 ⟨rfl, rfl, j54⟩
      unfold w_So_fresh_54
      intro κ_11 hκ_11
      intro W12
      intro T13
      obtain ⟨J4, ⟨l31, l32, l33⟩, ⟨e0, e1⟩, C4, D4⟩ := j54
      subst l33
      subst e0
      subst e1
      obtain ⟨κb, ρb, Hb, Rb, ⟨Nb, Sb⟩, Zb, Ob, B1, B2, B3, _⟩ := J4
      have Lb := fr_l9 W Ta0 p6 p5 Hb Zb
      have kd := cnk l31
      have wo := fr_o9 W Ta0 hs ho Hb Ob.1
      have n11 : zn κ_11 = zn τ54 + 1 := by rw [hκ_11]; rfl
      have T54_51 : zT κ_11 (zn τ54) = 51 := by rw [hκ_11]; exact if_pos rfl
      refine Ra_init_c W12 T13  ?_ (fun κ_14 q15 => ?_)
      · exact ⟨by decide, by omega⟩  -- p8
      intro W16
      intro M17
      obtain ⟨Zi, ⟨rt, rb⟩, ⟨tt, tb, ta⟩, ⟨it, ib⟩, nt8, nt11⟩ := q15
      rw [n11] at rt rb tt tb it ib
      have n9 : (if (11 : Int32) < (2 : Int32) then (2 : Int32) else 11).toNatClampNeg = 11 := by decide
      rw [n9] at it ib
      refine ⟨?_, ?_⟩
      · refine zOk_11 ?_ ?_
        · rw [rt]; exact tt
        · rw [rb]; exact tb
      intro κ_18 hκ_18
      intro W19
      have A := mk_Ra9 W54 W12 W16 hκ_11 (Zi.mono (fun _ b z => by
        rcases z with z | z <;> omega)) ta hκ_18
      obtain ⟨A1', A2', A3'⟩ := A
      have x18 : κ_18.2 = κ_14.2 := by rw [hκ_18]; rfl
      have ts54 : zT τ54 s9 = 12 := by
        rcases Hb with ⟨_, q, _⟩ | ⟨_, q, _⟩
        · rw [q] at Zb; exact Zb.t hs (by decide)
        · refine Zb.t ?_ (by decide)
          rw [q]
          exact (if_neg (Nat.ne_of_lt ls)).trans hs
      have zp : 0 < zn τ54 := by omega
      have nf : ∀ x, zO τ54 x = (f9, s9) ∨ zO τ54 x = (0, 0) → ¬ zn τ54 ≤ (zO τ54 x).2 := fun x hx => by
        rcases hx with hx | hx
        · rw [hx]; show ¬ zn τ54 ≤ s9; omega
        · rw [hx]; show ¬ zn τ54 ≤ 0; omega
      have qr8 := A1'.2.1 y54_2 (by rw [T54_1]; decide) (nf _ (wo.elim (fun y => Or.inl y.1) (fun y => Or.inr y.1)))
      have qo8 := A1'.2.1 a0 (by rw [T54_0]; decide) (nf _ (Or.inl (by rw [Ob.2.1]; exact ho)))
      have t18 : zT κ_18 (zn τ54 + 1) = 8 := by rw [A3' _ (by omega)]; exact tt
      have b18 : zT κ_18 (zn τ54 + 1 + 2) = 8 := by rw [A3' _ (by omega)]; exact tb
      have i18 : nuI κ_18 (zn τ54 + 1) 20 := by
        have q := nuI_mono (show 11 ≤ 20 by decide) it
        rw [hκ_18]
        exact q
      have j18 : nuI κ_18 (zn τ54 + 1 + 2) 20 := by
        have q := nuI_mono (show 11 ≤ 20 by decide) ib
        rw [hκ_18]
        exact q
      have rt18 : zR κ_18 raTop (zn τ54) = zn τ54 + 1 := by rw [hκ_18]; exact rt
      have rb18 : zR κ_18 raBottom (zn τ54) = zn τ54 + 1 + 2 := by rw [hκ_18]; exact rb
      have cp := cap_v (r := b9 + 8 * x23_3.toNatClampNeg) (by omega) (by omega)
      have N18 : nmI (fun x => if x = zn τ54 then b9 + 8 * x23_3.toNatClampNeg else if x = zn τ54 + 1 then b9 + 8 * x23_3.toNatClampNeg + 1 else if x = zn τ54 + 1 + 2 then b9 + 8 * x23_3.toNatClampNeg + 2 else ρb x) κ_18 := by
        refine nm_x9 W54 Nb A1' (fun f b z => Or.inl z) (fun b hb9 => by rw [if_neg (by omega), if_neg (by omega), if_neg (by omega)]) (fun w hw hr => ?_) (fun v hv hr => ?_)
        · by_cases z1 : w = zn τ54
          · rw [if_pos z1] at hr
            exfalso
            rcases hr with q | q | q | q | q | q | q <;> omega
          · rw [if_neg z1] at hr ⊢
            by_cases z2 : w = zn τ54 + 1
            · rw [if_pos z2, cp.2.1, z2]
              exact ⟨t18, i18.1.2.1, fun _ => i18⟩
            · rw [if_neg z2] at hr ⊢
              by_cases z3 : w = zn τ54 + 1 + 2
              · rw [if_pos z3, cp.2.2, z3]
                exact ⟨b18, j18.1.2.1, fun _ => j18⟩
              · rw [if_neg z3] at hr
                exact absurd hr (nm_no9 W54 Nb hw).1
        · by_cases z1 : v = zn τ54
          · rw [z1, rt18, rb18, if_pos rfl, if_neg (by omega), if_pos rfl, if_neg (by omega), if_neg (by omega), if_pos rfl]
            exact ⟨A2', rfl, rfl⟩
          · rw [if_neg z1] at hr
            exfalso
            by_cases z2 : v = zn τ54 + 1
            · rw [if_pos z2] at hr
              rcases hr with q | q | q <;> omega
            · rw [if_neg z2] at hr
              by_cases z3 : v = zn τ54 + 1 + 2
              · rw [if_pos z3] at hr
                rcases hr with q | q | q <;> omega
              · rw [if_neg z3] at hr
                exact absurd hr (nm_no9 W54 Nb hv).2
      have S18 : soI (fun x => if x = zn τ54 then b9 + 8 * x23_3.toNatClampNeg else if x = zn τ54 + 1 then b9 + 8 * x23_3.toNatClampNeg + 1 else if x = zn τ54 + 1 + 2 then b9 + 8 * x23_3.toNatClampNeg + 2 else ρb x) κ_18 s9 := so_x9 W54 ts54 Sb A1' (fun f b z => Or.inl z) (fun b hb9 => by rw [if_neg (by omega), if_neg (by omega), if_neg (by omega)])
      have tq : ∀ (o : Nat) (j u : Nat), zT τ54 o = 25 → zQ τ54 o j = some u → u < zn τ54 ∧ u ≠ zn τ54 := fun o j u to hu => by
        have t := W54.2.2.2.2.1 _ _ _ to hu
        have l := (W54.2.1 u (by rw [t]; decide)).2
        exact ⟨l, Nat.ne_of_lt l⟩
      refine hj63 _ _ _ _ _ _ _ _ W19 ?_ ?_ ?_ ?_ ?_
      · exact A1'.t T54_0 (by decide)  -- t10
      · exact A1'.t T54_1 (by decide)  -- t11
      · exact A1'.t T54_2 (by decide)  -- t12
      · exact fun v hv => by
          rw [← Option.some.inj hv]
          exact A2'
      · refine ⟨rfl, rfl, ⟨zn τ54, rfl, κb, _, Hb, fun x hx => ?_, ⟨N18, S18⟩, Zb.tr (A1'.mono (fun f b z => Or.inr (Or.inr (Or.inr (by omega))))), ⟨by rw [qr8.2.2.2]; exact Ob.1, by rw [qo8.2.2.2]; exact Ob.2.1, by rw [A1'.r (show ¬ zn τ54 ≤ s9 by omega)]; exact Ob.2.2⟩, fun j u hj hu => ?_, fun j u hj hu => ?_, fun j hj => ?_, if_pos rfl⟩, ⟨l31, l32, rfl⟩, ⟨rfl, rfl⟩, ⟨?_, ?_⟩, fun j hj => ?_⟩
        · rw [if_neg (by omega), if_neg (by omega), if_neg (by omega)]
          exact Rb x hx
        · rw [qr8.2.2.1] at hu
          have l := tq _ _ _ T54_1 hu
          rw [if_neg (by omega), if_neg (by omega), if_neg (by omega)]
          exact B1 j u hj hu
        · rw [qo8.2.2.1] at hu
          have l := tq _ _ _ T54_0 hu
          rw [if_neg (by omega), if_neg (by omega), if_neg (by omega)]
          exact B2 j u hj hu
        · obtain ⟨u, hu, hz, ht, hb9⟩ := B3 j hj
          have l := tq _ _ _ T54_1 hu
          refine ⟨u, by rw [qr8.2.2.1]; exact hu, ?_⟩
          have tu := W54.2.2.2.2.1 _ _ _ T54_1 hu
          have tt1 := ty_raTop W54 tu
          have tb1 := ty_raBottom W54 tu
          have lt1 := (W54.2.1 _ (show zT τ54 (zR τ54 raTop u) ≠ 0 by rw [tt1]; decide)).2
          have lb1 := (W54.2.1 _ (show zT τ54 (zR τ54 raBottom u) ≠ 0 by rw [tb1]; decide)).2
          rw [A1'.i (show ¬ zn τ54 ≤ u by omega), A1'.r (show ¬ zn τ54 ≤ u by omega), A1'.r (show ¬ zn τ54 ≤ u by omega), (nuB_z (c := 0) W54 tt1 A1' (show ¬ zn τ54 ≤ _ by omega) (show ¬ zn τ54 ≤ _ by omega)).2.2.1, (nuB_z (c := 0) W54 tb1 A1' (show ¬ zn τ54 ≤ _ by omega) (show ¬ zn τ54 ≤ _ by omega)).2.2.1]
          exact ⟨hz, ht, hb9⟩
        · have q0 := nk_n9 D4
          have q1 := nT_19 (t := 11) n11 (fun b hb => by rw [hκ_11]; exact if_neg (Nat.ne_of_lt hb))
          have q2 := nT_d9 (t := 11) (κ := κ_14) (τ := κ_18) (a := zn τ54) (by rw [hκ_18]; rfl) (W16.2.1 _ (by rw [ta]; decide)).2 A3'
          rw [T54_51] at q1
          rw [ta, A2'] at q2
          simp at q1 q2
          have q3 := C4.1.1
          omega
        · have q0 := nk_n9 D4
          have q1 := nT_19 (t := 8) n11 (fun b hb => by rw [hκ_11]; exact if_neg (Nat.ne_of_lt hb))
          have q2 := nT_d9 (t := 8) (κ := κ_14) (τ := κ_18) (a := zn τ54) (by rw [hκ_18]; rfl) (W16.2.1 _ (by rw [ta]; decide)).2 A3'
          rw [T54_51] at q1
          rw [ta, A2'] at q2
          simp at q1 q2
          have q3 := C4.1.2
          omega
        · rw [qo8.2.2.1]
          exact C4.2 j hj
    refine ⟨fun c20 => ?_, fun c20 => ?_⟩
    · skip
      refine h _ _ ?_
      · rw [lei] at c20
        have e : x23_3.toNatClampNeg = a1.toNatClampNeg := by omega
        rw [e] at J1 C1
        exact ⟨J1, C1⟩
    · skip
      refine ⟨fun c21 => ?_, fun c21 => ?_⟩
      · skip
        refine h _ _ ?_
        · rw [lei] at c20
          rw [lei, tN _ La.2.1] at c21
          omega
      · skip
        refine ⟨fun c22 => ?_, fun c22 => ?_⟩
        · skip
          refine hj54 _ _ _ _ _ _ _ W23 ?_ ?_ ?_ ?_
          · assumption  -- t17
          · assumption  -- t18
          · assumption  -- t19
          · rw [lei] at c20
            rw [lei, tN _ (by omega)] at c22
            exact ⟨rfl, rfl, J1, ⟨l1, by omega, rfl⟩, ⟨rfl, rfl⟩, C1, Or.inl (by omega)⟩
        · skip
          refine ⟨?_, ?_⟩
          · rw [lei] at c20
            rw [lei, tN _ (by omega)] at c22
            rw [inb_iff]; omega
          refine ⟨fun c23 => ?_, fun uc23 c23 => ?_⟩
          · skip
            refine hj54 _ _ _ _ _ _ _ W23 ?_ ?_ ?_ ?_
            · assumption  -- t22
            · assumption  -- t23
            · assumption  -- t24
            · rw [lei] at c20
              exact ⟨rfl, rfl, J1, ⟨l1, by omega, rfl⟩, ⟨rfl, rfl⟩, C1, Or.inr (by rw [← C1.2 _ (Nat.le_refl _)]; exact c23)⟩
          · skip
            refine ⟨?_, ?_⟩
            · rw [lei, tN _ (by omega)] at c22
              rw [inb_iff]; omega
            refine hj63 _ _ _ _ _ _ _ _ W23 ?_ ?_ ?_ ?_ ?_
            · assumption  -- t27
            · assumption  -- t28
            · assumption  -- t29
            · exact fun v hv => W23.2.2.2.2.1 _ _ _ T23_0 hv  -- t30
            · rw [lei] at c20
              exact ⟨rfl, rfl, ⟨uc23, c23, κa, ρa, Ha, Ra, Na, Za, Oa, A1, A2, A3, A2 _ _ (by omega) c23⟩, ⟨l1, by omega, rfl⟩, ⟨rfl, rfl⟩, ⟨by have q := C1.1.1; have q2 := nk_s9 (κ := κ) (o := a0) (k := x23_3.toNatClampNeg); omega, by have q := C1.1.2; have q2 := nk_s9 (κ := κ) (o := a0) (k := x23_3.toNatClampNeg); omega⟩, C1.2⟩
  refine ⟨fun c24 => ?_, fun c24 => ?_⟩
  · skip
    refine hh23 _ _ _ _ _ W (by assumption) (by assumption) ?_
    · rw [lei, ofn_i (by omega)] at c24
      exact ⟨rfl, rfl, ⟨κ, ρ, Or.inl ⟨rfl, rfl, c24⟩, fun _ _ => rfl, ⟨N0, S0⟩, zF.rf, ⟨rfl, rfl, rfl⟩, p4, p4, fun j hj => absurd hj (Nat.not_lt_zero j), trivial⟩, by decide, by rw [t0i]; exact p6.1, ⟨Nat.le_of_eq (congrArg (nT9 11 κ + ·) frC_09), Nat.le_of_eq (congrArg (nT9 8 κ + 2 * ·) frC_09)⟩, fun _ _ => rfl⟩
  · skip
    refine ⟨?_, ?_⟩
    · have v := frN9_v p6
      unfold frN9 at v
      have t2 : (2 : Int32).toInt = 2 := rfl
      have t1 : (1000 : Int32).toInt = 1000 := rfl
      have m : ((2 : Int32) * a1).toInt = 2 * a1.toInt := by
        have q := mul_i (x := 2) (y := a1) (by rw [t2]; omega) (by rw [t2]; omega)
        rw [t2] at q
        exact q
      refine ⟨?_, by omega⟩
      split
      · decide
      · rw [lei, t0i, m]; omega
    intro κ_25 hκ_25
    intro W26
    intro x27 hx27
    rw [lei, ofn_i (by omega)] at c24
    have Ta25 : zT κ_25 a0 = 25 := by rw [hκ_25]; exact (if_neg (Nat.ne_of_lt lo)).trans Ta0
    have Tn25 : zT κ_25 x27 = 25 := by rw [hκ_25, hx27]; exact if_pos rfl
    refine hh23 _ _ _ _ _ W26 (by assumption) (by assumption) ?_
    · refine ⟨rfl, rfl, ⟨κ_25, ρ, Or.inr ⟨hx27, hκ_25, by omega⟩, fun _ _ => rfl, ⟨nm_na9 W N0 hκ_25, so_na9 W hs S0 hκ_25⟩, zF.rf, ⟨rfl, ?_, by rw [hκ_25]; rfl⟩, fun j u _ hu => ?_, fun j u hj hu => ?_, fun j hj => absurd hj (Nat.not_lt_zero j), trivial⟩, by decide, by rw [t0i]; exact p6.1, ⟨?_, ?_⟩, fun j hj => ?_⟩
      · rw [hκ_25]; exact if_neg (Nat.ne_of_lt lo)
      · exfalso
        rw [hκ_25, hx27] at hu
        have e : zQ (na κ 25 (if (1000 : Int32) < (2 : Int32) * a1 then (1000 : Int32) else (2 : Int32) * a1).toNatClampNeg) (zn κ) j = none := by
          show (if zn κ = zn κ then fun _ => none else _) j = none
          rw [if_pos rfl]
        rw [e] at hu
        cases hu
      · have e : zQ κ_25 a0 = zQ κ a0 := by rw [hκ_25]; exact if_neg (Nat.ne_of_lt lo)
        rw [e] at hu
        exact p4 j u hj hu
      · have q1 := nT_19 (t := 11) (κ := κ) (τ := κ_25) (by rw [hκ_25]; rfl) (fun b hb => by rw [hκ_25]; exact if_neg (Nat.ne_of_lt hb))
        have q2 : zT κ_25 (zn κ) = 25 := by rw [hκ_25]; exact if_pos rfl
        rw [q2] at q1
        simp at q1
        show nT9 11 κ_25 + nk9 κ a0 0 ≤ nT9 11 κ + 0
        rw [frC_09, q1]
        exact Nat.le_refl _
      · have q1 := nT_19 (t := 8) (κ := κ) (τ := κ_25) (by rw [hκ_25]; rfl) (fun b hb => by rw [hκ_25]; exact if_neg (Nat.ne_of_lt hb))
        have q2 : zT κ_25 (zn κ) = 25 := by rw [hκ_25]; exact if_pos rfl
        rw [q2] at q1
        simp at q1
        show nT9 8 κ_25 + 2 * nk9 κ a0 0 ≤ nT9 8 κ + 2 * 0
        rw [frC_09, q1]
        exact Nat.le_refl _
      · rw [hκ_25]
        exact congrFun (if_neg (Nat.ne_of_lt lo)) j
