section
set_option maxHeartbeats 1600000
/-! the class: Solver's fresh -/
/-- what fresh may touch -/
def frF9 (ρ : Nat → Nat) (κ : zS) (f9 s9 : Nat) : Nat → Nat → Prop := fun f b => soF ρ (fun r => 100 ≤ r ∧ r < 1000000 ∧ (f9 = soWorths → 4 ≤ (r - 100) % 8)) 0 f b ∨ (f = f9 ∧ b = s9) ∨ f = 0 ∨ zn κ ≤ b
def frN9 (x : Int32) : Nat := (if (1000 : Int32) < ((2 : Int32) * x) then (1000 : Int32) else ((2 : Int32) * x)).toNatClampNeg
/-- the row that is filled: the old one, or a new one -/
def frW9 (κ κ1 : zS) (o r : Nat) (m : Int32) : Prop := (r = o ∧ κ1 = κ ∧ m.toInt ≤ (zN κ o : Int)) ∨ (r = zn κ ∧ κ1 = na κ 25 (frN9 m) ∧ (zN κ o : Int) < m.toInt)
/-- fractions below k are in order -/
def frX9 (ρ : Nat → Nat) (s b f9 : Nat) (κ τ : zS) (o r : Nat) (m : Int32) (k : Nat) (X : (Nat → Nat) → Prop) : Prop := ∃ (κ1 : zS) (ρ' : Nat → Nat), frW9 κ κ1 o r m ∧ (∀ x, x < zn κ → ρ' x = ρ x) ∧ (nmI ρ' τ ∧ soI ρ' τ s) ∧ zF (frF9 ρ κ f9 s) κ1 τ ∧ (zO τ r = zO κ1 r ∧ zO τ o = zO κ o ∧ zR τ f9 s = zR κ f9 s) ∧ (∀ j u, j < 1000 → zQ τ r j = some u → ρ' u = b + 8 * j) ∧ (∀ j u, j < 1000 → zQ τ o j = some u → ρ' u = b + 8 * j) ∧ (∀ j, j < k → ∃ u, zQ τ r j = some u ∧ zI τ raSign u = 0 ∧ nuN τ (zR τ raTop u) = 0 ∧ nuN τ (zR τ raBottom u) = 1) ∧ X ρ'
theorem frN9_v {x : Int32} (h : 0 ≤ x.toInt ∧ x.toInt ≤ 1000) : x.toInt ≤ (frN9 x : Int) ∧ frN9 x ≤ 1000 ∧ (frN9 x = 1000 ∨ (frN9 x : Int) = 2 * x.toInt) := by
  have t2 : (2 : Int32).toInt = 2 := rfl
  have t1 : (1000 : Int32).toInt = 1000 := rfl
  have m : ((2 : Int32) * x).toInt = 2 * x.toInt := by
    have q := mul_i (x := 2) (y := x) (by rw [t2]; omega) (by rw [t2]; omega)
    rw [t2] at q
    exact q
  unfold frN9
  by_cases z : (1000 : Int32) < (2 : Int32) * x
  · rw [if_pos z]
    have q : (1000 : Int32).toNatClampNeg = 1000 := by decide
    rw [q]
    exact ⟨by omega, Nat.le_refl _, Or.inl rfl⟩
  · rw [if_neg z]
    rw [lti, t1, m] at z
    have k := cnk (x := (2 : Int32) * x) (by omega)
    exact ⟨by omega, by omega, Or.inr (by omega)⟩
/-- a row that is made changes no number -/
theorem nm_na9 {C : zC} {n0 t n : Nat} {ρ : Nat → Nat} {κ κ1 : zS} (W : zW C n0 κ) (N : nmI ρ κ) (e : κ1 = na κ t n) : nmI ρ κ1 := by
  have lt : ∀ x, zT κ x ≠ 0 → x ≠ zn κ := fun x h => Nat.ne_of_lt (W.2.1 x h).2
  have hT : ∀ x, zT κ x ≠ 0 → zT κ1 x = zT κ x := fun x h => by rw [e]; exact if_neg (lt x h)
  have hI : zI κ1 = zI κ := by rw [e]; rfl
  have hR : zR κ1 = zR κ := by rw [e]; rfl
  refine ⟨fun w h => ?_, fun v h => ?_⟩
  · obtain ⟨a, b, c⟩ := N.1 w h
    have tr := ty_nuLimbs W a
    have hN : zN κ1 (zR κ nuLimbs w) = zN κ (zR κ nuLimbs w) := by rw [e]; exact if_neg (lt _ (by rw [tr]; decide))
    have hA : zA κ1 (zR κ nuLimbs w) = zA κ (zR κ nuLimbs w) := by rw [e]; exact if_neg (lt _ (by rw [tr]; decide))
    refine ⟨by rw [hT w (by rw [a]; decide)]; exact a, ?_, fun y => ?_⟩
    · unfold nuC
      rw [hR, hN]
      exact b
    · have i := c y
      unfold nuI nuB nuZ at i ⊢
      rw [hI, hR, hN, hA]
      exact i
  · obtain ⟨a, b, c⟩ := N.2 v h
    rw [hR]
    exact ⟨by rw [hT v (by rw [a]; decide)]; exact a, b, c⟩
theorem so_na9 {C : zC} {n0 t n a : Nat} {ρ : Nat → Nat} {κ κ1 : zS} (W : zW C n0 κ) (Ta : zT κ a = 12) (S : soI ρ κ a) (e : κ1 = na κ t n) : soI ρ κ1 a := by
  have tf := ty_caFactors W (ty_soCalc W Ta)
  refine so_k S (fun f b _ _ => by rw [e]; rfl) ?_
  rw [e]
  exact if_neg (Nat.ne_of_lt (W.2.1 _ (by rw [tf]; decide)).2)
/-- whose the row is -/
theorem fr_o9 {C : zC} {n0 s f9 o r : Nat} {κ κ1 τ : zS} {m : Int32} (W : zW C n0 κ) (To : zT κ o = 25) (hs : zT κ s = 12) (ho : zO κ o = (f9, s)) (H : frW9 κ κ1 o r m) (e : zO τ r = zO κ1 r) : (zO τ r = (f9, s) ∧ r = o) ∨ (zO τ r = (0, 0) ∧ r = zn κ) := by
  rcases H with ⟨h1, h2, _⟩ | ⟨h1, h2, _⟩
  · left
    rw [e, h2, h1]
    exact ⟨ho, rfl⟩
  · right
    refine ⟨?_, h1⟩
    rw [e, h2, h1]
    exact if_pos rfl
theorem fr_l9 {C : zC} {n0 o r f9 s : Nat} {ρ : Nat → Nat} {κ κ1 τ : zS} {m : Int32} (W : zW C n0 κ) (To : zT κ o = 25) (hm : 0 ≤ m.toInt ∧ m.toInt ≤ 1000) (ho : zN κ o ≤ 1000) (H : frW9 κ κ1 o r m) (Z : zF (frF9 ρ κ f9 s) κ1 τ) : m.toInt ≤ (zN τ r : Int) ∧ zN τ r ≤ 1000 ∧ zN τ o = zN κ o ∧ zn κ ≤ zn τ := by
  have mn := Z.2.2.2.2.2.2
  rcases H with ⟨h1, h2, h3⟩ | ⟨h1, h2, h3⟩
  · subst h2
    rw [h1, Z.l To]
    exact ⟨h3, ho, rfl, mn⟩
  · have t1 : zT κ1 r = 25 := by rw [h2, h1]; exact if_pos rfl
    have to1 : zT κ1 o = 25 := by
      rw [h2]
      exact (if_neg (Nat.ne_of_lt (W.2.1 o (by rw [To]; decide)).2)).trans To
    have n1 : zN κ1 r = frN9 m := by rw [h2, h1]; exact if_pos rfl
    have no1 : zN κ1 o = zN κ o := by
      rw [h2]
      exact if_neg (Nat.ne_of_lt (W.2.1 o (by rw [To]; decide)).2)
    have v := frN9_v hm
    rw [Z.l t1, Z.l to1, n1, no1]
    have z1 : zn κ1 = zn κ + 1 := by rw [h2]; rfl
    exact ⟨v.1, v.2.1, rfl, by omega⟩
theorem raF_0 {t b a x : Nat} : ¬ raF t b a 0 x := fun z => by
  rcases z with ⟨_, z | z⟩ | ⟨_, z⟩ <;> exact absurd z (by decide)
/-- how many of the first k places are filled -/
def nk9 (κ : zS) (o k : Nat) : Nat := zSum (if k ≤ zN κ o then k else zN κ o) (fun j => if zQ κ o j = none then 0 else 1)
theorem nk_s9 {κ : zS} {o k : Nat} : nk9 κ o (k + 1) ≤ nk9 κ o k + 1 := by
  unfold nk9
  by_cases h : k + 1 ≤ zN κ o
  · rw [if_pos h, if_pos (by omega)]
    show zSum k _ + (if zQ κ o k = none then 0 else 1) ≤ _
    split <;> omega
  · by_cases g : k ≤ zN κ o
    · have e : zN κ o = k := by omega
      rw [if_neg h, if_pos g, e]
      omega
    · rw [if_neg h, if_neg g]
      omega
theorem nk_n9 {κ : zS} {o k : Nat} (h : zN κ o ≤ k ∨ zQ κ o k = none) : nk9 κ o (k + 1) ≤ nk9 κ o k := by
  unfold nk9
  rcases h with h | h
  · rw [if_neg (show ¬ k + 1 ≤ zN κ o by omega)]
    by_cases g : k ≤ zN κ o
    · have e : zN κ o = k := by omega
      rw [if_pos g, e]
      exact Nat.le_refl _
    · rw [if_neg g]
      exact Nat.le_refl _
  · by_cases g : k + 1 ≤ zN κ o
    · rw [if_pos g, if_pos (by omega)]
      show zSum k _ + (if zQ κ o k = none then 0 else 1) ≤ _
      rw [if_pos h]
      exact Nat.le_refl _
    · rw [if_neg g]
      by_cases g2 : k ≤ zN κ o
      · have e : zN κ o = k := by omega
        rw [if_pos g2, e]
        exact Nat.le_refl _
      · rw [if_neg g2]
        exact Nat.le_refl _
/-- as many fractions are made as places were empty -/
def frC9 (κ τ : zS) (o k k' : Nat) : Prop := (nT9 11 τ + nk9 κ o k ≤ nT9 11 κ + k ∧ nT9 8 τ + 2 * nk9 κ o k ≤ nT9 8 κ + 2 * k) ∧ ∀ j, k' ≤ j → zQ τ o j = zQ κ o j
theorem frC_09 {κ : zS} {o : Nat} : nk9 κ o 0 = 0 := by
  unfold nk9
  rw [if_pos (Nat.zero_le _)]
  rfl
theorem So_fresh_c {C : zC} {n0 : Nat} {a0 : Nat} {a1 : Int32} {κ : zS} {Q : Nat → zS → Prop} (W : zW C n0 κ) (Ta0 : zT κ a0 = 25) (ρ : Nat → Nat) (s9 b9 f9 : Nat) (hp : (nmI ρ κ ∧ soI ρ κ s9) ∧ zT κ s9 = 12 ∧ ((b9 = 100 ∨ b9 = 104) ∧ (f9 = soVisits ∨ f9 = soWorths) ∧ zO κ a0 = (f9, s9) ∧ (f9 = soWorths → b9 = 104)) ∧ (∀ j u, j < 1000 → zQ κ a0 j = some u → ρ u = b9 + 8 * j) ∧ zN κ a0 ≤ 1000 ∧ (0 ≤ a1.toInt ∧ a1.toInt ≤ 1000)) (h : ∀ (v : Nat) (κ' : zS), (frX9 ρ s9 b9 f9 κ κ' a0 v a1 a1.toNatClampNeg (fun _ => True) ∧ frC9 κ κ' a0 a1.toNatClampNeg a1.toNatClampNeg) → Q v κ') : zRun C 3 mSo_fresh [.ref a0, .int a1] κ (oR 25 Q noX) := by
  refine So_fresh_run W Ta0 ?_
  replace W := W.lo (Nat.le_trans W.1.2.1 W.1.2.2) (Nat.le_refl (zn κ))
  unfold w_So_fresh_0
  obtain ⟨⟨N0, S0⟩, hs, ⟨hb, hf, ho, hw0⟩, p4, p5, p6⟩ := hp
  have hw : id (f9 = soWorths → b9 = 104) := hw0
  clear hw0
  have ka1 := cnk p6.1
  have ls := (W.2.1 s9 (by rw [hs]; decide)).2
  have lo := (W.2.1 a0 (by rw [Ta0]; decide)).2
  have hh23 : ∀ (l0 : Nat) (l1 : Int32) (l2 : Nat) (l3 : Int32) (τ : zS), zW C (zn κ) τ → zT τ l0 = 25 → zT τ l2 = 25 → (a0 = l0 ∧ a1 = l1 ∧ frX9 ρ s9 b9 f9 κ τ a0 l2 a1 l3.toNatClampNeg (fun _ => True) ∧ 0 ≤ l3.toInt ∧ l3.toInt ≤ a1.toInt ∧ frC9 κ τ a0 l3.toNatClampNeg l3.toNatClampNeg) → w_So_fresh_23 C (zn κ) Q  l0 l1 l2 l3 τ := by
    intro z0 z1 z2 z3 τi Wi _ _ hinit
    unfold w_So_fresh_23
    refine ⟨fun n l0 l1 l2 l3 τ => n = (a1.toInt - l3.toInt).toNat ∧ (a0 = l0 ∧ a1 = l1 ∧ frX9 ρ s9 b9 f9 κ τ a0 l2 a1 l3.toNatClampNeg (fun _ => True) ∧ 0 ≤ l3.toInt ∧ l3.toInt ≤ a1.toInt ∧ frC9 κ τ a0 l3.toNatClampNeg l3.toNatClampNeg), ⟨_, rfl, hinit⟩, ?_⟩
    clear hinit
    rintro n23 _ _ x23_2 x23_3 κ23 W23 T23_0 T23_1 ⟨hn23, rfl, rfl, i23⟩
    obtain ⟨J1, l1, l2, C1⟩ := i23
    obtain ⟨κa, ρa, Ha, Ra, Na, Za, Oa, A1, A2, A3, _⟩ := id J1
    have La := fr_l9 W Ta0 p6 p5 Ha Za
    have kc := cnk l1
    have tN : ∀ x, zN κ23 x ≤ 1000 → (Int32.ofNat (zN κ23 x)).toInt = (zN κ23 x : Int) := fun x h => ofn_i (by omega)
    have hj63 : ∀ (l0 : Nat) (l1 : Int32) (l2 : Nat) (l3 : Int32) (s0 : Nat) (s1 : Int32) (s2 : Option Nat) (τ : zS), zW C (zn κ) τ → zT τ l0 = 25 → zT τ l2 = 25 → zT τ s0 = 25 → (∀ v, s2 = some v → zT τ v = 11) → (a0 = l0 ∧ a1 = l1 ∧ (∃ u, s2 = some u ∧ frX9 ρ s9 b9 f9 κ τ a0 l2 a1 l3.toNatClampNeg (fun ρ' => ρ' u = b9 + 8 * l3.toNatClampNeg)) ∧ (0 ≤ l3.toInt ∧ l3.toInt < a1.toInt ∧ x23_3 = l3) ∧ (l2 = s0 ∧ l3 = s1) ∧ frC9 κ τ a0 (l3.toNatClampNeg + 1) l3.toNatClampNeg) → w_So_fresh_63 C (zn κ) Q (fun (l0' : Nat) (l1' : Int32) (l2' : Nat) (l3' : Int32) (τ : zS) => ∃ k < n23, (fun (n : Nat) (l0 : Nat) (l1 : Int32) (l2 : Nat) (l3 : Int32) (τ : zS) => n = (a1.toInt - l3.toInt).toNat ∧ (a0 = l0 ∧ a1 = l1 ∧ frX9 ρ s9 b9 f9 κ τ a0 l2 a1 l3.toNatClampNeg (fun _ => True) ∧ 0 ≤ l3.toInt ∧ l3.toInt ≤ a1.toInt ∧ frC9 κ τ a0 l3.toNatClampNeg l3.toNatClampNeg)) k l0' l1' l2' l3' τ) l0 l1 l2 l3 s0 s1 s2 τ := by
      rintro _ _ y63_2 y63_3 y63_s0 y63_s1 y63_s2 τ63 W63 T63_0 T63_1 T63_2 T63_3 ⟨rfl, rfl, j63⟩
      unfold w_So_fresh_63
      obtain ⟨⟨u9, e2, J2⟩, ⟨l31, l32, l33⟩, ⟨e0, e1⟩, C3⟩ := j63
      subst l33
      subst e0
      subst e1
      obtain ⟨κb, ρb, Hb, Rb, ⟨Nb, Sb⟩, Zb, Ob, B1, B2, B3, Bu⟩ := J2
      have Lb := fr_l9 W Ta0 p6 p5 Hb Zb
      have kd := cnk l31
      have wo := fr_o9 W Ta0 hs ho Hb Ob.1
      refine ex_some ?_ (fun u1 hu1 => ?_)
      · exact ⟨u9, e2⟩  -- e1
      refine ⟨?_, ?_⟩
      · rw [inb_iff]; omega  -- b2
      intro κ_2 hκ_2
      intro W3
      have eu : u1 = u9 := Option.some.inj (hu1.symm.trans e2)
      subst eu
      have qn : zN κ_2 = zN τ63 := by rw [hκ_2]; rfl
      have qq : zQ κ_2 y63_2 = va_up (zQ τ63 y63_2) x23_3.toNatClampNeg (some u1) := by rw [hκ_2]; exact if_pos rfl
      refine ⟨?_, ?_⟩
      · rw [inb_iff, qn]; omega  -- b3
      refine ex_some ?_ (fun u4 hu4 => ?_)
      · exact ⟨u1, by rw [qq]; exact if_pos rfl⟩  -- e4
      intro T5
      have eu : u4 = u1 := by
        rw [qq] at hu4
        have q : va_up (zQ τ63 y63_2) x23_3.toNatClampNeg (some u1) x23_3.toNatClampNeg = some u1 := if_pos rfl
        exact Option.some.inj (hu4.symm.trans q)
      subst eu
      have N2 : nmI ρb κ_2 := by rw [hκ_2]; exact Nb
      have S2 : soI ρb κ_2 s9 := by rw [hκ_2]; exact Sb
      have g2 := ra_g9 N2 Bu (by omega) (by omega) (by omega)
      refine Ra_putZero_c W3 T5 20 ?_ (fun κ_6 q7 => ?_)
      · exact g2.2.2.1  -- p5
      intro W8
      intro M9
      intro x10 hx10
      obtain ⟨Zp, Jp, Vp⟩ := q7
      have ts63 : zT τ63 s9 = 12 := by
        rcases Hb with ⟨_, q, _⟩ | ⟨_, q, _⟩
        · rw [q] at Zb; exact Zb.t hs (by decide)
        · refine Zb.t ?_ (by decide)
          rw [q]
          exact (if_neg (Nat.ne_of_lt ls)).trans hs
      have ts2 : zT κ_2 s9 = 12 := by rw [hκ_2]; exact ts63
      have Rp := ra_w9 W3 ts2 N2 S2 Bu (by omega) (by omega) (by omega) Zp Jp
      have ix := cn1 (x := x23_3) (by omega) (by omega)
      have o2 : zO κ_2 = zO τ63 := by rw [hκ_2]; rfl
      have t2 : ∀ x, zT κ_2 x = zT τ63 x := fun x => by rw [hκ_2]; rfl
      have nf : ∀ x, zO τ63 x = (f9, s9) ∨ zO τ63 x = (0, 0) → ¬ raF (zR κ_2 raTop u4) (zR κ_2 raBottom u4) u4 (zO κ_2 x).1 (zO κ_2 x).2 := fun x hx => by
        rw [o2]
        rcases hx with hx | hx
        · rw [hx]
          show ¬ raF (zR κ_2 raTop u4) (zR κ_2 raBottom u4) u4 f9 s9
          rcases hf with q | q <;> rw [q] <;> exact raF_q (by decide) (by decide) (by decide)
        · rw [hx]; exact raF_0
      have qr6 := Zp.2.1 y63_2 (by rw [t2, T63_1]; decide) (nf _ (wo.elim (fun y => Or.inl y.1) (fun y => Or.inr y.1)))
      have qo6 := Zp.2.1 a0 (by rw [t2, T63_0]; decide) (nf _ (Or.inl (by rw [Ob.2.1]; exact ho)))
      have Zu : zF (frF9 ρ κ f9 s9) τ63 κ_2 := by
        rw [hκ_2]
        refine zF_uq ?_
        rcases wo with y | y
        · rw [y.1]; exact Or.inr (Or.inl ⟨rfl, rfl⟩)
        · rw [y.1]; exact Or.inr (Or.inr (Or.inl rfl))
      have Zf : zF (frF9 ρ κ f9 s9) κb κ_6 := (Zb.tr Zu).tr ((Rp.2 0).mono (fun f b z => by
        by_cases l : b < zn κ
        · left
          rcases z with ⟨z, y⟩ | z
          · left
            refine ⟨?_, y⟩
            rw [Rb b l] at z
            rcases z with z | z | z <;> (rw [z]; exact ⟨by omega, by omega, fun y => by have q : b9 = 104 := hw y; omega⟩)
          · exact Or.inr z
        · exact Or.inr (Or.inr (Or.inr (by omega)))))
      refine ⟨_, ?_, rfl, ?_⟩
      · rw [hn23, hx10, ix.2]; omega  -- d6
      · refine ⟨rfl, rfl, ⟨κb, ρb, Hb, Rb, Rp.1, Zf, ⟨?_, ?_, ?_⟩, fun j u hj hu => ?_, fun j u hj hu => ?_, fun j hj => ?_, trivial⟩, by rw [hx10, ix.2]; omega, by rw [hx10, ix.2]; omega, ⟨?_, ?_⟩, fun j hj => ?_⟩
        · rw [qr6.2.2.2, o2]; exact Ob.1
        · rw [qo6.2.2.2, o2]; exact Ob.2.1
        · rw [raF_r Zp (by rcases hf with q | q <;> rw [q] <;> decide) (by rcases hf with q | q <;> rw [q] <;> decide) (by rcases hf with q | q <;> rw [q] <;> decide), hκ_2]
          exact Ob.2.2
        · rw [qr6.2.2.1, qq] at hu
          unfold va_up at hu
          by_cases e : j = x23_3.toNatClampNeg
          · rw [if_pos e] at hu
            rw [← Option.some.inj hu, e]
            exact Bu
          · rw [if_neg e] at hu
            exact B1 j u hj hu
        · rw [qo6.2.2.1] at hu
          by_cases er : a0 = y63_2
          · rw [er, qq] at hu
            unfold va_up at hu
            by_cases e : j = x23_3.toNatClampNeg
            · rw [if_pos e] at hu
              rw [← Option.some.inj hu, e]
              exact Bu
            · rw [if_neg e] at hu
              exact B1 j u hj hu
          · have qa : zQ κ_2 a0 = zQ τ63 a0 := by rw [hκ_2]; exact if_neg er
            rw [qa] at hu
            exact B2 j u hj hu
        · rw [hx10, ix.1] at hj
          rw [qr6.2.2.1, qq]
          unfold va_up
          by_cases e : j = x23_3.toNatClampNeg
          · exact ⟨u4, if_pos e, Int32.toInt.inj Vp.1, Vp.2.1, Vp.2.2⟩
          · obtain ⟨u, hu, hz, ht, hb9⟩ := B3 j (by omega)
            refine ⟨u, by rw [if_neg e]; exact hu, ?_⟩
            have ru := B1 j u (by omega) hu
            have i6 := Zp.i (f := raSign) (a := u) (fun z => by
              rcases z with ⟨_, z | z⟩ | ⟨z, _⟩
              · exact absurd z (by decide)
              · exact absurd z (by decide)
              · rw [z, Bu] at ru
                omega)
            have gu := ra_g9 N2 ru (by omega) (by omega) (by omega)
            have f9' := ra_f9 W3 N2 (Rp.2 0) ru gu.1.2 ⟨by omega, by omega, by omega⟩
            rw [i6, f9'.2.1.1, f9'.2.1.2, f9'.2.2.1, f9'.2.2.2, hκ_2]
            exact ⟨hz, ht, hb9⟩
        · have q2 : nT9 11 κ_2 = nT9 11 τ63 := nT_09 (by rw [hκ_2]; rfl) (fun b _ => t2 b)
          have q6 := nT_z9 W3 Zp (fun b _ => raF_0) (t := 11) (by decide)
          have q3 := C3.1.1
          rw [hx10, ix.1]
          omega
        · have q2 : nT9 8 κ_2 = nT9 8 τ63 := nT_09 (by rw [hκ_2]; rfl) (fun b _ => t2 b)
          have q6 := nT_z9 W3 Zp (fun b _ => raF_0) (t := 8) (by decide)
          have q3 := C3.1.2
          rw [hx10, ix.1]
          omega
        · rw [hx10, ix.1] at hj
          rw [qo6.2.2.1, ← C3.2 j (by omega)]
          by_cases er : a0 = y63_2
          · rw [er, qq]
            exact if_neg (by omega)
          · rw [hκ_2]
            exact congrFun (if_neg er) j
    have hj54 : ∀ (l0 : Nat) (l1 : Int32) (l2 : Nat) (l3 : Int32) (s0 : Nat) (s1 : Int32) (τ : zS), zW C (zn κ) τ → zT τ l0 = 25 → zT τ l2 = 25 → zT τ s0 = 25 → (a0 = l0 ∧ a1 = l1 ∧ frX9 ρ s9 b9 f9 κ τ a0 l2 a1 l3.toNatClampNeg (fun _ => True) ∧ (0 ≤ l3.toInt ∧ l3.toInt < a1.toInt ∧ x23_3 = l3) ∧ (l2 = s0 ∧ l3 = s1) ∧ frC9 κ τ a0 l3.toNatClampNeg l3.toNatClampNeg ∧ (zN κ a0 ≤ l3.toNatClampNeg ∨ zQ κ a0 l3.toNatClampNeg = none)) → w_So_fresh_54 C (zn κ) Q (fun (l0' : Nat) (l1' : Int32) (l2' : Nat) (l3' : Int32) (τ : zS) => ∃ k < n23, (fun (n : Nat) (l0 : Nat) (l1 : Int32) (l2 : Nat) (l3 : Int32) (τ : zS) => n = (a1.toInt - l3.toInt).toNat ∧ (a0 = l0 ∧ a1 = l1 ∧ frX9 ρ s9 b9 f9 κ τ a0 l2 a1 l3.toNatClampNeg (fun _ => True) ∧ 0 ≤ l3.toInt ∧ l3.toInt ≤ a1.toInt ∧ frC9 κ τ a0 l3.toNatClampNeg l3.toNatClampNeg)) k l0' l1' l2' l3' τ) l0 l1 l2 l3 s0 s1 τ := by
      rintro _ _ y54_2 y54_3 y54_s0 y54_s1 τ54 W54 T54_0 T54_1 T54_2 ⟨rfl, rfl, j54⟩
      unfold w_So_fresh_54
      intro κ_11 hκ_11
      intro W12
      intro T13
      obtain ⟨J4, ⟨l31, l32, l33⟩, ⟨e0, e1⟩, C4, D4⟩ := j54
      subst l33
      subst e0
      subst e1
      obtain ⟨κb, ρb, Hb, Rb, ⟨Nb, Sb⟩, Zb, Ob, B1, B2, B3, _⟩ := J4
      have Lb := fr_l9 W Ta0 p6 p5 Hb Zb
      have kd := cnk l31
      have wo := fr_o9 W Ta0 hs ho Hb Ob.1
      have n11 : zn κ_11 = zn τ54 + 1 := by rw [hκ_11]; rfl
      have T54_51 : zT κ_11 (zn τ54) = 51 := by rw [hκ_11]; exact if_pos rfl
      refine Ra_init_c W12 T13  ?_ (fun κ_14 q15 => ?_)
      · exact ⟨by decide, by omega⟩  -- p8
      intro W16
      intro M17
      obtain ⟨Zi, ⟨rt, rb⟩, ⟨tt, tb, ta⟩, ⟨it, ib⟩, nt8, nt11⟩ := q15
      rw [n11] at rt rb tt tb it ib
      have n9 : (if (11 : Int32) < (2 : Int32) then (2 : Int32) else 11).toNatClampNeg = 11 := by decide
      rw [n9] at it ib
      refine ⟨?_, ?_⟩
      · refine zOk_11 ?_ ?_
        · rw [rt]; exact tt
        · rw [rb]; exact tb
      intro κ_18 hκ_18
      intro W19
      have A := mk_Ra9 W54 W12 W16 hκ_11 (Zi.mono (fun _ b z => by
        rcases z with z | z <;> omega)) ta hκ_18
      obtain ⟨A1', A2', A3'⟩ := A
      have x18 : κ_18.2 = κ_14.2 := by rw [hκ_18]; rfl
      have ts54 : zT τ54 s9 = 12 := by
        rcases Hb with ⟨_, q, _⟩ | ⟨_, q, _⟩
        · rw [q] at Zb; exact Zb.t hs (by decide)
        · refine Zb.t ?_ (by decide)
          rw [q]
          exact (if_neg (Nat.ne_of_lt ls)).trans hs
      have zp : 0 < zn τ54 := by omega
      have nf : ∀ x, zO τ54 x = (f9, s9) ∨ zO τ54 x = (0, 0) → ¬ zn τ54 ≤ (zO τ54 x).2 := fun x hx => by
        rcases hx with hx | hx
        · rw [hx]; show ¬ zn τ54 ≤ s9; omega
        · rw [hx]; show ¬ zn τ54 ≤ 0; omega
      have qr8 := A1'.2.1 y54_2 (by rw [T54_1]; decide) (nf _ (wo.elim (fun y => Or.inl y.1) (fun y => Or.inr y.1)))
      have qo8 := A1'.2.1 a0 (by rw [T54_0]; decide) (nf _ (Or.inl (by rw [Ob.2.1]; exact ho)))
      have t18 : zT κ_18 (zn τ54 + 1) = 8 := by rw [A3' _ (by omega)]; exact tt
      have b18 : zT κ_18 (zn τ54 + 1 + 2) = 8 := by rw [A3' _ (by omega)]; exact tb
      have i18 : nuI κ_18 (zn τ54 + 1) 20 := by
        have q := nuI_mono (show 11 ≤ 20 by decide) it
        rw [hκ_18]
        exact q
      have j18 : nuI κ_18 (zn τ54 + 1 + 2) 20 := by
        have q := nuI_mono (show 11 ≤ 20 by decide) ib
        rw [hκ_18]
        exact q
      have rt18 : zR κ_18 raTop (zn τ54) = zn τ54 + 1 := by rw [hκ_18]; exact rt
      have rb18 : zR κ_18 raBottom (zn τ54) = zn τ54 + 1 + 2 := by rw [hκ_18]; exact rb
      have cp := cap_v (r := b9 + 8 * x23_3.toNatClampNeg) (by omega) (by omega)
      have N18 : nmI (fun x => if x = zn τ54 then b9 + 8 * x23_3.toNatClampNeg else if x = zn τ54 + 1 then b9 + 8 * x23_3.toNatClampNeg + 1 else if x = zn τ54 + 1 + 2 then b9 + 8 * x23_3.toNatClampNeg + 2 else ρb x) κ_18 := by
        refine nm_x9 W54 Nb A1' (fun f b z => Or.inl z) (fun b hb9 => by rw [if_neg (by omega), if_neg (by omega), if_neg (by omega)]) (fun w hw hr => ?_) (fun v hv hr => ?_)
        · by_cases z1 : w = zn τ54
          · rw [if_pos z1] at hr
            exfalso
            rcases hr with q | q | q | q | q | q | q <;> omega
          · rw [if_neg z1] at hr ⊢
            by_cases z2 : w = zn τ54 + 1
            · rw [if_pos z2, cp.2.1, z2]
              exact ⟨t18, i18.1.2.1, fun _ => i18⟩
            · rw [if_neg z2] at hr ⊢
              by_cases z3 : w = zn τ54 + 1 + 2
              · rw [if_pos z3, cp.2.2, z3]
                exact ⟨b18, j18.1.2.1, fun _ => j18⟩
              · rw [if_neg z3] at hr
                exact absurd hr (nm_no9 W54 Nb hw).1
        · by_cases z1 : v = zn τ54
          · rw [z1, rt18, rb18, if_pos rfl, if_neg (by omega), if_pos rfl, if_neg (by omega), if_neg (by omega), if_pos rfl]
            exact ⟨A2', rfl, rfl⟩
          · rw [if_neg z1] at hr
            exfalso
            by_cases z2 : v = zn τ54 + 1
            · rw [if_pos z2] at hr
              rcases hr with q | q | q <;> omega
            · rw [if_neg z2] at hr
              by_cases z3 : v = zn τ54 + 1 + 2
              · rw [if_pos z3] at hr
                rcases hr with q | q | q <;> omega
              · rw [if_neg z3] at hr
                exact absurd hr (nm_no9 W54 Nb hv).2
      have S18 : soI (fun x => if x = zn τ54 then b9 + 8 * x23_3.toNatClampNeg else if x = zn τ54 + 1 then b9 + 8 * x23_3.toNatClampNeg + 1 else if x = zn τ54 + 1 + 2 then b9 + 8 * x23_3.toNatClampNeg + 2 else ρb x) κ_18 s9 := so_x9 W54 ts54 Sb A1' (fun f b z => Or.inl z) (fun b hb9 => by rw [if_neg (by omega), if_neg (by omega), if_neg (by omega)])
      have tq : ∀ (o : Nat) (j u : Nat), zT τ54 o = 25 → zQ τ54 o j = some u → u < zn τ54 ∧ u ≠ zn τ54 := fun o j u to hu => by
        have t := W54.2.2.2.2.1 _ _ _ to hu
        have l := (W54.2.1 u (by rw [t]; decide)).2
        exact ⟨l, Nat.ne_of_lt l⟩
      refine hj63 _ _ _ _ _ _ _ _ W19 ?_ ?_ ?_ ?_ ?_
      · exact A1'.t T54_0 (by decide)  -- t10
      · exact A1'.t T54_1 (by decide)  -- t11
      · exact A1'.t T54_2 (by decide)  -- t12
      · exact fun v hv => by
          rw [← Option.some.inj hv]
          exact A2'
      · refine ⟨rfl, rfl, ⟨zn τ54, rfl, κb, _, Hb, fun x hx => ?_, ⟨N18, S18⟩, Zb.tr (A1'.mono (fun f b z => Or.inr (Or.inr (Or.inr (by omega))))), ⟨by rw [qr8.2.2.2]; exact Ob.1, by rw [qo8.2.2.2]; exact Ob.2.1, by rw [A1'.r (show ¬ zn τ54 ≤ s9 by omega)]; exact Ob.2.2⟩, fun j u hj hu => ?_, fun j u hj hu => ?_, fun j hj => ?_, if_pos rfl⟩, ⟨l31, l32, rfl⟩, ⟨rfl, rfl⟩, ⟨?_, ?_⟩, fun j hj => ?_⟩
        · rw [if_neg (by omega), if_neg (by omega), if_neg (by omega)]
          exact Rb x hx
        · rw [qr8.2.2.1] at hu
          have l := tq _ _ _ T54_1 hu
          rw [if_neg (by omega), if_neg (by omega), if_neg (by omega)]
          exact B1 j u hj hu
        · rw [qo8.2.2.1] at hu
          have l := tq _ _ _ T54_0 hu
          rw [if_neg (by omega), if_neg (by omega), if_neg (by omega)]
          exact B2 j u hj hu
        · obtain ⟨u, hu, hz, ht, hb9⟩ := B3 j hj
          have l := tq _ _ _ T54_1 hu
          refine ⟨u, by rw [qr8.2.2.1]; exact hu, ?_⟩
          have tu := W54.2.2.2.2.1 _ _ _ T54_1 hu
          have tt1 := ty_raTop W54 tu
          have tb1 := ty_raBottom W54 tu
          have lt1 := (W54.2.1 _ (show zT τ54 (zR τ54 raTop u) ≠ 0 by rw [tt1]; decide)).2
          have lb1 := (W54.2.1 _ (show zT τ54 (zR τ54 raBottom u) ≠ 0 by rw [tb1]; decide)).2
          rw [A1'.i (show ¬ zn τ54 ≤ u by omega), A1'.r (show ¬ zn τ54 ≤ u by omega), A1'.r (show ¬ zn τ54 ≤ u by omega), (nuB_z (c := 0) W54 tt1 A1' (show ¬ zn τ54 ≤ _ by omega) (show ¬ zn τ54 ≤ _ by omega)).2.2.1, (nuB_z (c := 0) W54 tb1 A1' (show ¬ zn τ54 ≤ _ by omega) (show ¬ zn τ54 ≤ _ by omega)).2.2.1]
          exact ⟨hz, ht, hb9⟩
        · have q0 := nk_n9 D4
          have q1 := nT_19 (t := 11) n11 (fun b hb => by rw [hκ_11]; exact if_neg (Nat.ne_of_lt hb))
          have q2 := nT_d9 (t := 11) (κ := κ_14) (τ := κ_18) (a := zn τ54) (by rw [hκ_18]; rfl) (W16.2.1 _ (by rw [ta]; decide)).2 A3'
          rw [T54_51] at q1
          rw [ta, A2'] at q2
          simp at q1 q2
          have q3 := C4.1.1
          omega
        · have q0 := nk_n9 D4
          have q1 := nT_19 (t := 8) n11 (fun b hb => by rw [hκ_11]; exact if_neg (Nat.ne_of_lt hb))
          have q2 := nT_d9 (t := 8) (κ := κ_14) (τ := κ_18) (a := zn τ54) (by rw [hκ_18]; rfl) (W16.2.1 _ (by rw [ta]; decide)).2 A3'
          rw [T54_51] at q1
          rw [ta, A2'] at q2
          simp at q1 q2
          have q3 := C4.1.2
          omega
        · rw [qo8.2.2.1]
          exact C4.2 j hj
    refine ⟨fun c20 => ?_, fun c20 => ?_⟩
    · skip
      refine h _ _ ?_
      · rw [lei] at c20
        have e : x23_3.toNatClampNeg = a1.toNatClampNeg := by omega
        rw [e] at J1 C1
        exact ⟨J1, C1⟩
    · skip
      refine ⟨fun c21 => ?_, fun c21 => ?_⟩
      · skip
        refine h _ _ ?_
        · rw [lei] at c20
          rw [lei, tN _ La.2.1] at c21
          omega
      · skip
        refine ⟨fun c22 => ?_, fun c22 => ?_⟩
        · skip
          refine hj54 _ _ _ _ _ _ _ W23 ?_ ?_ ?_ ?_
          · assumption  -- t17
          · assumption  -- t18
          · assumption  -- t19
          · rw [lei] at c20
            rw [lei, tN _ (by omega)] at c22
            exact ⟨rfl, rfl, J1, ⟨l1, by omega, rfl⟩, ⟨rfl, rfl⟩, C1, Or.inl (by omega)⟩
        · skip
          refine ⟨?_, ?_⟩
          · rw [lei] at c20
            rw [lei, tN _ (by omega)] at c22
            rw [inb_iff]; omega
          refine ⟨fun c23 => ?_, fun uc23 c23 => ?_⟩
          · skip
            refine hj54 _ _ _ _ _ _ _ W23 ?_ ?_ ?_ ?_
            · assumption  -- t22
            · assumption  -- t23
            · assumption  -- t24
            · rw [lei] at c20
              exact ⟨rfl, rfl, J1, ⟨l1, by omega, rfl⟩, ⟨rfl, rfl⟩, C1, Or.inr (by rw [← C1.2 _ (Nat.le_refl _)]; exact c23)⟩
          · skip
            refine ⟨?_, ?_⟩
            · rw [lei, tN _ (by omega)] at c22
              rw [inb_iff]; omega
            refine hj63 _ _ _ _ _ _ _ _ W23 ?_ ?_ ?_ ?_ ?_
            · assumption  -- t27
            · assumption  -- t28
            · assumption  -- t29
            · exact fun v hv => W23.2.2.2.2.1 _ _ _ T23_0 hv  -- t30
            · rw [lei] at c20
              exact ⟨rfl, rfl, ⟨uc23, c23, κa, ρa, Ha, Ra, Na, Za, Oa, A1, A2, A3, A2 _ _ (by omega) c23⟩, ⟨l1, by omega, rfl⟩, ⟨rfl, rfl⟩, ⟨by have q := C1.1.1; have q2 := nk_s9 (κ := κ) (o := a0) (k := x23_3.toNatClampNeg); omega, by have q := C1.1.2; have q2 := nk_s9 (κ := κ) (o := a0) (k := x23_3.toNatClampNeg); omega⟩, C1.2⟩
  refine ⟨fun c24 => ?_, fun c24 => ?_⟩
  · skip
    refine hh23 _ _ _ _ _ W (by assumption) (by assumption) ?_
    · rw [lei, ofn_i (by omega)] at c24
      exact ⟨rfl, rfl, ⟨κ, ρ, Or.inl ⟨rfl, rfl, c24⟩, fun _ _ => rfl, ⟨N0, S0⟩, zF.rf, ⟨rfl, rfl, rfl⟩, p4, p4, fun j hj => absurd hj (Nat.not_lt_zero j), trivial⟩, by decide, by rw [t0i]; exact p6.1, ⟨Nat.le_of_eq (congrArg (nT9 11 κ + ·) frC_09), Nat.le_of_eq (congrArg (nT9 8 κ + 2 * ·) frC_09)⟩, fun _ _ => rfl⟩
  · skip
    refine ⟨?_, ?_⟩
    · have v := frN9_v p6
      unfold frN9 at v
      have t2 : (2 : Int32).toInt = 2 := rfl
      have t1 : (1000 : Int32).toInt = 1000 := rfl
      have m : ((2 : Int32) * a1).toInt = 2 * a1.toInt := by
        have q := mul_i (x := 2) (y := a1) (by rw [t2]; omega) (by rw [t2]; omega)
        rw [t2] at q
        exact q
      refine ⟨?_, by omega⟩
      split
      · decide
      · rw [lei, t0i, m]; omega
    intro κ_25 hκ_25
    intro W26
    intro x27 hx27
    rw [lei, ofn_i (by omega)] at c24
    have Ta25 : zT κ_25 a0 = 25 := by rw [hκ_25]; exact (if_neg (Nat.ne_of_lt lo)).trans Ta0
    have Tn25 : zT κ_25 x27 = 25 := by rw [hκ_25, hx27]; exact if_pos rfl
    refine hh23 _ _ _ _ _ W26 (by assumption) (by assumption) ?_
    · refine ⟨rfl, rfl, ⟨κ_25, ρ, Or.inr ⟨hx27, hκ_25, by omega⟩, fun _ _ => rfl, ⟨nm_na9 W N0 hκ_25, so_na9 W hs S0 hκ_25⟩, zF.rf, ⟨rfl, ?_, by rw [hκ_25]; rfl⟩, fun j u _ hu => ?_, fun j u hj hu => ?_, fun j hj => absurd hj (Nat.not_lt_zero j), trivial⟩, by decide, by rw [t0i]; exact p6.1, ⟨?_, ?_⟩, fun j hj => ?_⟩
      · rw [hκ_25]; exact if_neg (Nat.ne_of_lt lo)
      · exfalso
        rw [hκ_25, hx27] at hu
        have e : zQ (na κ 25 (if (1000 : Int32) < (2 : Int32) * a1 then (1000 : Int32) else (2 : Int32) * a1).toNatClampNeg) (zn κ) j = none := by
          show (if zn κ = zn κ then fun _ => none else _) j = none
          rw [if_pos rfl]
        rw [e] at hu
        cases hu
      · have e : zQ κ_25 a0 = zQ κ a0 := by rw [hκ_25]; exact if_neg (Nat.ne_of_lt lo)
        rw [e] at hu
        exact p4 j u hj hu
      · have q1 := nT_19 (t := 11) (κ := κ) (τ := κ_25) (by rw [hκ_25]; rfl) (fun b hb => by rw [hκ_25]; exact if_neg (Nat.ne_of_lt hb))
        have q2 : zT κ_25 (zn κ) = 25 := by rw [hκ_25]; exact if_pos rfl
        rw [q2] at q1
        simp at q1
        show nT9 11 κ_25 + nk9 κ a0 0 ≤ nT9 11 κ + 0
        rw [frC_09, q1]
        exact Nat.le_refl _
      · have q1 := nT_19 (t := 8) (κ := κ) (τ := κ_25) (by rw [hκ_25]; rfl) (fun b hb => by rw [hκ_25]; exact if_neg (Nat.ne_of_lt hb))
        have q2 : zT κ_25 (zn κ) = 25 := by rw [hκ_25]; exact if_pos rfl
        rw [q2] at q1
        simp at q1
        show nT9 8 κ_25 + 2 * nk9 κ a0 0 ≤ nT9 8 κ + 2 * 0
        rw [frC_09, q1]
        exact Nat.le_refl _
      · rw [hκ_25]
        exact congrFun (if_neg (Nat.ne_of_lt lo)) j

end
section
set_option maxHeartbeats 1600000
/-! the class: findVisits and makePlan once more: a row that is stored may be the field's own -/
abbrev zOo9 (κ : zS) (v f a : Nat) : Prop := zO κ v = (0, 0) ∨ zO κ v = (f, a)
theorem zW_uo9 {C : zC} {n0 f a v : Nat} {κ κ1 : zS} (W : zW C n0 κ) (e : κ1 = uo κ f a v) (hv : ∀ t, zr f = some t → zT κ v = t) (ho : zOo9 κ v f a) : zW C n0 κ1 := by
  rcases ho with ho | ho
  · exact zW_uo W e hv ho
  subst e
  obtain ⟨w1, w2, w3, w4, w5, w6, w7, w8, w9⟩ := W
  refine ⟨w1, w2, fun g t b hg hb => ?_, w4, w5, w6, w7, w8, fun g t b hg ht hb => ?_⟩
  · show zT κ (if g = f ∧ b = a then v else zR κ g b) = t
    by_cases e : g = f ∧ b = a
    · rw [if_pos e]; rw [e.1] at hg; exact hv t hg
    · rw [if_neg e]; exact w3 g t b hg hb
  · show (if (if g = f ∧ b = a then v else zR κ g b) = v then (f, a) else zO κ (if g = f ∧ b = a then v else zR κ g b)) = (g, b)
    by_cases e : g = f ∧ b = a
    · rw [if_pos e, if_pos rfl, e.1, e.2]
    · rw [if_neg e]
      have h9 := w9 g t b hg ht hb
      by_cases e2 : zR κ g b = v
      · rw [e2, ho] at h9
        exact absurd ⟨(congrArg Prod.fst h9).symm, (congrArg Prod.snd h9).symm⟩ e
      · rw [if_neg e2]; exact h9

def w_So_findVisitz_214 (C : zC) (n0 : Nat) (Q : Int32 → zS → Prop) (B139 : Nat → Int32 → zS → Prop) (a0 : Nat) (a1 : Int32) (a2 : Int32) (κ : zS) : Prop :=
  (¬ a2 = (0 : Int32) →
    ∀ v1_1 : Int32, v1_1 = a1 + (-1 : Int32) →
    B139 a0 v1_1 κ) ∧
  (a2 = (0 : Int32) →
    Q (-3 : Int32) κ)
theorem t_So_findVisitz_214 {C : zC} {n0 : Nat} {Q : Int32 → zS → Prop} {B139 : Nat → Int32 → zS → Prop} (hB139 : ∀ a0' a1' τ, zW C n0 τ → zT τ a0' = 12 → B139 a0' a1' τ → zG C n0 8 mSo_findVisits 139 [some (.ref a0'), some (.int a1'), none] [] τ (oI Q noX)) {a0 : Nat} {a1 : Int32} {a2 : Int32} {κ : zS} (W : zW C n0 κ) (Ta0 : zT κ a0 = 12) (F : w_So_findVisitz_214 C n0 Q B139 a0 a1 a2 κ) : zG C n0 8 mSo_findVisits 214 [some (.ref a0), some (.int a1), some (.int a2)] [] κ (oI Q noX) := by
  unfold w_So_findVisitz_214 at F
  refine y_iln dX9_findVisits_214 rfl ?_
  refine y_in (a2 = (0 : Int32)) dX9_findVisits_215 (t := 221) rfl rfl (fun c9 => ?_) (fun c9 => ?_)
  · replace F := F.1 c9
    refine y_incb dX9_findVisits_221 zi_m1 rfl (Nat.le_of_ble_eq_true rfl) (fun v1_1 ev1_1 => ?_)
    replace F := F v1_1 ev1_1
    show zG _ _ _ _ _ [some (.ref a0), some (.int v1_1), some (.int a2)] _ _ _
    refine y_goto dX9_findVisits_224 (t := 139) rfl ?_
    exact y_k (hB139 _ _ _ W Ta0 F) ⟨rfl, rfl, trivial⟩
  · replace F := F.2 c9
    refine y_bi1 dX9_findVisits_218 zb_m3 ?_
    exact y_ri W dX9_findVisits_220 rfl in_nar F

def w_So_findVisitz_139 (C : zC) (n0 : Nat) (Q : Int32 → zS → Prop)  (a0 : Nat) (a1 : Int32) (κ : zS) : Prop :=
  ∃ I : Nat → Nat → Int32 → zS → Prop, (∃ n, I n a0 a1 κ) ∧ ∀ n a0 a1 κ, zW C n0 κ → zT κ a0 = 12 → I n a0 a1 κ →
    (a1 < (0 : Int32) →
      ∀ κ1, κ1 = ui κ soSolved a0 (1 : Int32) →
      ∀ _ : zW C n0 κ1,
      Q (0 : Int32) κ1) ∧
    (¬ a1 < (0 : Int32) →
      inb a1 (zN κ (zR κ weKnotFirsts (zR κ soWeb a0))) ∧
      inb (zA κ (zR κ weKnotFirsts (zR κ soWeb a0)) (a1).toNatClampNeg) (zN κ (zR κ weOrder (zR κ soWeb a0))) ∧
      inb (zA κ (zR κ weOrder (zR κ soWeb a0)) ((zA κ (zR κ weKnotFirsts (zR κ soWeb a0)) (a1).toNatClampNeg)).toNatClampNeg) (zN κ (zR κ weOpen (zR κ soWeb a0))) ∧
      ((zA κ (zR κ weOpen (zR κ soWeb a0)) ((zA κ (zR κ weOrder (zR κ soWeb a0)) ((zA κ (zR κ weKnotFirsts (zR κ soWeb a0)) (a1).toNatClampNeg)).toNatClampNeg)).toNatClampNeg) = (0 : Int32) →
        w_So_findVisitz_214 C n0 Q (fun a0' a1' τ => ∃ k < n, I k a0' a1' τ) a0 a1 (1 : Int32) κ) ∧
      (¬ (zA κ (zR κ weOpen (zR κ soWeb a0)) ((zA κ (zR κ weOrder (zR κ soWeb a0)) ((zA κ (zR κ weKnotFirsts (zR κ soWeb a0)) (a1).toNatClampNeg)).toNatClampNeg)).toNatClampNeg) = (0 : Int32) →
        ∀ _ : zT κ (zR κ soWeb a0) = 14,
        zRun C 1 mWe_isRing [.ref (zR κ soWeb a0), .int a1] κ (oI (fun r3 κ2 =>
          ∀ _ : zW C n0 κ2,
          ∀ _ : zM (zn κ) κ κ2,
          (r3 = (0 : Int32) →
            inb a1 (zN κ2 (zR κ2 weKnotFirsts (zR κ2 soWeb a0))) ∧
            inb (zA κ2 (zR κ2 weKnotFirsts (zR κ2 soWeb a0)) (a1).toNatClampNeg) (zN κ2 (zR κ2 weOrder (zR κ2 soWeb a0))) ∧
            ∀ _ : zT κ2 a0 = 12,
            zRun C 7 mSo_visitOne [.ref a0, .int (zA κ2 (zR κ2 weOrder (zR κ2 soWeb a0)) ((zA κ2 (zR κ2 weKnotFirsts (zR κ2 soWeb a0)) (a1).toNatClampNeg)).toNatClampNeg)] κ2 (oI (fun r7 κ6 =>
              ∀ _ : zW C n0 κ6,
              ∀ _ : zM (zn κ2) κ2 κ6,
              w_So_findVisitz_214 C n0 Q (fun a0' a1' τ => ∃ k < n, I k a0' a1' τ) a0 a1 r7 κ6) noX)) ∧
          (¬ r3 = (0 : Int32) →
            ∀ _ : zT κ2 a0 = 12,
            zRun C 7 mSo_visitRing [.ref a0, .int a1] κ2 (oI (fun r11 κ10 =>
              ∀ _ : zW C n0 κ10,
              ∀ _ : zM (zn κ2) κ2 κ10,
              w_So_findVisitz_214 C n0 Q (fun a0' a1' τ => ∃ k < n, I k a0' a1' τ) a0 a1 r11 κ10) noX))) noX)))
theorem t_So_findVisitz_139 {C : zC} {n0 : Nat} {Q : Int32 → zS → Prop}   {a0 : Nat} {a1 : Int32} {κ : zS} (W : zW C n0 κ) (Ta0 : zT κ a0 = 12) (F : w_So_findVisitz_139 C n0 Q  a0 a1 κ) : zG C n0 8 mSo_findVisits 139 [some (.ref a0), some (.int a1), none] [] κ (oI Q noX) := by
  obtain ⟨I, ⟨m0, hI0⟩, F0⟩ := F
  have key : ∀ n a0 a1 κ, zW C n0 κ → zT κ a0 = 12 → I n a0 a1 κ → zG C n0 8 mSo_findVisits 139 [some (.ref a0), some (.int a1), none] [] κ (oI Q noX) := by
    intro n
    induction n using Nat.strongRecOn with
    | _ n ih =>
      intro a0 a1 κ W Ta0 hI
      have F := F0 n a0 a1 κ W Ta0 hI
      clear hI hI0
      refine y_iln dX9_findVisits_139 rfl ?_
      refine y_i (a1 < (0 : Int32)) dX9_findVisits_140 (t := 227) rfl rfl (fun c9 => ?_) (fun c9 => ?_)
      · replace F := F.1 c9
        refine y_aln dX9_findVisits_227 rfl ?_
        refine y_ic dX9_findVisits_228 zi_1 ?_
        refine pf_X9_84 W dX9_findVisits_229 rfl (nb_nar nb_1) (Or.inl Ta0) (fun κ1 eκ1 => ?_)
        replace F := F κ1 eκ1
        have Wκ1 : zW C n0 κ1 := zW_ui W eκ1 (fun _ => nb_1)
        have Mκ1 : zM (zn κ) κ κ1 := by rw [eκ1]; exact zM.of rfl rfl rfl
        replace F := F Wκ1
        refine y_ic dX9_findVisits_232 zi_0 ?_
        exact y_ri Wκ1 dX9_findVisits_233 rfl in_nar F
      · replace F := F.2 c9
        refine y_ic dX9_findVisits_143 zi_1 ?_
        refine y_isn dX9_findVisits_144 (Nat.le_of_ble_eq_true rfl) rfl ?_
        show zG _ _ _ _ _ [some (.ref a0), some (.int a1), some (.int (1 : Int32))] _ _ _
        refine y_aln dX9_findVisits_145 rfl ?_
        refine gf_X9_25 W dX9_findVisits_146 rfl Ta0 ?_
        refine gf_X9_101 W dX9_findVisits_149 rfl (ty_soWeb W Ta0) ?_
        refine y_aln dX9_findVisits_152 rfl ?_
        refine gf_X9_25 W dX9_findVisits_153 rfl Ta0 ?_
        refine gf_X9_105 W dX9_findVisits_156 rfl (ty_soWeb W Ta0) ?_
        refine y_aln dX9_findVisits_159 rfl ?_
        refine gf_X9_25 W dX9_findVisits_160 rfl Ta0 ?_
        refine gf_X9_108 W dX9_findVisits_163 rfl (ty_soWeb W Ta0) ?_
        refine y_iln dX9_findVisits_166 rfl ?_
        refine y_ald dX9_findVisits_167 (ty_weKnotFirsts W (ty_soWeb W Ta0)) F.1 ?_
        replace F := F.2
        refine y_ald dX9_findVisits_168 (ty_weOrder W (ty_soWeb W Ta0)) F.1 ?_
        replace F := F.2
        refine y_zld dX9_findVisits_169 (ty_weOpen W (ty_soWeb W Ta0)) F.1 ?_
        replace F := F.2
        refine y_i ((zA κ (zR κ weOpen (zR κ soWeb a0)) ((zA κ (zR κ weOrder (zR κ soWeb a0)) ((zA κ (zR κ weKnotFirsts (zR κ soWeb a0)) (a1).toNatClampNeg)).toNatClampNeg)).toNatClampNeg) = (0 : Int32)) dX9_findVisits_170 (t := 214) rfl rfl (fun c9 => ?_) (fun c9 => ?_)
        · replace F := F.1 c9
          exact y_k (t_So_findVisitz_214 (fun a0' a1' τ w9 f09 hb => by obtain ⟨k, hk, hI⟩ := hb; exact ih k hk a0' a1' τ w9 f09 hI) W Ta0 F) ⟨rfl, rfl, rfl, trivial⟩
        · replace F := F.2 c9
          refine y_aln dX9_findVisits_173 rfl ?_
          refine gf_X9_25 W dX9_findVisits_174 rfl Ta0 ?_
          refine y_iln dX9_findVisits_177 rfl ?_
          replace F := F (ty_soWeb W Ta0)
          refine k_X9_122 W dX9_findVisits_178 rfl (Nat.le_of_ble_eq_true rfl) (Nat.le_of_ble_eq_true rfl) (Or.inl (ty_soWeb W Ta0)) F (fun r3 κ2 Wκ2 Mκ2 F => ?_) (fun _ _ h9 => False.elim h9)
          replace F := F Wκ2 Mκ2
          refine y_i (r3 = (0 : Int32)) dX9_findVisits_181 (t := 192) rfl rfl (fun c9 => ?_) (fun c9 => ?_)
          · replace F := F.1 c9
            refine y_aln dX9_findVisits_192 rfl ?_
            refine y_aln dX9_findVisits_193 rfl ?_
            have h5 := (ztm W Mκ2 Ta0)
            refine gf_X9_25 Wκ2 dX9_findVisits_194 rfl h5 ?_
            refine gf_X9_105 Wκ2 dX9_findVisits_197 rfl (ty_soWeb Wκ2 h5) ?_
            refine y_aln dX9_findVisits_200 rfl ?_
            refine gf_X9_25 Wκ2 dX9_findVisits_201 rfl h5 ?_
            refine gf_X9_108 Wκ2 dX9_findVisits_204 rfl (ty_soWeb Wκ2 h5) ?_
            refine y_iln dX9_findVisits_207 rfl ?_
            refine y_ald dX9_findVisits_208 (ty_weKnotFirsts Wκ2 (ty_soWeb Wκ2 h5)) F.1 ?_
            replace F := F.2
            refine y_ald dX9_findVisits_209 (ty_weOrder Wκ2 (ty_soWeb Wκ2 h5)) F.1 ?_
            replace F := F.2
            replace F := F h5
            refine k_X9_129 Wκ2 dX9_findVisits_210 rfl (Nat.le_of_ble_eq_true rfl) (Nat.le_of_ble_eq_true rfl) (Or.inl h5) F (fun r7 κ6 Wκ6 Mκ6 F => ?_) (fun _ _ h9 => False.elim h9)
            replace F := F Wκ6 Mκ6
            refine y_isn dX9_findVisits_213 (Nat.le_of_ble_eq_true rfl) rfl ?_
            show zG _ _ _ _ _ [some (.ref a0), some (.int a1), some (.int r7)] _ _ _
            have h9 := (ztm Wκ2 Mκ6 h5)
            exact y_k (t_So_findVisitz_214 (fun a0' a1' τ w9 f09 hb => by obtain ⟨k, hk, hI⟩ := hb; exact ih k hk a0' a1' τ w9 f09 hI) Wκ6 h9 F) ⟨rfl, rfl, rfl, trivial⟩
          · replace F := F.2 c9
            refine y_aln dX9_findVisits_184 rfl ?_
            refine y_iln dX9_findVisits_185 rfl ?_
            have h12 := (ztm W Mκ2 Ta0)
            replace F := F h12
            refine k_X9_126 Wκ2 dX9_findVisits_186 rfl (Nat.le_of_ble_eq_true rfl) (Nat.le_of_ble_eq_true rfl) (Or.inl h12) F (fun r11 κ10 Wκ10 Mκ10 F => ?_) (fun _ _ h9 => False.elim h9)
            replace F := F Wκ10 Mκ10
            refine y_goto dX9_findVisits_189 (t := 213) rfl ?_
            refine y_isn dX9_findVisits_213 (Nat.le_of_ble_eq_true rfl) rfl ?_
            show zG _ _ _ _ _ [some (.ref a0), some (.int a1), some (.int r11)] _ _ _
            have h14 := (ztm Wκ2 Mκ10 h12)
            exact y_k (t_So_findVisitz_214 (fun a0' a1' τ w9 f09 hb => by obtain ⟨k, hk, hI⟩ := hb; exact ih k hk a0' a1' τ w9 f09 hI) Wκ10 h14 F) ⟨rfl, rfl, rfl, trivial⟩
  exact key m0 a0 a1 κ W Ta0 hI0

def w_So_findVisitz_129 (C : zC) (n0 : Nat) (Q : Int32 → zS → Prop)  (a0 : Nat) (κ : zS) : Prop :=
  ∀ v1_1 : Int32, v1_1 = ((zI κ weKnots (zR κ soWeb a0)) - (1 : Int32)) →
  w_So_findVisitz_139 C n0 Q  a0 v1_1 κ
theorem t_So_findVisitz_129 {C : zC} {n0 : Nat} {Q : Int32 → zS → Prop}   {a0 : Nat} {κ : zS} (W : zW C n0 κ) (Ta0 : zT κ a0 = 12) (F : w_So_findVisitz_129 C n0 Q  a0 κ) : zG C n0 8 mSo_findVisits 129 [some (.ref a0), none, none] [] κ (oI Q noX) := by
  unfold w_So_findVisitz_129 at F
  refine y_aln dX9_findVisits_129 rfl ?_
  refine gf_X9_25 W dX9_findVisits_130 rfl Ta0 ?_
  refine gf_X9_97 dX9_findVisits_133 rfl (Or.inl (ty_soWeb W Ta0)) ?_
  refine y_ic dX9_findVisits_136 zi_1 ?_
  refine y_isub dX9_findVisits_137 ?_
  refine y_isnb dX9_findVisits_138 (Nat.le_of_ble_eq_true rfl) (fun v1_1 ev1_1 => ?_)
  replace F := F v1_1 ev1_1
  show zG _ _ _ _ _ [some (.ref a0), some (.int v1_1), none] _ _ _
  exact y_k (t_So_findVisitz_139  W Ta0 F) ⟨rfl, rfl, trivial⟩

def w_So_findVisitz_26 (C : zC) (n0 : Nat) (Q : Int32 → zS → Prop)  (a0 : Nat) (a1 : Int32) (κ : zS) : Prop :=
  ∃ I : Nat → Nat → Int32 → zS → Prop, (∃ n, I n a0 a1 κ) ∧ ∀ n a0 a1 κ, zW C n0 κ → zT κ a0 = 12 → I n a0 a1 κ →
    ((zI κ weKnots (zR κ soWeb a0)) ≤ a1 →
      ∀ _ : zT κ (zR κ soVisits a0) = 25,
      zRun C 3 mSo_fresh [.ref (zR κ soVisits a0), .int (zI κ weTotal (zR κ soWeb a0))] κ (oR 25 (fun r2 κ1 =>
        ∀ _ : zW C n0 κ1,
        ∀ _ : zM (zn κ) κ κ1,
        ∀ _ : zT κ1 r2 = 25,
        zOo9 κ1 r2 soVisits a0 ∧
        ∀ κ4, κ4 = uo κ1 soVisits a0 r2 →
        ∀ _ : zW C n0 κ4,
        ((zI κ4 weTotal (zR κ4 soWeb a0)) ≤ (Int32.ofNat (zN κ4 (zR κ4 soRows a0))) →
          w_So_findVisitz_129 C n0 Q  a0 κ4) ∧
        (¬ (zI κ4 weTotal (zR κ4 soWeb a0)) ≤ (Int32.ofNat (zN κ4 (zR κ4 soRows a0))) →
          nsz (1000 : Int32) ∧
          ∀ κ8, κ8 = na κ4 20 ((1000 : Int32)).toNatClampNeg →
          ∀ _ : zW C n0 κ8,
          zO κ8 (zn κ4) = (0, 0) ∧
          ∀ κ11, κ11 = uo κ8 soRows a0 (zn κ4) →
          ∀ _ : zW C n0 κ11,
          w_So_findVisitz_129 C n0 Q  a0 κ11)) noX)) ∧
    (¬ (zI κ weKnots (zR κ soWeb a0)) ≤ a1 →
      inb a1 (zN κ (zR κ weKnotFirsts (zR κ soWeb a0))) ∧
      inb (zA κ (zR κ weKnotFirsts (zR κ soWeb a0)) (a1).toNatClampNeg) (zN κ (zR κ weOrder (zR κ soWeb a0))) ∧
      inb (zA κ (zR κ weOrder (zR κ soWeb a0)) ((zA κ (zR κ weKnotFirsts (zR κ soWeb a0)) (a1).toNatClampNeg)).toNatClampNeg) (zN κ (zR κ weOpen (zR κ soWeb a0))) ∧
      ((zA κ (zR κ weOpen (zR κ soWeb a0)) ((zA κ (zR κ weOrder (zR κ soWeb a0)) ((zA κ (zR κ weKnotFirsts (zR κ soWeb a0)) (a1).toNatClampNeg)).toNatClampNeg)).toNatClampNeg) = (0 : Int32) →
        ∀ v1_15 : Int32, v1_15 = a1 + (1 : Int32) →
        ∃ k < n, I k a0 v1_15 κ) ∧
      (¬ (zA κ (zR κ weOpen (zR κ soWeb a0)) ((zA κ (zR κ weOrder (zR κ soWeb a0)) ((zA κ (zR κ weKnotFirsts (zR κ soWeb a0)) (a1).toNatClampNeg)).toNatClampNeg)).toNatClampNeg) = (0 : Int32) →
        ∀ _ : zT κ (zR κ soWeb a0) = 14,
        zRun C 0 mWe_sizeOf [.ref (zR κ soWeb a0), .int a1] κ (oI (fun r17 κ16 =>
          ∀ _ : zW C n0 κ16,
          ∀ _ : zM (zn κ) κ κ16,
          (r17 ≤ (32 : Int32) →
            ∀ v1_19 : Int32, v1_19 = a1 + (1 : Int32) →
            ∃ k < n, I k a0 v1_19 κ16) ∧
          (¬ r17 ≤ (32 : Int32) →
            Q (-2 : Int32) κ16)) noX)))
theorem t_So_findVisitz_26 {C : zC} {n0 : Nat} {Q : Int32 → zS → Prop}   {a0 : Nat} {a1 : Int32} {κ : zS} (W : zW C n0 κ) (Ta0 : zT κ a0 = 12) (F : w_So_findVisitz_26 C n0 Q  a0 a1 κ) : zG C n0 8 mSo_findVisits 26 [some (.ref a0), some (.int a1), none] [] κ (oI Q noX) := by
  obtain ⟨I, ⟨m0, hI0⟩, F0⟩ := F
  have key : ∀ n a0 a1 κ, zW C n0 κ → zT κ a0 = 12 → I n a0 a1 κ → zG C n0 8 mSo_findVisits 26 [some (.ref a0), some (.int a1), none] [] κ (oI Q noX) := by
    intro n
    induction n using Nat.strongRecOn with
    | _ n ih =>
      intro a0 a1 κ W Ta0 hI
      have F := F0 n a0 a1 κ W Ta0 hI
      clear hI hI0
      refine y_iln dX9_findVisits_26 rfl ?_
      refine y_aln dX9_findVisits_27 rfl ?_
      refine gf_X9_25 W dX9_findVisits_28 rfl Ta0 ?_
      refine gf_X9_97 dX9_findVisits_31 rfl (Or.inl (ty_soWeb W Ta0)) ?_
      refine y_ii ((zI κ weKnots (zR κ soWeb a0)) ≤ a1) dX9_findVisits_34 (t := 87) rfl rfl (fun c9 => ?_) (fun c9 => ?_)
      · replace F := F.1 c9
        refine y_aln dX9_findVisits_87 rfl ?_
        refine y_aln dX9_findVisits_88 rfl ?_
        refine gf_X9_28 W dX9_findVisits_89 rfl Ta0 ?_
        refine y_aln dX9_findVisits_92 rfl ?_
        refine gf_X9_25 W dX9_findVisits_93 rfl Ta0 ?_
        refine gf_X9_115 dX9_findVisits_96 rfl (Or.inl (ty_soWeb W Ta0)) ?_
        replace F := F (ty_soVisits W Ta0)
        refine k_X9_118 W dX9_findVisits_99 rfl (Nat.le_of_ble_eq_true rfl) (Nat.le_of_ble_eq_true rfl)  F (fun r2 κ1 Wκ1 Mκ1 g3 F => ?_) (fun _ _ h9 => False.elim h9)
        replace F := F Wκ1 Mκ1 g3
        have b5 := F.1
        replace F := F.2
        have h6 := (ztm W Mκ1 Ta0)
        refine pf_X9_28 Wκ1 dX9_findVisits_102 rfl (Or.inl h6) g3 (fun κ4 eκ4 => ?_)
        replace F := F κ4 eκ4
        have Wκ4 : zW C n0 κ4 := zW_uo9 Wκ1 eκ4 (fun t ht => by cases ht; exact g3) b5
        have Mκ4 : zM (zn κ1) κ1 κ4 := by rw [eκ4]; exact zM.of rfl rfl rfl
        replace F := F Wκ4
        refine y_aln dX9_findVisits_105 rfl ?_
        have h7 := (ztm Wκ1 Mκ4 h6)
        refine gf_X9_68 Wκ4 dX9_findVisits_106 rfl h7 ?_
        refine y_alen (t := 0) dX9_findVisits_109 (ty_soRows Wκ4 h7) (by decide) ?_
        refine y_aln dX9_findVisits_110 rfl ?_
        refine gf_X9_25 Wκ4 dX9_findVisits_111 rfl h7 ?_
        refine gf_X9_115 dX9_findVisits_114 rfl (Or.inl (ty_soWeb Wκ4 h7)) ?_
        refine y_ii ((zI κ4 weTotal (zR κ4 soWeb a0)) ≤ (Int32.ofNat (zN κ4 (zR κ4 soRows a0)))) dX9_findVisits_117 (t := 129) rfl rfl (fun c9 => ?_) (fun c9 => ?_)
        · replace F := F.1 c9
          exact y_k (t_So_findVisitz_129  Wκ4 h7 F) ⟨rfl, trivial⟩
        · replace F := F.2 c9
          refine y_aln dX9_findVisits_120 rfl ?_
          refine y_si dX9_findVisits_121 zs_1000 ?_
          have b9 := F.1
          refine y_newa (t := 0) Wκ4 dX9_findVisits_124 (by decide) b9 (fun κ8 eκ8 => ?_)
          replace F := F.2 κ8 eκ8
          have Wκ8 : zW C n0 κ8 := zW_na Wκ4 eκ8 (by decide) (by decide) b9.2
          have Mκ8 : zM (zn κ4) κ4 κ8 := zM_na (Wκ4.lo (Nat.le_trans Wκ4.1.2.1 Wκ4.1.2.2) (Nat.le_refl _)) eκ8
          replace F := F Wκ8
          have g10 : zT κ8 (zn κ4) = 20 := by rw [eκ8]; exact if_pos rfl
          have b12 := F.1
          replace F := F.2
          have h13 := (ztm Wκ4 Mκ8 h7)
          refine pf_X9_68 Wκ8 dX9_findVisits_126 rfl (Or.inl h13) g10 (fun κ11 eκ11 => ?_)
          replace F := F κ11 eκ11
          have Wκ11 : zW C n0 κ11 := zW_uo Wκ8 eκ11 (fun t ht => by cases ht; exact g10) b12
          have Mκ11 : zM (zn κ8) κ8 κ11 := by rw [eκ11]; exact zM.of rfl rfl rfl
          replace F := F Wκ11
          have h14 := (ztm Wκ8 Mκ11 h13)
          exact y_k (t_So_findVisitz_129  Wκ11 h14 F) ⟨rfl, trivial⟩
      · replace F := F.2 c9
        refine y_aln dX9_findVisits_37 rfl ?_
        refine gf_X9_25 W dX9_findVisits_38 rfl Ta0 ?_
        refine gf_X9_101 W dX9_findVisits_41 rfl (ty_soWeb W Ta0) ?_
        refine y_aln dX9_findVisits_44 rfl ?_
        refine gf_X9_25 W dX9_findVisits_45 rfl Ta0 ?_
        refine gf_X9_105 W dX9_findVisits_48 rfl (ty_soWeb W Ta0) ?_
        refine y_aln dX9_findVisits_51 rfl ?_
        refine gf_X9_25 W dX9_findVisits_52 rfl Ta0 ?_
        refine gf_X9_108 W dX9_findVisits_55 rfl (ty_soWeb W Ta0) ?_
        refine y_iln dX9_findVisits_58 rfl ?_
        refine y_ald dX9_findVisits_59 (ty_weKnotFirsts W (ty_soWeb W Ta0)) F.1 ?_
        replace F := F.2
        refine y_ald dX9_findVisits_60 (ty_weOrder W (ty_soWeb W Ta0)) F.1 ?_
        replace F := F.2
        refine y_zld dX9_findVisits_61 (ty_weOpen W (ty_soWeb W Ta0)) F.1 ?_
        replace F := F.2
        refine y_i ((zA κ (zR κ weOpen (zR κ soWeb a0)) ((zA κ (zR κ weOrder (zR κ soWeb a0)) ((zA κ (zR κ weKnotFirsts (zR κ soWeb a0)) (a1).toNatClampNeg)).toNatClampNeg)).toNatClampNeg) = (0 : Int32)) dX9_findVisits_62 (t := 81) rfl rfl (fun c9 => ?_) (fun c9 => ?_)
        · replace F := F.1 c9
          refine y_incb dX9_findVisits_81 zi_1 rfl (Nat.le_of_ble_eq_true rfl) (fun v1_15 ev1_15 => ?_)
          replace F := F v1_15 ev1_15
          show zG _ _ _ _ _ [some (.ref a0), some (.int v1_15), none] _ _ _
          refine y_goto dX9_findVisits_84 (t := 26) rfl ?_
          obtain ⟨k, hk, hI⟩ := F
          exact y_k (ih k hk _ _ _ W Ta0 hI) ⟨rfl, rfl, trivial⟩
        · replace F := F.2 c9
          refine y_aln dX9_findVisits_65 rfl ?_
          refine gf_X9_25 W dX9_findVisits_66 rfl Ta0 ?_
          refine y_iln dX9_findVisits_69 rfl ?_
          replace F := F (ty_soWeb W Ta0)
          refine k_X9_111 W dX9_findVisits_70 rfl (Nat.le_of_ble_eq_true rfl) (Nat.le_of_ble_eq_true rfl) (Or.inl (ty_soWeb W Ta0)) F (fun r17 κ16 Wκ16 Mκ16 F => ?_) (fun _ _ h9 => False.elim h9)
          replace F := F Wκ16 Mκ16
          refine y_bi1 dX9_findVisits_73 zb_32 ?_
          refine y_ii (r17 ≤ (32 : Int32)) dX9_findVisits_75 (t := 81) rfl rfl (fun c9 => ?_) (fun c9 => ?_)
          · replace F := F.1 c9
            refine y_incb dX9_findVisits_81 zi_1 rfl (Nat.le_of_ble_eq_true rfl) (fun v1_19 ev1_19 => ?_)
            replace F := F v1_19 ev1_19
            show zG _ _ _ _ _ [some (.ref a0), some (.int v1_19), none] _ _ _
            refine y_goto dX9_findVisits_84 (t := 26) rfl ?_
            have h20 := (ztm W Mκ16 Ta0)
            obtain ⟨k, hk, hI⟩ := F
            exact y_k (ih k hk _ _ _ Wκ16 h20 hI) ⟨rfl, rfl, trivial⟩
          · replace F := F.2 c9
            refine y_bi1 dX9_findVisits_78 zb_m2 ?_
            exact y_ri Wκ16 dX9_findVisits_80 rfl in_nar F
  exact key m0 a0 a1 κ W Ta0 hI0

def w_So_findVisitz_0 (C : zC) (n0 : Nat) (Q : Int32 → zS → Prop)  (a0 : Nat) (κ : zS) : Prop :=
  ∀ κ1, κ1 = ui κ soSolved a0 (0 : Int32) →
  ∀ _ : zW C n0 κ1,
  ∀ _ : zT κ1 (zR κ1 soWeb a0) = 14,
  ∀ _ : zT κ1 (zR κ1 soAtlas a0) = 3,
  zRun C 2 mWe_weave [.ref (zR κ1 soWeb a0), .ref (zR κ1 soAtlas a0), .int (1 : Int32)] κ1 (oV (fun κ3 =>
    ∀ _ : zW C n0 κ3,
    ∀ _ : zM (zn κ1) κ1 κ3,
    ∀ _ : zT κ3 (zR κ3 soWeb a0) = 14,
    zRun C 2 mWe_knot [.ref (zR κ3 soWeb a0)] κ3 (oV (fun κ7 =>
      ∀ _ : zW C n0 κ7,
      ∀ _ : zM (zn κ3) κ3 κ7,
      w_So_findVisitz_26 C n0 Q  a0 (0 : Int32) κ7) noX)) noX)
theorem t_So_findVisitz_0 {C : zC} {n0 : Nat} {Q : Int32 → zS → Prop}   {a0 : Nat} {κ : zS} (W : zW C n0 κ) (Ta0 : zT κ a0 = 12) (F : w_So_findVisitz_0 C n0 Q  a0 κ) : zG C n0 8 mSo_findVisits 0 [some (.ref a0), none, none] [] κ (oI Q noX) := by
  unfold w_So_findVisitz_0 at F
  refine y_aln dX9_findVisits_0 rfl ?_
  refine y_ic dX9_findVisits_1 zi_0 ?_
  refine pf_X9_84 W dX9_findVisits_2 rfl (nb_nar nb_0) (Or.inl Ta0) (fun κ1 eκ1 => ?_)
  replace F := F κ1 eκ1
  have Wκ1 : zW C n0 κ1 := zW_ui W eκ1 (fun _ => nb_0)
  have Mκ1 : zM (zn κ) κ κ1 := by rw [eκ1]; exact zM.of rfl rfl rfl
  replace F := F Wκ1
  refine y_aln dX9_findVisits_5 rfl ?_
  have h2 := (ztm W Mκ1 Ta0)
  refine gf_X9_25 Wκ1 dX9_findVisits_6 rfl h2 ?_
  refine y_aln dX9_findVisits_9 rfl ?_
  refine gf_X9_9 Wκ1 dX9_findVisits_10 rfl h2 ?_
  refine y_ic dX9_findVisits_13 zi_1 ?_
  replace F := F (ty_soWeb Wκ1 h2)
  replace F := F (ty_soAtlas Wκ1 h2)
  refine k_X9_88 Wκ1 dX9_findVisits_14 rfl (Nat.le_of_ble_eq_true rfl) (Nat.le_of_ble_eq_true rfl) (Or.inl (ty_soWeb Wκ1 h2)) F (fun  κ3 Wκ3 Mκ3 F => ?_) (fun _ _ h9 => False.elim h9)
  replace F := F Wκ3 Mκ3
  refine y_aln dX9_findVisits_17 rfl ?_
  have h6 := (ztm Wκ1 Mκ3 h2)
  refine gf_X9_25 Wκ3 dX9_findVisits_18 rfl h6 ?_
  replace F := F (ty_soWeb Wκ3 h6)
  refine k_X9_94 Wκ3 dX9_findVisits_21 rfl (Nat.le_of_ble_eq_true rfl) (Nat.le_of_ble_eq_true rfl) (Or.inl (ty_soWeb Wκ3 h6)) F (fun  κ7 Wκ7 Mκ7 F => ?_) (fun _ _ h9 => False.elim h9)
  replace F := F Wκ7 Mκ7
  refine y_ic dX9_findVisits_24 zi_0 ?_
  refine y_isn dX9_findVisits_25 (Nat.le_of_ble_eq_true rfl) rfl ?_
  show zG _ _ _ _ _ [some (.ref a0), some (.int (0 : Int32)), none] _ _ _
  have h10 := (ztm Wκ3 Mκ7 h6)
  exact y_k (t_So_findVisitz_26  Wκ7 h10 F) ⟨rfl, rfl, trivial⟩

theorem So_findVisitz_run {C : zC} {n0 : Nat} {Q : Int32 → zS → Prop} {a0 : Nat} {κ : zS} (W : zW C n0 κ) (Ta0 : zT κ a0 = 12) (F : w_So_findVisitz_0 C (zn κ) Q a0 κ) : zRun C 8 mSo_findVisits [.ref a0] κ (oI Q noX) := z_run (m_ent _ 2) (t_So_findVisitz_0 (W.lo (Nat.le_trans W.1.2.1 W.1.2.2) (Nat.le_refl _)) Ta0 F)


def w_So_makePlanz_141 (C : zC) (n0 : Nat) (Q : Int32 → zS → Prop) (B76 : Nat → Int32 → zS → Prop) (a0 : Nat) (a1 : Int32) (s0 : Int32) (κ : zS) : Prop :=
  (¬ s0 = (0 : Int32) →
    ∀ v1_1 : Int32, v1_1 = a1 + (1 : Int32) →
    B76 a0 v1_1 κ) ∧
  (s0 = (0 : Int32) →
    Q (-3 : Int32) κ)
theorem t_So_makePlanz_141 {C : zC} {n0 : Nat} {Q : Int32 → zS → Prop} {B76 : Nat → Int32 → zS → Prop} (hB76 : ∀ a0' a1' τ, zW C n0 τ → zT τ a0' = 12 → B76 a0' a1' τ → zG C n0 8 mSo_makePlan 76 [some (.ref a0'), some (.int a1'), none, none] [] τ (oI Q noX)) {a0 : Nat} {a1 : Int32} {s0 : Int32} {κ : zS} (W : zW C n0 κ) (Ta0 : zT κ a0 = 12) (F : w_So_makePlanz_141 C n0 Q B76 a0 a1 s0 κ) : zG C n0 8 mSo_makePlan 141 [some (.ref a0), some (.int a1), none, none] [.int s0] κ (oI Q noX) := by
  unfold w_So_makePlanz_141 at F
  refine y_isn dX9_makePlan_141 (Nat.le_of_ble_eq_true rfl) rfl ?_
  show zG _ _ _ _ _ [some (.ref a0), some (.int a1), none, some (.int s0)] _ _ _
  refine y_iln dX9_makePlan_142 rfl ?_
  refine y_in (s0 = (0 : Int32)) dX9_makePlan_143 (t := 149) rfl rfl (fun c9 => ?_) (fun c9 => ?_)
  · replace F := F.1 c9
    refine y_incb dX9_makePlan_149 zi_1 rfl (Nat.le_of_ble_eq_true rfl) (fun v1_1 ev1_1 => ?_)
    replace F := F v1_1 ev1_1
    show zG _ _ _ _ _ [some (.ref a0), some (.int v1_1), none, some (.int s0)] _ _ _
    refine y_goto dX9_makePlan_152 (t := 76) rfl ?_
    exact y_k (hB76 _ _ _ W Ta0 F) ⟨rfl, rfl, trivial⟩
  · replace F := F.2 c9
    refine y_bi1 dX9_makePlan_146 zb_m3 ?_
    exact y_ri W dX9_makePlan_148 rfl in_nar F

def w_So_makePlanz_128 (C : zC) (n0 : Nat) (Q : Int32 → zS → Prop) (B76 : Nat → Int32 → zS → Prop) (a0 : Nat) (a1 : Int32) (a2 : Int32) (κ : zS) : Prop :=
  ∀ _ : zT κ a0 = 12,
  zRun C 5 mSo_findWorth [.ref a0, .int a2] κ (oI (fun r2 κ1 =>
    ∀ _ : zW C n0 κ1,
    ∀ _ : zM (zn κ) κ κ1,
    w_So_makePlanz_141 C n0 Q B76 a0 a1 r2 κ1) noX)
theorem t_So_makePlanz_128 {C : zC} {n0 : Nat} {Q : Int32 → zS → Prop} {B76 : Nat → Int32 → zS → Prop} (hB76 : ∀ a0' a1' τ, zW C n0 τ → zT τ a0' = 12 → B76 a0' a1' τ → zG C n0 8 mSo_makePlan 76 [some (.ref a0'), some (.int a1'), none, none] [] τ (oI Q noX)) {a0 : Nat} {a1 : Int32} {a2 : Int32} {κ : zS} (W : zW C n0 κ) (Ta0 : zT κ a0 = 12) (F : w_So_makePlanz_128 C n0 Q B76 a0 a1 a2 κ) : zG C n0 8 mSo_makePlan 128 [some (.ref a0), some (.int a1), some (.int a2), none] [] κ (oI Q noX) := by
  unfold w_So_makePlanz_128 at F
  refine y_aln dX9_makePlan_128 rfl ?_
  refine y_iln dX9_makePlan_129 rfl ?_
  replace F := F Ta0
  refine k_X9_293 W dX9_makePlan_130 rfl (Nat.le_of_ble_eq_true rfl) (Nat.le_of_ble_eq_true rfl) (Or.inl Ta0) F (fun r2 κ1 Wκ1 Mκ1 F => ?_) (fun _ _ h9 => False.elim h9)
  replace F := F Wκ1 Mκ1
  refine y_goto dX9_makePlan_133 (t := 141) rfl ?_
  have h4 := (ztm W Mκ1 Ta0)
  exact y_k (t_So_makePlanz_141 hB76 Wκ1 h4 F) ⟨rfl, rfl, trivial⟩

def w_So_makePlanz_76 (C : zC) (n0 : Nat) (Q : Int32 → zS → Prop)  (a0 : Nat) (a1 : Int32) (κ : zS) : Prop :=
  ∃ I : Nat → Nat → Int32 → zS → Prop, (∃ n, I n a0 a1 κ) ∧ ∀ n a0 a1 κ, zW C n0 κ → zT κ a0 = 12 → I n a0 a1 κ →
    ((zI κ weTotal (zR κ soWeb a0)) ≤ a1 →
      cpo κ (zR κ soTaken a0) (zR κ atPlan (zR κ soAtlas a0)) (0 : Int32) (0 : Int32) (zI κ weTotal (zR κ soWeb a0)) ∧
      ∀ κ1, κ1 = uc κ (zR κ soTaken a0) (zR κ atPlan (zR κ soAtlas a0)) ((0 : Int32)).toNatClampNeg ((0 : Int32)).toNatClampNeg ((zI κ weTotal (zR κ soWeb a0))).toNatClampNeg →
      ∀ _ : zW C n0 κ1,
      ∀ κ2, κ2 = ui κ1 soPlanned a0 (1 : Int32) →
      ∀ _ : zW C n0 κ2,
      ∀ κ4, κ4 = ui κ2 soSolved a0 (0 : Int32) →
      ∀ _ : zW C n0 κ4,
      Q (0 : Int32) κ4) ∧
    (¬ (zI κ weTotal (zR κ soWeb a0)) ≤ a1 →
      inb a1 (zN κ (zR κ weOrder (zR κ soWeb a0))) ∧
      ∀ v2_6 : Int32, v2_6 = (zA κ (zR κ weOrder (zR κ soWeb a0)) (a1).toNatClampNeg) →
      inb v2_6 (zN κ (zR κ soTaken a0)) ∧
      ∀ κ7, κ7 = ua κ (zR κ soTaken a0) (v2_6).toNatClampNeg (0 : Int32) →
      ∀ _ : zW C n0 κ7,
      inb v2_6 (zN κ7 (zR κ7 atChooses (zR κ7 soAtlas a0))) ∧
      (¬ (zA κ7 (zR κ7 atChooses (zR κ7 soAtlas a0)) (v2_6).toNatClampNeg) = (0 : Int32) →
        w_So_makePlanz_128 C n0 Q (fun a0' a1' τ => ∃ k < n, I k a0' a1' τ) a0 a1 v2_6 κ7) ∧
      ((zA κ7 (zR κ7 atChooses (zR κ7 soAtlas a0)) (v2_6).toNatClampNeg) = (0 : Int32) →
        ∀ _ : zT κ7 (zR κ7 soAtlas a0) = 3,
        zRun C 0 mAt_waysOf [.ref (zR κ7 soAtlas a0), .int v2_6] κ7 (oI (fun r10 κ9 =>
          ∀ _ : zW C n0 κ9,
          ∀ _ : zM (zn κ7) κ7 κ9,
          (¬ r10 = (1 : Int32) →
            ∀ _ : zT κ9 a0 = 12,
            zRun C 7 mSo_mixWorths [.ref a0, .int v2_6] κ9 (oI (fun r13 κ12 =>
              ∀ _ : zW C n0 κ12,
              ∀ _ : zM (zn κ9) κ9 κ12,
              w_So_makePlanz_141 C n0 Q (fun a0' a1' τ => ∃ k < n, I k a0' a1' τ) a0 a1 r13 κ12) noX)) ∧
          (r10 = (1 : Int32) →
            w_So_makePlanz_128 C n0 Q (fun a0' a1' τ => ∃ k < n, I k a0' a1' τ) a0 a1 v2_6 κ9)) noX)))
theorem t_So_makePlanz_76 {C : zC} {n0 : Nat} {Q : Int32 → zS → Prop}   {a0 : Nat} {a1 : Int32} {κ : zS} (W : zW C n0 κ) (Ta0 : zT κ a0 = 12) (F : w_So_makePlanz_76 C n0 Q  a0 a1 κ) : zG C n0 8 mSo_makePlan 76 [some (.ref a0), some (.int a1), none, none] [] κ (oI Q noX) := by
  obtain ⟨I, ⟨m0, hI0⟩, F0⟩ := F
  have key : ∀ n a0 a1 κ, zW C n0 κ → zT κ a0 = 12 → I n a0 a1 κ → zG C n0 8 mSo_makePlan 76 [some (.ref a0), some (.int a1), none, none] [] κ (oI Q noX) := by
    intro n
    induction n using Nat.strongRecOn with
    | _ n ih =>
      intro a0 a1 κ W Ta0 hI
      have F := F0 n a0 a1 κ W Ta0 hI
      clear hI hI0
      refine y_iln dX9_makePlan_76 rfl ?_
      refine y_aln dX9_makePlan_77 rfl ?_
      refine gf_X9_25 W dX9_makePlan_78 rfl Ta0 ?_
      refine gf_X9_115 dX9_makePlan_81 rfl (Or.inl (ty_soWeb W Ta0)) ?_
      refine y_ii ((zI κ weTotal (zR κ soWeb a0)) ≤ a1) dX9_makePlan_84 (t := 155) rfl rfl (fun c9 => ?_) (fun c9 => ?_)
      · replace F := F.1 c9
        refine y_aln dX9_makePlan_155 rfl ?_
        refine gf_X9_72 W dX9_makePlan_156 rfl Ta0 ?_
        refine y_ic dX9_makePlan_159 zi_0 ?_
        refine y_aln dX9_makePlan_160 rfl ?_
        refine gf_X9_9 W dX9_makePlan_161 rfl Ta0 ?_
        refine gf_X9_299 W dX9_makePlan_164 rfl (ty_soAtlas W Ta0) ?_
        refine y_ic dX9_makePlan_167 zi_0 ?_
        refine y_aln dX9_makePlan_168 rfl ?_
        refine gf_X9_25 W dX9_makePlan_169 rfl Ta0 ?_
        refine gf_X9_115 dX9_makePlan_172 rfl (Or.inl (ty_soWeb W Ta0)) ?_
        refine y_cpy (t := 0) W dX9_makePlan_175 rfl zbi_X9_302 (ty_soTaken W Ta0) (ty_atPlan W (ty_soAtlas W Ta0)) (by decide) (Nat.le_of_ble_eq_true rfl) (Nat.le_of_ble_eq_true rfl) F.1 (fun κ1 eκ1 => ?_)
        replace F := F.2 κ1 eκ1
        have Wκ1 : zW C n0 κ1 := zW_uc W eκ1 ((ty_soTaken W Ta0).trans (ty_atPlan W (ty_soAtlas W Ta0)).symm)
        have Mκ1 : zM (zn κ) κ κ1 := by rw [eκ1]; exact zM.of rfl rfl rfl
        replace F := F Wκ1
        refine y_aln dX9_makePlan_178 rfl ?_
        refine y_ic dX9_makePlan_179 zi_1 ?_
        have h3 := (ztm W Mκ1 Ta0)
        refine pf_X9_308 Wκ1 dX9_makePlan_180 rfl (nb_nar nb_1) (Or.inl h3) (fun κ2 eκ2 => ?_)
        replace F := F κ2 eκ2
        have Wκ2 : zW C n0 κ2 := zW_ui Wκ1 eκ2 (fun _ => nb_1)
        have Mκ2 : zM (zn κ1) κ1 κ2 := by rw [eκ2]; exact zM.of rfl rfl rfl
        replace F := F Wκ2
        refine y_aln dX9_makePlan_183 rfl ?_
        refine y_ic dX9_makePlan_184 zi_0 ?_
        have h5 := (ztm Wκ1 Mκ2 h3)
        refine pf_X9_84 Wκ2 dX9_makePlan_185 rfl (nb_nar nb_0) (Or.inl h5) (fun κ4 eκ4 => ?_)
        replace F := F κ4 eκ4
        have Wκ4 : zW C n0 κ4 := zW_ui Wκ2 eκ4 (fun _ => nb_0)
        have Mκ4 : zM (zn κ2) κ2 κ4 := by rw [eκ4]; exact zM.of rfl rfl rfl
        replace F := F Wκ4
        refine y_ic dX9_makePlan_188 zi_0 ?_
        exact y_ri Wκ4 dX9_makePlan_189 rfl in_nar F
      · replace F := F.2 c9
        refine y_aln dX9_makePlan_87 rfl ?_
        refine gf_X9_25 W dX9_makePlan_88 rfl Ta0 ?_
        refine gf_X9_105 W dX9_makePlan_91 rfl (ty_soWeb W Ta0) ?_
        refine y_iln dX9_makePlan_94 rfl ?_
        refine y_ald dX9_makePlan_95 (ty_weOrder W (ty_soWeb W Ta0)) F.1 ?_
        replace F := F.2
        refine y_isnb dX9_makePlan_96 (Nat.le_of_ble_eq_true rfl) (fun v2_6 ev2_6 => ?_)
        replace F := F v2_6 ev2_6
        show zG _ _ _ _ _ [some (.ref a0), some (.int a1), some (.int v2_6), none] _ _ _
        refine y_aln dX9_makePlan_97 rfl ?_
        refine gf_X9_72 W dX9_makePlan_98 rfl Ta0 ?_
        refine y_iln dX9_makePlan_101 rfl ?_
        refine y_ic dX9_makePlan_102 zi_0 ?_
        refine y_ast W dX9_makePlan_103 (ty_soTaken W Ta0) F.1 (fun κ7 eκ7 => ?_)
        replace F := F.2 κ7 eκ7
        have Wκ7 : zW C n0 κ7 := zW_ua W eκ7 (fun h => absurd (h.symm.trans (ty_soTaken W Ta0)) (by decide)) (fun h => absurd (h.symm.trans (ty_soTaken W Ta0)) (by decide))
        have Mκ7 : zM (zn κ) κ κ7 := by rw [eκ7]; exact zM.of rfl rfl rfl
        replace F := F Wκ7
        refine y_aln dX9_makePlan_104 rfl ?_
        have h8 := (ztm W Mκ7 Ta0)
        refine gf_X9_9 Wκ7 dX9_makePlan_105 rfl h8 ?_
        refine gf_X9_287 Wκ7 dX9_makePlan_108 rfl (ty_soAtlas Wκ7 h8) ?_
        refine y_iln dX9_makePlan_111 rfl ?_
        refine y_zld dX9_makePlan_112 (ty_atChooses Wκ7 (ty_soAtlas Wκ7 h8)) F.1 ?_
        replace F := F.2
        refine y_in ((zA κ7 (zR κ7 atChooses (zR κ7 soAtlas a0)) (v2_6).toNatClampNeg) = (0 : Int32)) dX9_makePlan_113 (t := 128) rfl rfl (fun c9 => ?_) (fun c9 => ?_)
        · replace F := F.1 c9
          exact y_k (t_So_makePlanz_128 (fun a0' a1' τ w9 f09 hb => by obtain ⟨k, hk, hI⟩ := hb; exact ih k hk a0' a1' τ w9 f09 hI) Wκ7 h8 F) ⟨rfl, rfl, rfl, trivial⟩
        · replace F := F.2 c9
          refine y_aln dX9_makePlan_116 rfl ?_
          refine gf_X9_9 Wκ7 dX9_makePlan_117 rfl h8 ?_
          refine y_iln dX9_makePlan_120 rfl ?_
          replace F := F (ty_soAtlas Wκ7 h8)
          refine k_X9_290 Wκ7 dX9_makePlan_121 rfl (Nat.le_of_ble_eq_true rfl) (Nat.le_of_ble_eq_true rfl) (Or.inl (ty_soAtlas Wκ7 h8)) F (fun r10 κ9 Wκ9 Mκ9 F => ?_) (fun _ _ h9 => False.elim h9)
          replace F := F Wκ9 Mκ9
          refine y_ic dX9_makePlan_124 zi_1 ?_
          refine y_iin (r10 = (1 : Int32)) dX9_makePlan_125 (t := 136) rfl rfl (fun c9 => ?_) (fun c9 => ?_)
          · replace F := F.1 c9
            refine y_aln dX9_makePlan_136 rfl ?_
            refine y_iln dX9_makePlan_137 rfl ?_
            have h14 := (ztm Wκ7 Mκ9 h8)
            replace F := F h14
            refine k_X9_296 Wκ9 dX9_makePlan_138 rfl (Nat.le_of_ble_eq_true rfl) (Nat.le_of_ble_eq_true rfl) (Or.inl h14) F (fun r13 κ12 Wκ12 Mκ12 F => ?_) (fun _ _ h9 => False.elim h9)
            replace F := F Wκ12 Mκ12
            have h16 := (ztm Wκ9 Mκ12 h14)
            exact y_k (t_So_makePlanz_141 (fun a0' a1' τ w9 f09 hb => by obtain ⟨k, hk, hI⟩ := hb; exact ih k hk a0' a1' τ w9 f09 hI) Wκ12 h16 F) ⟨rfl, rfl, trivial⟩
          · replace F := F.2 c9
            have h17 := (ztm Wκ7 Mκ9 h8)
            exact y_k (t_So_makePlanz_128 (fun a0' a1' τ w9 f09 hb => by obtain ⟨k, hk, hI⟩ := hb; exact ih k hk a0' a1' τ w9 f09 hI) Wκ9 h17 F) ⟨rfl, rfl, rfl, trivial⟩
  exact key m0 a0 a1 κ W Ta0 hI0

def w_So_makePlanz_0 (C : zC) (n0 : Nat) (Q : Int32 → zS → Prop)  (a0 : Nat) (κ : zS) : Prop :=
  ((zI κ atRings (zR κ soAtlas a0)) ≤ (0 : Int32) →
    ∀ _ : zT κ (zR κ soWeb a0) = 14,
    ∀ _ : zT κ (zR κ soAtlas a0) = 3,
    zRun C 2 mWe_weave [.ref (zR κ soWeb a0), .ref (zR κ soAtlas a0), .int (0 : Int32)] κ (oV (fun κ1 =>
      ∀ _ : zW C n0 κ1,
      ∀ _ : zM (zn κ) κ κ1,
      ∀ _ : zT κ1 (zR κ1 soWeb a0) = 14,
      zRun C 2 mWe_knot [.ref (zR κ1 soWeb a0)] κ1 (oV (fun κ5 =>
        ∀ _ : zW C n0 κ5,
        ∀ _ : zM (zn κ1) κ1 κ5,
        ∀ _ : zT κ5 (zR κ5 soWorths a0) = 25,
        zRun C 3 mSo_fresh [.ref (zR κ5 soWorths a0), .int (zI κ5 weTotal (zR κ5 soWeb a0))] κ5 (oR 25 (fun r10 κ9 =>
          ∀ _ : zW C n0 κ9,
          ∀ _ : zM (zn κ5) κ5 κ9,
          ∀ _ : zT κ9 r10 = 25,
          zOo9 κ9 r10 soWorths a0 ∧
          ∀ κ12, κ12 = uo κ9 soWorths a0 r10 →
          ∀ _ : zW C n0 κ12,
          ((zI κ12 weTotal (zR κ12 soWeb a0)) ≤ (Int32.ofNat (zN κ12 (zR κ12 soTaken a0))) →
            w_So_makePlanz_76 C n0 Q  a0 (0 : Int32) κ12) ∧
          (¬ (zI κ12 weTotal (zR κ12 soWeb a0)) ≤ (Int32.ofNat (zN κ12 (zR κ12 soTaken a0))) →
            nsz (1000 : Int32) ∧
            ∀ κ16, κ16 = na κ12 20 ((1000 : Int32)).toNatClampNeg →
            ∀ _ : zW C n0 κ16,
            zO κ16 (zn κ12) = (0, 0) ∧
            ∀ κ19, κ19 = uo κ16 soTaken a0 (zn κ12) →
            ∀ _ : zW C n0 κ19,
            w_So_makePlanz_76 C n0 Q  a0 (0 : Int32) κ19)) noX)) noX)) noX)) ∧
  (¬ (zI κ atRings (zR κ soAtlas a0)) ≤ (0 : Int32) →
    Q (-2 : Int32) κ)
theorem t_So_makePlanz_0 {C : zC} {n0 : Nat} {Q : Int32 → zS → Prop}   {a0 : Nat} {κ : zS} (W : zW C n0 κ) (Ta0 : zT κ a0 = 12) (F : w_So_makePlanz_0 C n0 Q  a0 κ) : zG C n0 8 mSo_makePlan 0 [some (.ref a0), none, none, none] [] κ (oI Q noX) := by
  unfold w_So_makePlanz_0 at F
  refine y_aln dX9_makePlan_0 rfl ?_
  refine gf_X9_9 W dX9_makePlan_1 rfl Ta0 ?_
  refine gf_X9_284 dX9_makePlan_4 rfl (Or.inl (ty_soAtlas W Ta0)) ?_
  refine y_i ((zI κ atRings (zR κ soAtlas a0)) ≤ (0 : Int32)) dX9_makePlan_7 (t := 13) rfl rfl (fun c9 => ?_) (fun c9 => ?_)
  · replace F := F.1 c9
    refine y_aln dX9_makePlan_13 rfl ?_
    refine gf_X9_25 W dX9_makePlan_14 rfl Ta0 ?_
    refine y_aln dX9_makePlan_17 rfl ?_
    refine gf_X9_9 W dX9_makePlan_18 rfl Ta0 ?_
    refine y_ic dX9_makePlan_21 zi_0 ?_
    replace F := F (ty_soWeb W Ta0)
    replace F := F (ty_soAtlas W Ta0)
    refine k_X9_88 W dX9_makePlan_22 rfl (Nat.le_of_ble_eq_true rfl) (Nat.le_of_ble_eq_true rfl) (Or.inl (ty_soWeb W Ta0)) F (fun  κ1 Wκ1 Mκ1 F => ?_) (fun _ _ h9 => False.elim h9)
    replace F := F Wκ1 Mκ1
    refine y_aln dX9_makePlan_25 rfl ?_
    have h4 := (ztm W Mκ1 Ta0)
    refine gf_X9_25 Wκ1 dX9_makePlan_26 rfl h4 ?_
    replace F := F (ty_soWeb Wκ1 h4)
    refine k_X9_94 Wκ1 dX9_makePlan_29 rfl (Nat.le_of_ble_eq_true rfl) (Nat.le_of_ble_eq_true rfl) (Or.inl (ty_soWeb Wκ1 h4)) F (fun  κ5 Wκ5 Mκ5 F => ?_) (fun _ _ h9 => False.elim h9)
    replace F := F Wκ5 Mκ5
    refine y_aln dX9_makePlan_32 rfl ?_
    refine y_aln dX9_makePlan_33 rfl ?_
    have h8 := (ztm Wκ1 Mκ5 h4)
    refine gf_X9_32 Wκ5 dX9_makePlan_34 rfl h8 ?_
    refine y_aln dX9_makePlan_37 rfl ?_
    refine gf_X9_25 Wκ5 dX9_makePlan_38 rfl h8 ?_
    refine gf_X9_115 dX9_makePlan_41 rfl (Or.inl (ty_soWeb Wκ5 h8)) ?_
    replace F := F (ty_soWorths Wκ5 h8)
    refine k_X9_118 Wκ5 dX9_makePlan_44 rfl (Nat.le_of_ble_eq_true rfl) (Nat.le_of_ble_eq_true rfl)  F (fun r10 κ9 Wκ9 Mκ9 g11 F => ?_) (fun _ _ h9 => False.elim h9)
    replace F := F Wκ9 Mκ9 g11
    have b13 := F.1
    replace F := F.2
    have h14 := (ztm Wκ5 Mκ9 h8)
    refine pf_X9_32 Wκ9 dX9_makePlan_47 rfl (Or.inl h14) g11 (fun κ12 eκ12 => ?_)
    replace F := F κ12 eκ12
    have Wκ12 : zW C n0 κ12 := zW_uo9 Wκ9 eκ12 (fun t ht => by cases ht; exact g11) b13
    have Mκ12 : zM (zn κ9) κ9 κ12 := by rw [eκ12]; exact zM.of rfl rfl rfl
    replace F := F Wκ12
    refine y_aln dX9_makePlan_50 rfl ?_
    have h15 := (ztm Wκ9 Mκ12 h14)
    refine gf_X9_72 Wκ12 dX9_makePlan_51 rfl h15 ?_
    refine y_alen (t := 0) dX9_makePlan_54 (ty_soTaken Wκ12 h15) (by decide) ?_
    refine y_aln dX9_makePlan_55 rfl ?_
    refine gf_X9_25 Wκ12 dX9_makePlan_56 rfl h15 ?_
    refine gf_X9_115 dX9_makePlan_59 rfl (Or.inl (ty_soWeb Wκ12 h15)) ?_
    refine y_ii ((zI κ12 weTotal (zR κ12 soWeb a0)) ≤ (Int32.ofNat (zN κ12 (zR κ12 soTaken a0)))) dX9_makePlan_62 (t := 74) rfl rfl (fun c9 => ?_) (fun c9 => ?_)
    · replace F := F.1 c9
      refine y_ic dX9_makePlan_74 zi_0 ?_
      refine y_isn dX9_makePlan_75 (Nat.le_of_ble_eq_true rfl) rfl ?_
      show zG _ _ _ _ _ [some (.ref a0), some (.int (0 : Int32)), none, none] _ _ _
      exact y_k (t_So_makePlanz_76  Wκ12 h15 F) ⟨rfl, rfl, trivial⟩
    · replace F := F.2 c9
      refine y_aln dX9_makePlan_65 rfl ?_
      refine y_si dX9_makePlan_66 zs_1000 ?_
      have b17 := F.1
      refine y_newa (t := 0) Wκ12 dX9_makePlan_69 (by decide) b17 (fun κ16 eκ16 => ?_)
      replace F := F.2 κ16 eκ16
      have Wκ16 : zW C n0 κ16 := zW_na Wκ12 eκ16 (by decide) (by decide) b17.2
      have Mκ16 : zM (zn κ12) κ12 κ16 := zM_na (Wκ12.lo (Nat.le_trans Wκ12.1.2.1 Wκ12.1.2.2) (Nat.le_refl _)) eκ16
      replace F := F Wκ16
      have g18 : zT κ16 (zn κ12) = 20 := by rw [eκ16]; exact if_pos rfl
      have b20 := F.1
      replace F := F.2
      have h21 := (ztm Wκ12 Mκ16 h15)
      refine pf_X9_72 Wκ16 dX9_makePlan_71 rfl (Or.inl h21) g18 (fun κ19 eκ19 => ?_)
      replace F := F κ19 eκ19
      have Wκ19 : zW C n0 κ19 := zW_uo Wκ16 eκ19 (fun t ht => by cases ht; exact g18) b20
      have Mκ19 : zM (zn κ16) κ16 κ19 := by rw [eκ19]; exact zM.of rfl rfl rfl
      replace F := F Wκ19
      refine y_ic dX9_makePlan_74 zi_0 ?_
      refine y_isn dX9_makePlan_75 (Nat.le_of_ble_eq_true rfl) rfl ?_
      show zG _ _ _ _ _ [some (.ref a0), some (.int (0 : Int32)), none, none] _ _ _
      have h22 := (ztm Wκ16 Mκ19 h21)
      exact y_k (t_So_makePlanz_76  Wκ19 h22 F) ⟨rfl, rfl, trivial⟩
  · replace F := F.2 c9
    refine y_bi1 dX9_makePlan_10 zb_m2 ?_
    exact y_ri W dX9_makePlan_12 rfl in_nar F

theorem So_makePlanz_run {C : zC} {n0 : Nat} {Q : Int32 → zS → Prop} {a0 : Nat} {κ : zS} (W : zW C n0 κ) (Ta0 : zT κ a0 = 12) (F : w_So_makePlanz_0 C (zn κ) Q a0 κ) : zRun C 8 mSo_makePlan [.ref a0] κ (oI Q noX) := z_run (m_ent _ 3) (t_So_makePlanz_0 (W.lo (Nat.le_trans W.1.2.1 W.1.2.2) (Nat.le_refl _)) Ta0 F)

end
section
set_option maxHeartbeats 1600000
/-! the class: what findVisits needs -/
/-- a frame that leaves web, atlas and hoards alone -/
def frV9 (m : Nat) (F : Nat → Nat → Prop) : Prop := ∀ f b, F f b → m ≤ b ∨ f / 100 = 8 ∨ f / 100 = 11 ∨ f / 100 = 4 ∨ f / 100 = 12 ∨ f = 0
theorem frV9_n {C : zC} {n0 f b c : Nat} {F : Nat → Nat → Prop} {κ : zS} (W : zW C n0 κ) (H : frV9 (zn κ) F) (T : zT κ b = c + 1) (hf : f / 100 ≠ 8 ∧ f / 100 ≠ 11 ∧ f / 100 ≠ 4 ∧ f / 100 ≠ 12 ∧ f ≠ 0) : ¬ F f b := fun z => by
  have l := (W.2.1 b (by omega)).2
  rcases H f b z with h | h | h | h | h | h
  · omega
  · exact hf.1 h
  · exact hf.2.1 h
  · exact hf.2.2.1 h
  · exact hf.2.2.2.1 h
  · exact hf.2.2.2.2 h
theorem frV9_w {C : zC} {n0 f b t : Nat} {F : Nat → Nat → Prop} {κ τ : zS} (W : zW C n0 κ) (H : frV9 (zn κ) F) (Z : zF F κ τ) (hr : zr f = some t) (ht : 20 ≤ t) (T : zT κ b = f / 100) (hf : f / 100 ≠ 8 ∧ f / 100 ≠ 11 ∧ f / 100 ≠ 4 ∧ f / 100 ≠ 12 ∧ f ≠ 0) (h0 : f / 100 ≠ 0) : zR τ f b = zR κ f b ∧ zA τ (zR τ f b) = zA κ (zR κ f b) ∧ zN τ (zR τ f b) = zN κ (zR κ f b) := by
  have T9 : zT κ b = (f / 100 - 1) + 1 := by omega
  have n := frV9_n W H T9 hf
  have ty := W.r hr T
  have t1 : zT κ (zR κ f b) = (t - 1) + 1 := by omega
  refine ⟨Z.r n, (Z.row W hr ht T n).1, ?_⟩
  rw [Z.r n]
  exact Z.l t1
theorem at_v9 {C : zC} {n0 b f : Nat} {F : Nat → Nat → Prop} {κ τ : zS} (W : zW C n0 κ) (H : frV9 (zn κ) F) (Z : zF F κ τ) (Tb : zT κ b = 3) (hf : f ∈ atRf) : zR τ f b = zR κ f b ∧ zA τ (zR τ f b) = zA κ (zR κ f b) ∧ zN τ (zR τ f b) = zN κ (zR κ f b) := by
  obtain ⟨⟨t, h1, h2⟩, h3⟩ := atRf_r f hf
  refine frV9_w W H Z h1 h2 (Tb.trans h3.symm) ⟨by omega, by omega, by omega, by omega, by omega⟩ (by omega)
theorem we_v9 {C : zC} {n0 b f : Nat} {F : Nat → Nat → Prop} {κ τ : zS} (W : zW C n0 κ) (H : frV9 (zn κ) F) (Z : zF F κ τ) (Tb : zT κ b = 14) (hf : f ∈ weRf) : zR τ f b = zR κ f b ∧ zA τ (zR τ f b) = zA κ (zR κ f b) ∧ zN τ (zR τ f b) = zN κ (zR κ f b) := by
  obtain ⟨⟨t, h1, h2⟩, h3⟩ := weRf_r f hf
  refine frV9_w W H Z h1 h2 (Tb.trans h3.symm) ⟨by omega, by omega, by omega, by omega, by omega⟩ (by omega)
theorem atW_v9 {C : zC} {n0 b n : Nat} {F : Nat → Nat → Prop} {κ τ : zS} (W : zW C n0 κ) (H : frV9 (zn κ) F) (Z : zF F κ τ) (Tb : zT κ b = 3) (A : atW κ b n) : atW τ b n := by
  have ts := ty_atStates W Tb
  have te := ty_atEndings W Tb
  have g := fun f hf => at_v9 W H Z Tb (f := f) hf
  obtain ⟨A1, A2, A3, A4, A5, A6⟩ := A
  have rs : zR τ atStates b = zR κ atStates b := Z.r (frV9_n W H Tb (by decide))
  have re : zR τ atEndings b = zR κ atEndings b := Z.r (frV9_n W H Tb (by decide))
  have is : zI τ hoTotal (zR κ atStates b) = zI κ hoTotal (zR κ atStates b) := Z.i (frV9_n W H ts (by decide))
  have ie : zI τ hoTotal (zR κ atEndings b) = zI κ hoTotal (zR κ atEndings b) := Z.i (frV9_n W H te (by decide))
  have ix : zI τ atNexts b = zI κ atNexts b := Z.i (frV9_n W H Tb (by decide))
  refine ⟨?_, ?_, A3, ?_, ?_, fun k hk => ?_⟩
  · unfold atM
    rw [(g atFirsts (by decide)).2.2, (g atTotals (by decide)).2.2, (g atGains (by decide)).2.2, (g atPlan (by decide)).2.2, (g atChooses (by decide)).2.2, (g atHopeless (by decide)).2.2]
    exact A1
  · unfold atL
    rw [(g atSorts (by decide)).2.2, (g atNumbers (by decide)).2.2, (g atWeights (by decide)).2.2]
    exact A2
  · rw [rs, is]; exact A4
  · rw [ix, (g atNumbers (by decide)).2.2]; exact A5
  · unfold exK
    rw [rs, re, is, ie, ix, (g atFirsts (by decide)).2.1, (g atTotals (by decide)).2.1, (g atChooses (by decide)).2.1, (g atSorts (by decide)).2.1, (g atNumbers (by decide)).2.1, (g atWeights (by decide)).2.1]
    exact A6 k hk
theorem lkD_v9 {C : zC} {n0 b : Nat} {F : Nat → Nat → Prop} {κ τ : zS} {p : Int32} (W : zW C n0 κ) (H : frV9 (zn κ) F) (Z : zF F κ τ) (Tb : zT κ b = 3) : lkD τ b p = lkD κ b p := by
  have g := fun f hf => at_v9 W H Z Tb (f := f) hf
  funext t k i
  unfold lkD
  rw [(g atSorts (by decide)).2.1, (g atChooses (by decide)).2.1, (g atFirsts (by decide)).2.1, (g atPlan (by decide)).2.1, (g atNumbers (by decide)).2.1]
theorem weG_v9 {C : zC} {n0 w b n : Nat} {F : Nat → Nat → Prop} {κ τ : zS} {p : Int32} (W : zW C n0 κ) (H : frV9 (zn κ) F) (Z : zF F κ τ) (Tw : zT κ w = 14) (Tb : zT κ b = 3) (G : weG κ w b p n) : weG τ w b p n := by
  have g := fun f hf => we_v9 W H Z Tw (f := f) hf
  have ix : zI τ weTotal w = zI κ weTotal w := Z.i (frV9_n W H Tw (by decide))
  have e0 := lkD_v9 (p := p) W H Z Tb
  have e1 := (at_v9 W H Z Tb (f := atFirsts) (by decide)).2.1
  unfold weG weM weL
  rw [ix, e0, e1, (g weFirsts (by decide)).2.1, (g weTargets (by decide)).2.1, (g weBackFirsts (by decide)).2.1, (g weSources (by decide)).2.1, (g weEdges (by decide)).2.1, (g weFirsts (by decide)).2.2, (g weBackFirsts (by decide)).2.2, (g weOpen (by decide)).2.2, (g weKnotFirsts (by decide)).2.2, (g weKnotOf (by decide)).2.2, (g weOrder (by decide)).2.2, (g weSeen (by decide)).2.2, (g weLow (by decide)).2.2, (g weCursor (by decide)).2.2, (g wePath (by decide)).2.2, (g weHeap (by decide)).2.2, (g weSources (by decide)).2.2, (g weTargets (by decide)).2.2, (g weEdges (by decide)).2.2]
  exact G
theorem weKn_v9 {C : zC} {n0 w n : Nat} {F : Nat → Nat → Prop} {κ τ : zS} (W : zW C n0 κ) (H : frV9 (zn κ) F) (Z : zF F κ τ) (Tw : zT κ w = 14) (G : weKn κ w n) : weKn τ w n := by
  have g := fun f hf => we_v9 W H Z Tw (f := f) hf
  have ix : zI τ weKnots w = zI κ weKnots w := Z.i (frV9_n W H Tw (by decide))
  unfold weKn
  rw [ix, (g weKnotFirsts (by decide)).2.1, (g weOrder (by decide)).2.1, (g weKnotOf (by decide)).2.1]
  exact G
/-- a field's row is exchanged for another: what the rows allow -/
theorem pot_uo9 {C : zC} {n0 f a q r : Nat} {w : Nat → Nat → Nat} {κ : zS} (W : zW C n0 κ) (hr : zr f = some q) (hq : 20 ≤ q) (hT : zT κ a = f / 100) : pot w (uo κ f a r) + w f (zN κ (zR κ f a)) = pot w κ + w f (zN κ r) := by
  have cl := zr_cls hr
  have hlt : a < zn κ := (W.2.1 a (by omega)).2
  have e5 : ∀ g b, ¬ (g = f ∧ b = a) → zR (uo κ f a r) g b = zR κ g b := fun g b h => if_neg h
  have e6 : zR (uo κ f a r) f a = r := if_pos ⟨rfl, rfl⟩
  have pb : ∀ b, b < zn κ → b ≠ a → po w (uo κ f a r) b = po w κ b := by
    intro b _ hne
    unfold po
    show ((arF (zT κ b)).map fun g => w g (zN κ (zR (uo κ f a r) g b))).sum + w 0 (zT κ b) = _
    congr 2
    exact List.map_congr_left (fun g _ => by rw [e5 g b (fun e => hne e.2)])
  have pa : po w (uo κ f a r) a + w f (zN κ (zR κ f a)) = po w κ a + w f (zN κ r) := by
    have hnd := arF_nd (f / 100) (by omega)
    have hin := arF_in hr hq
    have key : ∀ l : List Nat, l.Nodup → f ∈ l → (l.map fun g => w g (zN κ (zR (uo κ f a r) g a))).sum + w f (zN κ (zR κ f a)) = (l.map fun g => w g (zN κ (zR κ g a))).sum + w f (zN κ r) := by
      intro l
      induction l with
      | nil => intro _ h; cases h
      | cons g l ih =>
        intro nd hf
        rw [List.nodup_cons] at nd
        by_cases hg : g = f
        · subst hg
          have e9 : (l.map fun x => w x (zN κ (zR (uo κ g a r) x a))) = l.map fun x => w x (zN κ (zR κ x a)) := List.map_congr_left (fun x hx => by rw [e5 x a (fun e => nd.1 (by rw [← e.1]; exact hx))])
          rw [List.map_cons, List.map_cons, List.sum_cons, List.sum_cons, e9, e6]
          omega
        · have hf2 : f ∈ l := by
            rcases List.mem_cons.mp hf with z | z
            · exact absurd z.symm hg
            · exact z
          have i := ih nd.2 hf2
          have eg : w g (zN κ (zR (uo κ f a r) g a)) = w g (zN κ (zR κ g a)) := by rw [e5 g a (fun e => hg e.1)]
          rw [List.map_cons, List.map_cons, List.sum_cons, List.sum_cons, eg]
          omega
    unfold po
    show ((arF (zT κ a)).map fun g => w g (zN κ (zR (uo κ f a r) g a))).sum + w 0 (zT κ a) + _ = _
    rw [hT]
    have k := key _ hnd hin
    omega
  have z := zSum_one (f := po w κ) (g := po w (uo κ f a r)) hlt pb
  unfold pot
  show zSum (zn κ) (po w (uo κ f a r)) + _ = _
  omega
/-- a row is made, then other things, then it becomes a field's -/
theorem zF_nu9 {C : zC} {n0 f a q n t : Nat} {F : Nat → Nat → Prop} {κ κ1 τ τ1 : zS} (W : zW C n0 κ) (Wt : zW C n0 τ) (hr : zr f = some q) (hq : 20 ≤ q) (hT : zT κ a = f / 100) (ht : 20 ≤ t ∧ t < 40) (hF : F f a) (e1 : κ1 = na κ t n) (Z : zF F κ1 τ) (er : zR τ f a = zR κ f a) (e : τ1 = uo τ f a (zn κ)) (cS : n + wS f (zN κ (zR κ f a)) ≤ wS f n) (cC : 4 + wC f (zN κ (zR κ f a)) ≤ wC f n) : zF F κ τ1 := by
  have cl := zr_cls hr
  have ne : ∀ b, zT κ b ≠ 0 → b ≠ zn κ := fun b h => Nat.ne_of_lt (W.2.1 b h).2
  have t1 : ∀ b, zT κ b ≠ 0 → zT κ1 b = zT κ b := fun b h => by rw [e1]; exact if_neg (ne b h)
  have t0 : zT κ1 (zn κ) = t := by rw [e1]; exact if_pos rfl
  have m1 : ∀ b, zT κ b ≠ 0 → zN κ1 b = zN κ b := fun b h => by rw [e1]; exact if_neg (ne b h)
  have i1 : zI κ1 = zI κ := by rw [e1]; rfl
  have r1 : zR κ1 = zR κ := by rw [e1]; rfl
  have rows : ∀ x, x ≠ zn κ → zA κ1 x = zA κ x ∧ zJ κ1 x = zJ κ x ∧ zQ κ1 x = zQ κ x ∧ zO κ1 x = zO κ x := fun x hx => by
    rw [e1]
    exact ⟨if_neg hx, if_neg hx, if_neg hx, if_neg hx⟩
  have n1 : zn κ1 = zn κ + 1 := by rw [e1]; rfl
  have p1 : ∀ w : Nat → Nat → Nat, w 0 t = 0 → pot w κ1 = pot w κ := fun w hw => by
    have lt : ∀ b, b < zn κ → b ≠ zn κ := fun b h => Nat.ne_of_lt h
    have p0 := pot_x9 (w := w) (κ6 := κ1) W (fun b hb => by rw [e1]; exact if_neg (lt b hb)) (fun b hb => by rw [e1]; exact if_neg (lt b hb)) (fun g b _ => by rw [r1])
    unfold pot at p0 ⊢
    rw [n1]
    show zSum (zn κ) (po w κ1) + po w κ1 (zn κ) = _
    rw [p0]
    have q0 : po w κ1 (zn κ) = 0 := by
      unfold po
      rw [t0, arF_no (Or.inl ht.1), hw]
      rfl
    rw [q0]
    rfl
  have w0 : wS 0 t = 0 ∧ wC 0 t = 0 := ⟨by unfold wS; rw [if_pos rfl, if_neg (by omega)], by unfold wC; rw [if_pos rfl, if_neg (by omega)]⟩
  obtain ⟨t9, ht9⟩ : ∃ c, t = c + 1 := ⟨t - 1, by omega⟩
  have nr : zN τ (zn κ) = n := by
    have q := Z.l (a := zn κ) (c := t9) (t0.trans ht9)
    rw [q, e1]
    exact if_pos rfl
  have tq := W.r hr hT
  have no : zN τ (zR κ f a) = zN κ (zR κ f a) := by
    obtain ⟨c9, hc9⟩ : ∃ c, q = c + 1 := ⟨q - 1, by omega⟩
    have y := Z.l (a := zR κ f a) (c := c9) ((t1 _ (by omega)).trans (tq.trans hc9))
    rw [y]
    exact m1 _ (by omega)
  have ta : zT τ a = f / 100 := by
    obtain ⟨c9, hc9⟩ : ∃ c, f / 100 = c + 1 := ⟨f / 100 - 1, by omega⟩
    have y := Z.t (a := a) (c := c9) ((t1 a (by omega)).trans (hT.trans hc9)) (by omega)
    rw [y, hc9]
  obtain ⟨Z1, Z2, Z3, ⟨⟨⟨Z4, Z5⟩, Zz⟩, Zt⟩, Z6, Z7, Z8⟩ := Z
  subst e
  have pS := pot_uo9 (w := wS) (r := zn κ) Wt hr hq ta
  have pC := pot_uo9 (w := wC) (r := zn κ) Wt hr hq ta
  rw [er, no, nr] at pS pC
  refine ⟨fun g b z => ?_, fun x hx z => ?_, fun x hx z => ?_, ⟨⟨⟨?_, ?_⟩, fun b hb e8 => Zz b (by omega) (by rw [e1]; exact (if_neg (Nat.ne_of_lt hb)).trans e8)⟩, fun b t8 h3 h20 e8 => ?_⟩, fun x c hc h => ?_, fun x h => ?_, ?_⟩
  · have y := Z1 g b z
    rw [i1, r1] at y
    refine ⟨y.1, ?_⟩
    show (if g = f ∧ b = a then zn κ else zR τ g b) = zR κ g b
    rw [if_neg (fun p => z (by rw [p.1, p.2]; exact hF))]
    exact y.2
  · obtain ⟨o1, o2, o3, o4⟩ := rows x (ne x hx)
    obtain ⟨y1, y2, y3, y4⟩ := Z2 x (by rw [t1 x hx]; exact hx) (by rw [o4]; exact z)
    refine ⟨y1.trans o1, y2.trans o2, y3.trans o3, ?_⟩
    show (if x = zn κ then (f, a) else zO τ x) = zO κ x
    rw [if_neg (ne x hx)]
    exact y4.trans o4
  · have o4 := (rows x (ne x hx)).2.2.2
    show (if x = zn κ then (f, a) else zO τ x) = zO κ x
    rw [if_neg (ne x hx)]
    exact (Z3 x (by rw [t1 x hx]; exact hx) (by rw [o4]; exact z)).trans o4
  · rw [p1 wS w0.1] at Z4
    have s1 : zs κ1 = zs κ + n := by rw [e1]; rfl
    show zs τ + _ ≤ _
    omega
  · rw [p1 wC w0.2] at Z5
    have s1 : zc κ1 = zc κ + 1 := by rw [e1]; rfl
    show 4 * zc τ + _ ≤ _
    omega
  · rcases Zt b t8 h3 h20 e8 with q9 | ⟨q1, q2, q3⟩
    · by_cases z : b = zn κ
      · rw [z, t0] at q9
        omega
      · have y : zT κ1 b = zT κ b := by rw [e1]; exact if_neg z
        rw [y] at q9
        exact Or.inl q9
    · exact Or.inr ⟨q1, q2, by omega⟩
  · exact Z6 x c hc (by rw [t1 x (by omega)]; exact h)
  · have y := Z7 x (by rw [t1 x h]; exact h)
    rw [m1 x h] at y
    exact y
  · show zn κ ≤ zn τ
    omega
theorem uo_id9 {κ : zS} {f a r : Nat} (h1 : zR κ f a = r) (h2 : zO κ r = (f, a)) : uo κ f a r = κ := by
  obtain ⟨k1, k2, k3, k4, k5, k6, k7, k8, k9⟩ := κ
  have e1 : (fun g b => if g = f ∧ b = a then r else k4 g b) = k4 := by
    funext g b
    by_cases z : g = f ∧ b = a
    · rw [if_pos z, z.1, z.2]; exact h1.symm
    · exact if_neg z
  have e2 : (fun b => if b = r then (f, a) else k8 b) = k8 := by
    funext b
    by_cases z : b = r
    · rw [if_pos z, z]; exact h2.symm
    · exact if_neg z
  show (k1, k2, k3, (fun g b => if g = f ∧ b = a then r else k4 g b), k5, k6, k7, (fun b => if b = r then (f, a) else k8 b), k9) = _
  rw [e1, e2]
/-- fresh, and its row stored -/
theorem fr_u9 {C : zC} {n0 s b f9 o r : Nat} {ρ : Nat → Nat} {κ τ τ1 : zS} {m : Int32} {k : Nat} {X : (Nat → Nat) → Prop} (W : zW C n0 κ) (Wt : zW C n0 τ) (hs : zT κ s = 12) (hf : f9 = soVisits ∨ f9 = soWorths) (ho : zR κ f9 s = o) (hm : 0 ≤ m.toInt ∧ m.toInt ≤ 1000) (H : frX9 ρ s b f9 κ τ o r m k X) (e : τ1 = uo τ f9 s r) : zF (frF9 ρ κ f9 s) κ τ1 := by
  obtain ⟨κ1, ρ', Hw, _, _, Z, ⟨O1, O2, O3⟩, _⟩ := H
  have hz : zr f9 = some 25 := by rcases hf with q | q <;> rw [q] <;> decide +kernel
  have h12 : f9 / 100 = 12 := by rcases hf with q | q <;> rw [q] <;> decide
  have T9 : zT κ s = f9 / 100 := by rw [h12]; exact hs
  have ow := W.o hz (by decide) T9
  rw [ho] at ow
  rcases Hw with ⟨h1, h2, _⟩ | ⟨h1, h2, h3⟩
  · rw [h2] at Z
    have q : τ1 = τ := by
      rw [e]
      exact uo_id9 (by rw [O3, ho, h1]) (by rw [h1, O2]; exact ow)
    rw [q]
    exact Z
  · have v := frN9_v hm
    have cp : cap9 f9 = 1000 := by rcases hf with q | q <;> rw [q] <;> rfl
    have n0' : f9 ≠ 0 ∧ f9 ≠ 605 ∧ f9 ≠ 800 := by omega
    refine zF_nu9 W Wt hz (by decide) T9 (by decide) (Or.inr (Or.inl ⟨rfl, rfl⟩)) h2 Z O3 (by rw [e, h1]) ?_ ?_
    · rw [ho]
      unfold wS
      rw [if_neg n0'.1, if_neg n0'.2.1, if_neg n0'.2.2, if_neg n0'.1, if_neg n0'.2.1, if_neg n0'.2.2, cp]
      split <;> split <;> omega
    · rw [ho]
      unfold wC
      rw [if_neg n0'.1, if_neg n0'.2.1, if_neg n0'.2.2, if_neg n0'.1, if_neg n0'.2.1, if_neg n0'.2.2, cp]
      split <;> split <;> omega
theorem frF9_v {ρ : Nat → Nat} {κ : zS} {f9 s : Nat} (hf : f9 = soVisits ∨ f9 = soWorths) : frV9 (zn κ) (frF9 ρ κ f9 s) := fun f b z => by
  rcases z with z | z | z | z
  · rcases z with ⟨_, z | z | z⟩ | ⟨_, z | z | z | z⟩ <;> rw [z]
    · exact Or.inr (Or.inl (by decide))
    · exact Or.inr (Or.inl (by decide))
    · exact Or.inr (Or.inr (Or.inl (by decide)))
    · exact Or.inr (Or.inr (Or.inr (Or.inl (by decide))))
    · exact Or.inr (Or.inr (Or.inr (Or.inl (by decide))))
    · exact Or.inr (Or.inr (Or.inr (Or.inl (by decide))))
    · exact Or.inr (Or.inr (Or.inr (Or.inl (by decide))))
  · rw [z.1]
    rcases hf with q | q <;> rw [q] <;> exact Or.inr (Or.inr (Or.inr (Or.inr (Or.inl (by decide)))))
  · exact Or.inr (Or.inr (Or.inr (Or.inr (Or.inr z))))
  · exact Or.inl z

end
section
set_option maxHeartbeats 1600000
/-! the class: Solver's findVisits -/
/-- a Solver at rest -/
def soR9 (ρ : Nat → Nat) (κ : zS) (a : Nat) : Prop := (nmI ρ κ ∧ soI ρ κ a) ∧ clK9 ρ κ a ∧ ((zN κ (zR κ soCells a)) = 0 ∨ (zN κ (zR κ soCells a)) = 1056) ∧ ((∀ j u, j < 1000 → zQ κ (zR κ soVisits a) j = some u → ρ u = 100 + 8 * j) ∧ (zN κ (zR κ soVisits a)) ≤ 1000) ∧ ((∀ j u, j < 1000 → zQ κ (zR κ soWorths a) j = some u → ρ u = 104 + 8 * j) ∧ (zN κ (zR κ soWorths a)) ≤ 1000) ∧ ((zN κ (zR κ soRows a)) = 0 ∨ (zN κ (zR κ soRows a)) = 1000) ∧ nuN κ (zR κ soLess a) < pB9 4000
theorem nm_h9 {C : zC} {n0 : Nat} {ρ : Nat → Nat} {F : Nat → Nat → Prop} {κ τ : zS} (W : zW C n0 κ) (N : nmI ρ κ) (Z : zF F κ τ) (h8 : ∀ f w, zT κ w = 8 → ¬ F f w) (h11 : ∀ f v, zT κ v = 11 → ¬ F f v) : nmI ρ τ := by
  refine ⟨fun w h => ?_, fun v h => ?_⟩
  · obtain ⟨t, c, i⟩ := N.1 w h
    have u := nu_z W t Z (h8 _ w t) (h8 _ w t)
    refine ⟨Z.t t (by decide), ?_, fun y => (nuB_z (c := capR (ρ w)) W t Z (h8 _ w t) (h8 _ w t)).2.1 (i y)⟩
    unfold nuC
    rw [u.2.1, u.2.2.2]
    exact c
  · obtain ⟨t, p, q⟩ := N.2 v h
    exact ⟨Z.t t (by decide), by rw [Z.r (h11 _ v t)]; exact p, by rw [Z.r (h11 _ v t)]; exact q⟩
/-- a step that touches neither numbers nor the Solver's rows -/
theorem rs_h9 {C : zC} {n0 a : Nat} {ρ : Nat → Nat} {F : Nat → Nat → Prop} {κ τ : zS} (W : zW C n0 κ) (Ta : zT κ a = 12) (S : soR9 ρ κ a) (Z : zF F κ τ) (h8 : ∀ f w, zT κ w = 8 → ¬ F f w) (h11 : ∀ f v, zT κ v = 11 → ¬ F f v) (h4 : ∀ f w, zT κ w = 4 → ¬ F f w) (ha : ∀ f, f ≠ soSolved → f ≠ soPlanned → ¬ F f a) : soR9 ρ τ a ∧ ∀ f, f ≠ soSolved → f ≠ soPlanned → zR τ f a = zR κ f a := by
  have tc := ty_soCalc W Ta
  have e : ∀ f, f ≠ soSolved → f ≠ soPlanned → zR τ f a = zR κ f a := fun f h1 h2 => Z.r (ha f h1 h2)
  have ec : ∀ f, zR τ f (zR κ soCalc a) = zR κ f (zR κ soCalc a) := fun f => Z.r (h4 f _ tc)
  obtain ⟨⟨N, I⟩, K, L, ⟨v1, v2⟩, ⟨w1, w2⟩, r, l⟩ := S
  have tl := ty_soLess W Ta
  have row : ∀ f t, zr f = some t → 20 ≤ t → f / 100 = 12 → f ≠ soSolved → f ≠ soPlanned → zQ τ (zR τ f a) = zQ κ (zR κ f a) ∧ zN τ (zR τ f a) = zN κ (zR κ f a) := fun f t h1 h2 h3 h4 h5 => by
    have T9 : zT κ a = f / 100 := by rw [h3]; exact Ta
    refine ⟨(Z.row W h1 h2 T9 (ha f h4 h5)).2.2, ?_⟩
    have q := W.r h1 T9
    obtain ⟨c, hc⟩ : ∃ c, t = c + 1 := ⟨t - 1, by omega⟩
    rw [e f h4 h5]
    exact Z.l (c := c) (q.trans hc)
  have rv := row soVisits 25 (by decide +kernel) (by decide) (by decide) (by decide) (by decide)
  have rw9 := row soWorths 25 (by decide +kernel) (by decide) (by decide) (by decide) (by decide)
  have rc := row soCells 24 (by decide +kernel) (by decide) (by decide) (by decide) (by decide)
  have rr := row soRows 20 (by decide +kernel) (by decide) (by decide) (by decide) (by decide)
  refine ⟨⟨⟨nm_h9 W N Z h8 h11, ?_⟩, ?_, by rw [rc.2]; exact L, ⟨by rw [rv.1]; exact v1, by rw [rv.2]; exact v2⟩, ⟨by rw [rw9.1]; exact w1, by rw [rw9.2]; exact w2⟩, by rw [rr.2]; exact r, ?_⟩, e⟩
  · unfold soI caN caS
    rw [e soWhole (by decide) (by decide), e soFactor (by decide) (by decide), e soScaled (by decide) (by decide), e soTerm (by decide) (by decide), e soSum (by decide) (by decide), e soLess (by decide) (by decide), e soPart (by decide) (by decide), e soCalc (by decide) (by decide), ec caQuotient, ec caRest, ec caDivisor, ec caX, ec caY, ec caFactors, ec caSpare, Z.l (ty_caFactors W tc)]
    exact I
  · unfold clK9
    rw [rc.1]
    exact K
  · rw [e soLess (by decide) (by decide), (nuB_z (c := 0) W tl Z (h8 _ _ tl) (h8 _ _ tl)).2.2.1]
    exact l
theorem rs_rg9 {C : zC} {n0 a : Nat} {R : Nat → Prop} {ρ ρ' : Nat → Nat} {κ τ : zS} (W : zW C n0 κ) (Ta : zT κ a = 12) (S : soR9 ρ κ a) (E : rgE9 R ρ κ τ a ρ') (hl : nuN τ (zR κ soLess a) < pB9 4000) (hr : (zN τ (zR τ soRows a)) = 0 ∨ (zN τ (zR τ soRows a)) = 1000) : soR9 ρ' τ a := by
  have Z := E.2.2.2.2
  have T9 : zT κ a = 11 + 1 := Ta
  have lt : ∀ x, zT κ x ≠ 0 → x < zn κ := fun x h => (W.2.1 x h).2
  have ev := Z.row W (f := soVisits) (t := 25) (by decide +kernel) (by decide) Ta (frS9_n W rgF9_fr T9 (by decide))
  have ew := Z.row W (f := soWorths) (t := 25) (by decide +kernel) (by decide) Ta (frS9_n W rgF9_fr T9 (by decide))
  have nv := frS9_w (f := soVisits) W rgF9_fr Z (t := 25) (by decide +kernel) (by decide) Ta (by decide) (by decide)
  have nw := frS9_w (f := soWorths) W rgF9_fr Z (t := 25) (by decide +kernel) (by decide) Ta (by decide) (by decide)
  obtain ⟨_, _, _, ⟨v1, v2⟩, ⟨w1, w2⟩, _, _⟩ := S
  refine ⟨E.2.1, E.2.2.1, E.2.2.2.1.1, ⟨fun j u hj hu => ?_, by rw [nv.2.2]; exact v2⟩, ⟨fun j u hj hu => ?_, by rw [nw.2.2]; exact w2⟩, hr, by rw [(rg_r9 W Ta E (by decide)).1]; exact hl⟩
  · rw [ev.2.2] at hu
    have t := W.2.2.2.2.1 _ _ _ (ty_soVisits W Ta) hu
    rw [E.1 u (lt u (by rw [t]; decide))]
    exact v1 j u hj hu
  · rw [ew.2.2] at hu
    have t := W.2.2.2.2.1 _ _ _ (ty_soWorths W Ta) hu
    rw [E.1 u (lt u (by rw [t]; decide))]
    exact w1 j u hj hu
/-- what findVisits may touch -/
def fvF9 (ρ : Nat → Nat) (κ : zS) (a : Nat) : Nat → Nat → Prop := fun f b => soF ρ (fun _ => True) (zR κ soCalc a) f b ∨ b = zR κ soWeb a ∨ (b = a ∧ (f = soSolved ∨ f = soCells ∨ f = soRows ∨ f = soVisits)) ∨ f = 0 ∨ b = 0 ∨ zn κ ≤ b
/-- on the way through the knots -/
def fvJ9 (ρ : Nat → Nat) (κ τ : zS) (a n : Nat) (ρ' : Nat → Nat) : Prop := (∀ b, b < zn κ → ρ' b = ρ b) ∧ zF (fvF9 ρ κ a) κ τ ∧ soR9 ρ' τ a ∧ svX9 τ a n ∧ n ≤ (zN τ (zR τ soRows a)) ∧ (∀ c : Nat, (c : Int) < (zI τ weKnots (zR τ soWeb a)).toInt → zA τ (zR τ weOpen (zR τ soWeb a)) (zA τ (zR τ weOrder (zR τ soWeb a)) (zA τ (zR τ weKnotFirsts (zR τ soWeb a)) c).toNatClampNeg).toNatClampNeg ≠ 0 → (zA τ (zR τ weKnotFirsts (zR τ soWeb a)) (c + 1)).toInt - (zA τ (zR τ weKnotFirsts (zR τ soWeb a)) c).toInt ≤ 32) ∧ zI τ soSolved a = 0 ∧ zR τ soAtlas a = zR κ soAtlas a ∧ zR τ soWeb a = zR κ soWeb a ∧ zR τ soCalc a = zR κ soCalc a ∧ zK9 κ τ a
theorem rg_fv9 {C : zC} {n0 a : Nat} {R : Nat → Prop} {ρ ρ1 ρ2 : Nat → Nat} {κ τ τ' : zS} (hρ : ∀ b, b < zn κ → ρ1 b = ρ b) (hn : zn κ ≤ zn τ) (hc : zR τ soCalc a = zR κ soCalc a) (E : rgE9 R ρ1 τ τ' a ρ2) : zF (fvF9 ρ κ a) τ τ' := E.2.2.2.2.mono (fun f b z => by
  rcases z with z | z | z | z
  · by_cases l : b < zn κ
    · left
      rcases z with z | z
      · exact Or.inl ⟨trivial, z.2⟩
      · rw [hc] at z; exact Or.inr z
    · exact Or.inr (Or.inr (Or.inr (Or.inr (Or.inr (by omega)))))
  · exact Or.inr (Or.inr (Or.inl ⟨z.2, Or.inr (Or.inl z.1)⟩))
  · exact Or.inr (Or.inr (Or.inl ⟨z.2, Or.inr (Or.inr (Or.inl z.1))⟩))
  · exact Or.inr (Or.inr (Or.inr (Or.inr (Or.inr (by omega))))))
theorem fv_s9 {C : zC} {n0 a n : Nat} {R : Nat → Prop} {ρ ρ1 ρ2 : Nat → Nat} {κ τ τ' : zS} (Wt : zW C n0 τ) (Tt : zT τ a = 12) (J : fvJ9 ρ κ τ a n ρ1) (E : rgE9 R ρ1 τ τ' a ρ2) (hl : nuN τ' (zR τ soLess a) < pB9 4000) (hr : zR τ' soRows a = zR τ soRows a) : fvJ9 ρ κ τ' a n ρ2 := by
  obtain ⟨j1, j2, j3, j4, j5, j6, j7, j8, j9, j10, j11⟩ := J
  have mn := j2.2.2.2.2.2.2
  have me := E.2.2.2.2.2.2.2.2.2.2
  have X := rg_x9 Wt Tt E j4
  have w := rg_w9 Wt Tt E j4
  have wo := (we_f9 Wt rgF9_fr E.2.2.2.2 (ty_soWeb Wt Tt) (f := weOpen) (by decide)).2.1
  have lr : zN τ' (zR τ' soRows a) = zN τ (zR τ soRows a) := by rw [hr]; exact E.2.2.2.2.l (ty_soRows Wt Tt)
  refine ⟨fun b hb => (E.1 b (by omega)).trans (j1 b hb), j2.tr (rg_fv9 (C := C) (n0 := n0) j1 mn j10 E), rs_rg9 Wt Tt j3 E hl (by rw [lr]; exact j3.2.2.2.2.2.1), X.1, by rw [lr]; exact j5, ?_, ?_, X.2.2.1.trans j8, X.2.1.trans j9, ((rg_r9 Wt Tt E (by decide)).1).trans j10, j11.tr E.2.2.2.1.2⟩
  · rw [w.2.2.1, w.2.2.2.1, w.1, X.2.1, wo]
    exact j6
  · rw [(rg_r9 Wt Tt E (by decide)).2]
    exact j7
/-- what findVisits leaves -/
def fvP9 (ρ : Nat → Nat) (κ κ' : zS) (a n : Nat) : Prop := ∃ ρ' : Nat → Nat, (∀ b, b < zn κ → ρ' b = ρ b) ∧ zF (fvF9 ρ κ a) κ κ' ∧ soR9 ρ' κ' a ∧ atW κ' (zR κ soAtlas a) n ∧ (weM κ' (zR κ soWeb a) ∧ weL κ' (zR κ soWeb a)) ∧ (zR κ' soAtlas a = zR κ soAtlas a ∧ zR κ' soWeb a = zR κ soWeb a ∧ zR κ' soCalc a = zR κ soCalc a) ∧ (zI κ' soSolved a ≠ 0 → ∃ P, vsI9 ρ' κ' a n P ∧ (0 < P ∧ P < pB9 1490) ∧ n ≤ (zN κ' (zR κ' soVisits a))) ∧ zK9 κ κ' a
theorem fv_p9 {ρ ρ1 : Nat → Nat} {κ τ : zS} {a n : Nat} (J : fvJ9 ρ κ τ a n ρ1) : fvP9 ρ κ τ a n := by
  obtain ⟨j1, j2, j3, j4, j5, j6, j7, j8, j9, j10, j11⟩ := J
  refine ⟨ρ1, j1, j2, j3, by rw [← j8]; exact j4.2.2.1, by rw [← j9]; exact j4.1.1, ⟨j8, j9, j10⟩, fun z => absurd j7 z, j11⟩
theorem P2000_9 {P e : Nat} (h : P ≤ 8000000 ^ e) (he : e ≤ 2000) : P < pB9 1490 := by
  have a : 8000000 ^ e ≤ 8000000 ^ 2000 := Nat.pow_le_pow_right (by decide) he
  have b : 8000000 ^ 2000 < pB9 1490 := by decide +kernel
  exact Nat.lt_of_le_of_lt (Nat.le_trans h a) b
theorem weG_K9 {C : zC} {n0 w b n : Nat} {p : Int32} {κ τ : zS} (W : zW C n0 κ) (T : zT κ w = 14) (Tb : zT κ b = 3) (h : knE κ τ w) (G : weG κ w b p n) : weG τ w b p n := by
  have Zo : zF (objF w) κ τ := h.1.mono (fun f x z => z.1)
  have r := fun f hf h7 => kn_r W T h (f := f) hf h7
  have rR := h.2.1
  have rN := h.2.2
  have ix : zI τ weTotal w = zI κ weTotal w := h.1.i (fun z => absurd z.2 (by decide))
  have e0 := lkD_E (p := p) W T Tb Zo
  have e1 := at_E W T Tb Zo (f := atFirsts) (by decide)
  unfold weG weM weL
  rw [ix, e0, e1.2.1, rR, rN, r weFirsts (by decide) (by decide), r weTargets (by decide) (by decide), r weBackFirsts (by decide) (by decide), r weSources (by decide) (by decide), r weEdges (by decide) (by decide)]
  exact G
theorem nm_uo9 {ρ : Nat → Nat} {κ : zS} {f a r : Nat} (hf : f / 100 = 12) (N : nmI ρ κ) : nmI ρ (uo κ f a r) := by
  have e : ∀ g b, g / 100 ≠ 12 → zR (uo κ f a r) g b = zR κ g b := fun g b h => if_neg (fun z => h (by rw [z.1]; exact hf))
  refine ⟨fun w h => ?_, fun v h => ?_⟩
  · obtain ⟨t, c, i⟩ := N.1 w h
    refine ⟨t, ?_, fun y => ?_⟩
    · unfold nuC
      rw [e nuLimbs _ (by decide)]
      exact c
    · have q := i y
      unfold nuI nuB nuZ at q ⊢
      rw [e nuLimbs _ (by decide)]
      exact q
  · obtain ⟨t, p, q⟩ := N.2 v h
    exact ⟨t, by rw [e raTop _ (by decide)]; exact p, by rw [e raBottom _ (by decide)]; exact q⟩
theorem so_uo9 {ρ : Nat → Nat} {κ : zS} {f a r : Nat} (hf : f = soVisits ∨ f = soWorths) (I : soI ρ κ a) : soI ρ (uo κ f a r) a := by
  have e : ∀ g b, g ≠ soVisits → g ≠ soWorths → zR (uo κ f a r) g b = zR κ g b := fun g b h1 h2 => if_neg (fun z => by
    rcases hf with q | q
    · exact h1 (z.1.trans q)
    · exact h2 (z.1.trans q))
  have n : zN (uo κ f a r) = zN κ := rfl
  unfold soI caN caS
  rw [e soWhole _ (by decide) (by decide), e soFactor _ (by decide) (by decide), e soScaled _ (by decide) (by decide), e soTerm _ (by decide) (by decide), e soSum _ (by decide) (by decide), e soLess _ (by decide) (by decide), e soPart _ (by decide) (by decide), e soCalc _ (by decide) (by decide), e caQuotient _ (by decide) (by decide), e caRest _ (by decide) (by decide), e caDivisor _ (by decide) (by decide), e caX _ (by decide) (by decide), e caY _ (by decide) (by decide), e caFactors _ (by decide) (by decide), e caSpare _ (by decide) (by decide), n]
  exact I
theorem rg_rn9 {C : zC} {n0 a : Nat} {R : Nat → Prop} {ρ : Nat → Nat} {κ κ1 : zS} (W : zW C n0 κ) (Ta : zT κ a = 12) (N : nmI ρ κ) (S : soI ρ κ a) (K : clK9 ρ κ a) (L : (zN κ (zR κ soCells a)) = 0 ∨ (zN κ (zR κ soCells a)) = 1056) (Z : zF (fun f b => f = soRows ∧ b = a) κ κ1) : rgE9 R ρ κ κ1 a ρ := by
  have nc : ¬ (soCells = soRows ∧ a = a) := fun z => absurd z.1 (by decide)
  have q := (Z.row W (f := soCells) (t := 24) (by decide +kernel) (by decide) Ta nc).2.2
  have e := Z.r nc
  refine ⟨fun _ _ => rfl, ⟨nm_x9 W N Z (fun f b z => Or.inr (by rw [z.1]; decide)) (fun _ _ => rfl) (fun w hw hr => absurd hr (nm_no9 W N hw).1) (fun v hv hr => absurd hr (nm_no9 W N hv).2), so_x9 W Ta S Z (fun f b z => Or.inr ⟨by rw [z.1]; decide, by rw [z.1]; decide⟩) (fun _ _ => rfl)⟩, ?_, ⟨?_, zK_z9 W Ta Z (fun b _ z => absurd z.1 (by decide)) (fun z => absurd z.1 (by decide)) (fun z => absurd z.1 (by decide)) (fun z => absurd z.1 (by decide))⟩, Z.mono (fun f b z => Or.inr (Or.inr (Or.inl z)))⟩
  · unfold clK9
    rw [q]
    exact K
  · rw [e, Z.l (ty_soCells W Ta)]
    exact L
theorem zK_w9 {C : zC} {n0 a w : Nat} {κ τ : zS} (W : zW C n0 κ) (Ta : zT κ a = 12) (Tw : zT κ w = 14) (Z : zF (objF w) κ τ) : zK9 κ τ a := by
  have l := (W.2.1 w (by rw [Tw]; decide)).2
  have n : ¬ a = w := fun e => by rw [e, Tw] at Ta; exact absurd Ta (by decide)
  exact zK_z9 W Ta Z (fun b hb z => by
    have e : b = w := z
    omega) n n n
theorem zSum_19 {f : Nat → Nat} : ∀ {n : Nat}, (∀ j, j < n → f j = 1) → zSum n f = n
  | 0, _ => rfl
  | n + 1, h => by
    show zSum n f + f n = n + 1
    rw [zSum_19 (fun j hj => h j (Nat.lt_succ_of_lt hj)), h n (Nat.lt_succ_self n)]
theorem zSum_m9 {f : Nat → Nat} {n : Nat} : ∀ {L : Nat}, n ≤ L → zSum n f ≤ zSum L f
  | 0, h => by
    have e : n = 0 := by omega
    rw [e]
    exact Nat.le_refl _
  | L + 1, h => by
    by_cases e : n = L + 1
    · rw [e]
      exact Nat.le_refl _
    · have q := zSum_m9 (f := f) (n := n) (L := L) (by omega)
      show zSum n f ≤ zSum L f + f L
      omega
theorem zSum_f9 {f g : Nat → Nat} {n : Nat} (h1 : ∀ j, j < n → f j = 1) : ∀ {L : Nat}, n ≤ L → (∀ j, n ≤ j → j < L → f j = g j) → zSum L f + zSum n g = n + zSum L g
  | 0, h, _ => by
    have e : n = 0 := by omega
    rw [e]
    rfl
  | L + 1, h, z => by
    by_cases e : n = L + 1
    · rw [← e, zSum_19 h1]
    · have q := zSum_f9 h1 (L := L) (by omega) (fun j a b => z j a (Nat.lt_succ_of_lt b))
      have y := z L (by omega) (Nat.lt_succ_self L)
      show zSum L f + f L + zSum n g = n + (zSum L g + g L)
      omega
/-- places that were filled, places that are -/
theorem fr_n9 {o r n : Nat} {κ κ1 τ : zS} {m : Int32} (hm : m.toInt = (n : Int)) (H : frW9 κ κ1 o r m) (hl : m.toInt ≤ (zN τ r : Int)) (ho : zN τ o = zN κ o) (hf : ∀ j, j < n → ∃ u, zQ τ r j = some u) (hq : ∀ j, n ≤ j → zQ τ o j = zQ κ o j) : n + nn9 κ o ≤ nn9 τ r + nk9 κ o n := by
  have f1 : ∀ j, j < n → (if zQ τ r j = none then 0 else 1) = 1 := fun j hj => by
    obtain ⟨u, hu⟩ := hf j hj
    rw [hu]
    exact if_neg (fun z => by cases z)
  unfold nn9 nk9
  rcases H with ⟨h1, _, h3⟩ | ⟨_, _, h3⟩
  · rw [h1] at f1 ⊢
    rw [ho, if_pos (by omega)]
    have q := zSum_f9 (f := fun j => if zQ τ o j = none then 0 else 1) (g := fun j => if zQ κ o j = none then 0 else 1) f1 (L := zN κ o) (by omega) (fun j a _ => by
      show (if zQ τ o j = none then 0 else 1) = if zQ κ o j = none then 0 else 1
      rw [hq j a])
    omega
  · rw [if_neg (show ¬ n ≤ zN κ o by omega)]
    have q := zSum_m9 (f := fun j => if zQ τ r j = none then 0 else 1) (n := n) (L := zN τ r) (by omega)
    rw [zSum_19 f1] at q
    omega
/-- fresh, stored: the Solver at rest -/
theorem fr_r9 {C : zC} {n0 a r n : Nat} {ρ : Nat → Nat} {κ τ τ1 : zS} {m : Int32} (W : zW C n0 κ) (Wt : zW C n0 τ) (Wt1 : zW C n0 τ1) (Ta : zT κ a = 12) (S : soR9 ρ κ a) (hm : m.toInt = (n : Int) ∧ n ≤ 1000) (H : frX9 ρ a 100 soVisits κ τ (zR κ soVisits a) r m m.toNatClampNeg (fun _ => True)) (Cc : frC9 κ τ (zR κ soVisits a) m.toNatClampNeg m.toNatClampNeg) (e : τ1 = uo τ soVisits a r) : zF (frF9 ρ κ soVisits a) κ τ1 ∧ zK9 κ τ1 a ∧ ∃ ρ' : Nat → Nat, (∀ x, x < zn κ → ρ' x = ρ x) ∧ soR9 ρ' τ1 a ∧ vsI9 ρ' τ1 a n 1 ∧ n ≤ (zN τ1 (zR τ1 soVisits a)) := by
  have hz : zr soVisits = some 25 := by decide +kernel
  have Z := fr_u9 W Wt Ta (Or.inl rfl) rfl ⟨by omega, by omega⟩ H e
  obtain ⟨κ1, ρ', Hw, R1, ⟨N1, S1⟩, Z1, O1, A1, A2, A3, _⟩ := H
  have To := ty_soVisits W Ta
  have rl : ρ (zR κ soLess a) = 8 := S.1.2.1.2.2.2.2.2.1
  obtain ⟨_, K, L, ⟨v1, v2⟩, ⟨w1, w2⟩, r0, l0⟩ := S
  have lv := fr_l9 W To (m := m) ⟨by omega, by omega⟩ v2 Hw Z1
  have lt : ∀ x, zT κ x ≠ 0 → x < zn κ := fun x h => (W.2.1 x h).2
  have la := lt a (by rw [Ta]; decide)
  have nf : ∀ f, 1200 ≤ f → f ≠ soVisits → ¬ frF9 ρ κ soVisits a f a := fun f h1 h2 z => by
    rcases z with z | z | z | z
    · rcases z with ⟨_, z | z | z⟩ | ⟨_, z | z | z | z⟩ <;> (rw [z] at h1; exact absurd h1 (by decide))
    · exact h2 z.1
    · omega
    · omega
  have row : ∀ f t, zr f = some t → 20 ≤ t → f / 100 = 12 → f ≠ soVisits → zQ τ1 (zR τ1 f a) = zQ κ (zR κ f a) ∧ zN τ1 (zR τ1 f a) = zN κ (zR κ f a) := fun f t h1 h2 h3 h4 => by
    have T9 : zT κ a = f / 100 := by rw [h3]; exact Ta
    refine ⟨(Z.row W h1 h2 T9 (nf f (by omega) h4)).2.2, ?_⟩
    have q := W.r h1 T9
    obtain ⟨c, hc⟩ : ∃ c, t = c + 1 := ⟨t - 1, by omega⟩
    rw [Z.r (nf f (by omega) h4)]
    exact Z.l (c := c) (q.trans hc)
  have rw9 := row soWorths 25 (by decide +kernel) (by decide) (by decide) (by decide)
  have rc := row soCells 24 (by decide +kernel) (by decide) (by decide) (by decide)
  have rr := row soRows 20 (by decide +kernel) (by decide) (by decide) (by decide)
  have ev : zR τ1 soVisits a = r := by rw [e]; exact if_pos ⟨rfl, rfl⟩
  have eq : zQ τ1 r = zQ τ r := by rw [e]; rfl
  have en : zN τ1 r = zN τ r := by rw [e]; rfl
  have ei : zI τ1 = zI τ := by rw [e]; rfl
  have tl := ty_soLess W Ta
  have ll := lt _ (show zT κ (zR κ soLess a) ≠ 0 by rw [tl]; decide)
  have nl : ∀ f, f / 100 = 8 → ¬ frF9 ρ κ soVisits a f (zR κ soLess a) := fun f hf z => by
    rcases z with z | z | z | z
    · rcases z with ⟨z, _⟩ | ⟨_, z | z | z | z⟩
      · rw [rl] at z; omega
      · rw [z] at hf; exact absurd hf (by decide)
      · rw [z] at hf; exact absurd hf (by decide)
      · rw [z] at hf; exact absurd hf (by decide)
      · rw [z] at hf; exact absurd hf (by decide)
    · rw [z.1] at hf; exact absurd hf (by decide)
    · rw [z] at hf; exact absurd hf (by decide)
    · omega
  have kc := cnk (x := m) (by omega)
  have kz : zK9 κ τ1 a := by
    have q := fr_n9 (n := m.toNatClampNeg) (by omega) Hw lv.1 lv.2.2.1 (fun j hj => (A3 j hj).imp (fun u h => h.1)) Cc.2
    have e1 : nn9 τ1 (zR τ1 soVisits a) = nn9 τ r := nn_s9 (by rw [ev, en]) (by rw [ev, eq])
    have e2 : nn9 τ1 (zR τ1 soWorths a) = nn9 κ (zR κ soWorths a) := nn_s9 rw9.2 rw9.1
    have e3 : nn9 τ1 (zR τ1 soCells a) = nn9 κ (zR κ soCells a) := nn_s9 rc.2 rc.1
    have t8 : nT9 8 τ1 = nT9 8 τ := nT_09 (by rw [e]; rfl) (fun b _ => by rw [e]; rfl)
    have t11 : nT9 11 τ1 = nT9 11 τ := nT_09 (by rw [e]; rfl) (fun b _ => by rw [e]; rfl)
    obtain ⟨⟨c11, c8⟩, _⟩ := Cc
    unfold zK9 zV9
    rw [e1, e2, e3, t8, t11]
    exact ⟨by omega, by omega⟩
  refine ⟨Z, kz, ρ', R1, ⟨⟨by rw [e]; exact nm_uo9 (by decide) N1, by rw [e]; exact so_uo9 (Or.inl rfl) S1⟩, fun i u hi hu => ?_, by rw [rc.2]; exact L, ⟨fun j u hj hu => ?_, by rw [ev, en]; exact lv.2.1⟩, ⟨fun j u hj hu => ?_, by rw [rw9.2]; exact w2⟩, by rw [rr.2]; exact r0, ?_⟩, fun k hk => ?_, by rw [ev, en]; omega⟩
  · rw [rc.1] at hu
    have t := W.2.2.2.1 _ _ _ (ty_soCells W Ta) hu
    rw [R1 u (lt u (by rw [t]; decide))]
    exact K i u hi hu
  · rw [ev, eq] at hu
    exact A1 j u hj hu
  · rw [rw9.1] at hu
    have t := W.2.2.2.2.1 _ _ _ (ty_soWorths W Ta) hu
    rw [R1 u (lt u (by rw [t]; decide))]
    exact w1 j u hj hu
  · rw [Z.r (nf soLess (by decide) (by decide)), (nuB_z (c := 0) W tl Z (nl _ (by decide)) (nl _ (by decide))).2.2.1]
    exact l0
  · obtain ⟨u, hu, hz9, _, _⟩ := A3 k (by omega)
    have vu : vU9 τ1 a k = u := by
      unfold vU9
      rw [ev, eq, hu]
      rfl
    rw [vu, ev, eq]
    refine ⟨hu, A1 k u (by omega) hu, fun s => ?_⟩
    rw [ei] at s
    exact absurd hz9 s

end
