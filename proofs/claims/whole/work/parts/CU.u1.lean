section
set_option maxHeartbeats 1600000
/-! the class: numbers and fractions that are made -/
theorem pot_x9 {C : zC} {n0 : Nat} {w : Nat → Nat → Nat} {κ κ6 : zS} (W : zW C n0 κ) (hT : ∀ b, b < zn κ → zT κ6 b = zT κ b) (hN : ∀ b, b < zn κ → zN κ6 b = zN κ b) (hR : ∀ f b, b < zn κ → zR κ6 f b = zR κ f b) : zSum (zn κ) (po w κ6) = pot w κ := by
  refine zSum_eq (fun b hb => ?_)
  unfold po
  rw [hT b hb]
  congr 2
  refine List.map_congr_left (fun g hg => ?_)
  obtain ⟨g1, p, g2, g3⟩ := arF_zr hg
  have h3 := W.r g2 g1.symm
  rw [hR g b hb, hN _ (W.2.1 _ (by omega)).2]
theorem arF_8 : arF 8 = [800] := by decide +kernel
theorem arF_11 : arF 11 = [] := by decide +kernel
/-- how many cells of a type there are; how many places of a row are filled -/
def nT9 (t : Nat) (κ : zS) : Nat := zSum (zn κ) (fun b => if zT κ b = t then 1 else 0)
def nn9 (κ : zS) (x : Nat) : Nat := zSum (zN κ x) (fun i => if zQ κ x i = none then 0 else 1)
theorem zSum_le9 {f g : Nat → Nat} : ∀ {n : Nat}, (∀ i, i < n → f i ≤ g i) → zSum n f ≤ zSum n g
  | 0, _ => Nat.le_refl _
  | n + 1, h => by
    show zSum n f + f n ≤ zSum n g + g n
    have a := zSum_le9 (fun i hi => h i (Nat.lt_succ_of_lt hi))
    have b := h n (Nat.lt_succ_self n)
    omega
theorem zSum_z9 {f : Nat → Nat} {m : Nat} : ∀ {n : Nat}, m ≤ n → (∀ i, m ≤ i → i < n → f i = 0) → zSum n f = zSum m f
  | 0, h, _ => by
    have e : m = 0 := by omega
    rw [e]
  | n + 1, h, z => by
    by_cases e : m = n + 1
    · rw [e]
    · show zSum n f + f n = zSum m f
      rw [z n (by omega) (Nat.lt_succ_self n), zSum_z9 (n := n) (by omega) (fun i h1 h2 => z i h1 (Nat.lt_succ_of_lt h2))]
      rfl
theorem nT_09 {t : Nat} {κ τ : zS} (hn : zn τ = zn κ) (hT : ∀ b, b < zn κ → zT τ b = zT κ b) : nT9 t τ = nT9 t κ := by
  unfold nT9
  rw [hn]
  exact zSum_eq (fun b hb => by rw [hT b hb])
theorem nT_19 {t : Nat} {κ τ : zS} (hn : zn τ = zn κ + 1) (hT : ∀ b, b < zn κ → zT τ b = zT κ b) : nT9 t τ = nT9 t κ + (if zT τ (zn κ) = t then 1 else 0) := by
  unfold nT9
  rw [hn]
  show zSum (zn κ) _ + _ = _
  rw [zSum_eq (f := fun b => if zT τ b = t then 1 else 0) (g := fun b => if zT κ b = t then 1 else 0) (fun b hb => by rw [hT b hb])]
theorem nT_29 {t : Nat} {κ τ : zS} (hn : zn τ = zn κ + 2) (hT : ∀ b, b < zn κ → zT τ b = zT κ b) : nT9 t τ = nT9 t κ + (if zT τ (zn κ) = t then 1 else 0) + (if zT τ (zn κ + 1) = t then 1 else 0) := by
  unfold nT9
  rw [hn]
  show zSum (zn κ) _ + _ + _ = _
  rw [zSum_eq (f := fun b => if zT τ b = t then 1 else 0) (g := fun b => if zT κ b = t then 1 else 0) (fun b hb => by rw [hT b hb])]
/-- one cell's type differs -/
theorem nT_d9 {t a : Nat} {κ τ : zS} (hn : zn τ = zn κ) (ha : a < zn κ) (hT : ∀ b, b ≠ a → zT τ b = zT κ b) : nT9 t τ + (if zT κ a = t then 1 else 0) = nT9 t κ + (if zT τ a = t then 1 else 0) := by
  unfold nT9
  rw [hn]
  exact zSum_one (f := fun b => if zT κ b = t then 1 else 0) (g := fun b => if zT τ b = t then 1 else 0) ha (fun b _ h => by
    show (if zT τ b = t then 1 else 0) = if zT κ b = t then 1 else 0
    rw [hT b h])
/-- a step that makes no object -/
theorem nT_z9 {C : zC} {n0 t : Nat} {F : Nat → Nat → Prop} {κ τ : zS} (W : zW C n0 κ) (Z : zF F κ τ) (h : ∀ b, zn κ ≤ b → ¬ F 0 b) (ht : 3 ≤ t ∧ t < 20) : nT9 t τ ≤ nT9 t κ := by
  have key : ∀ b, zT τ b = t → zT κ b = t := fun b e => by
    rcases Z.2.2.2.1.2 b t ht.1 ht.2 e with q | q
    · exact q
    · exact absurd q.2.1 (h b q.2.2)
  unfold nT9
  rw [zSum_z9 (m := zn κ) Z.2.2.2.2.2.2 (fun b h1 h2 => if_neg (fun e => by
    have l := (W.2.1 b (by rw [key b e]; omega)).2
    omega))]
  refine zSum_le9 (fun b _ => ?_)
  show (if zT τ b = t then 1 else 0) ≤ if zT κ b = t then 1 else 0
  by_cases e : zT τ b = t
  · rw [if_pos e, if_pos (key b e)]
    exact Nat.le_refl _
  · rw [if_neg e]
    exact Nat.zero_le _
theorem nn_s9 {κ τ : zS} {x y : Nat} (hN : zN τ y = zN κ x) (hQ : zQ τ y = zQ κ x) : nn9 τ y = nn9 κ x := by
  unfold nn9
  rw [hN, hQ]
/-- an empty place is filled -/
theorem nn_u9 {κ τ : zS} {x y i u : Nat} (hN : zN τ y = zN κ x) (hi : i < zN κ x) (h0 : zQ κ x i = none) (hQ : zQ τ y = va_up (zQ κ x) i (some u)) : nn9 τ y = nn9 κ x + 1 := by
  unfold nn9
  rw [hN]
  have q := zSum_one (f := fun j => if zQ κ x j = none then 0 else 1) (g := fun j => if zQ τ y j = none then 0 else 1) hi (fun j _ hj => by
    show (if zQ τ y j = none then 0 else 1) = if zQ κ x j = none then 0 else 1
    rw [hQ]
    unfold va_up
    rw [if_neg hj])
  have e1 : (if zQ κ x i = none then 0 else 1 : Nat) = 0 := if_pos h0
  have e2 : (if zQ τ y i = none then 0 else 1 : Nat) = 1 := by
    refine if_neg ?_
    rw [hQ]
    unfold va_up
    rw [if_pos rfl]
    exact fun z => by cases z
  rw [e1, e2] at q
  omega
def zV9 (κ : zS) (s : Nat) : Nat := nn9 κ (zR κ soVisits s) + nn9 κ (zR κ soWorths s)
/-- numbers and fractions that are made go into empty places of the Solver's rows -/
def zK9 (κ τ : zS) (s : Nat) : Prop := nT9 8 τ + (nn9 κ (zR κ soCells s) + 2 * zV9 κ s) ≤ nT9 8 κ + (nn9 τ (zR τ soCells s) + 2 * zV9 τ s) ∧ nT9 11 τ + zV9 κ s ≤ nT9 11 κ + zV9 τ s
theorem zK9.rf {κ : zS} {s : Nat} : zK9 κ κ s := ⟨Nat.le_refl _, Nat.le_refl _⟩
theorem zK9.tr {κ τ σ : zS} {s : Nat} (h : zK9 κ τ s) (g : zK9 τ σ s) : zK9 κ σ s := by
  obtain ⟨a, b⟩ := h
  obtain ⟨c, d⟩ := g
  exact ⟨by omega, by omega⟩
theorem zV_z9 {C : zC} {n0 s : Nat} {F : Nat → Nat → Prop} {κ τ : zS} (W : zW C n0 κ) (Ta : zT κ s = 12) (Z : zF F κ τ) (hv : ¬ F soVisits s) (hw : ¬ F soWorths s) : zV9 τ s = zV9 κ s := by
  unfold zV9
  rw [nn_s9 (τ := τ) (κ := κ) (y := zR τ soVisits s) (x := zR κ soVisits s) (by rw [Z.r hv]; exact Z.l (c := 24) (ty_soVisits W Ta)) (Z.row W (f := soVisits) (t := 25) (by decide +kernel) (by decide) Ta hv).2.2, nn_s9 (τ := τ) (κ := κ) (y := zR τ soWorths s) (x := zR κ soWorths s) (by rw [Z.r hw]; exact Z.l (c := 24) (ty_soWorths W Ta)) (Z.row W (f := soWorths) (t := 25) (by decide +kernel) (by decide) Ta hw).2.2]
theorem nC_z9 {C : zC} {n0 s : Nat} {F : Nat → Nat → Prop} {κ τ : zS} (W : zW C n0 κ) (Ta : zT κ s = 12) (Z : zF F κ τ) (hc : ¬ F soCells s) : nn9 τ (zR τ soCells s) = nn9 κ (zR κ soCells s) :=
  nn_s9 (τ := τ) (κ := κ) (y := zR τ soCells s) (x := zR κ soCells s) (by rw [Z.r hc]; exact Z.l (c := 23) (ty_soCells W Ta)) (Z.row W (f := soCells) (t := 24) (by decide +kernel) (by decide) Ta hc).2.2
theorem zK_g9 {C : zC} {n0 s : Nat} {F : Nat → Nat → Prop} {κ τ : zS} (W : zW C n0 κ) (Ta : zT κ s = 12) (Z : zF F κ τ) (h : ∀ b, zn κ ≤ b → ¬ F 0 b) (hc : nn9 κ (zR κ soCells s) ≤ nn9 τ (zR τ soCells s)) (hv : ¬ F soVisits s) (hw : ¬ F soWorths s) : zK9 κ τ s := by
  have e := zV_z9 W Ta Z hv hw
  have n8 := nT_z9 W Z h (t := 8) (by decide)
  have n11 := nT_z9 W Z h (t := 11) (by decide)
  unfold zK9
  rw [e]
  exact ⟨by omega, by omega⟩
theorem zK_z9 {C : zC} {n0 s : Nat} {F : Nat → Nat → Prop} {κ τ : zS} (W : zW C n0 κ) (Ta : zT κ s = 12) (Z : zF F κ τ) (h : ∀ b, zn κ ≤ b → ¬ F 0 b) (hc : ¬ F soCells s) (hv : ¬ F soVisits s) (hw : ¬ F soWorths s) : zK9 κ τ s := zK_g9 W Ta Z h (Nat.le_of_eq (nC_z9 W Ta Z hc).symm) hv hw
theorem mk_Nu9 {C : zC} {n0 n : Nat} {κ κ1 κ4 κ6 : zS} (W : zW C n0 κ) (e1 : κ1 = noo κ 8) (e4 : κ4 = uo (na κ1 20 n) nuLimbs (zn κ) (zn κ1)) (e6 : κ6 = nff κ4 (zn κ)) : zF (fun _ b => zn κ ≤ b) κ κ6 ∧ (zT κ6 (zn κ) = 8 ∧ zR κ6 nuLimbs (zn κ) = zn κ + 1 ∧ zN κ6 (zn κ + 1) = n ∧ zI κ6 nuLength (zn κ) = 0 ∧ zn κ6 = zn κ + 2 ∧ zT κ6 (zn κ + 1) = 20 ∧ zO κ6 (zn κ + 1) = (nuLimbs, zn κ)) ∧ ∀ b, b < zn κ → zT κ6 b = zT κ b := by
  subst e1
  subst e4
  subst e6
  have n1 : zn (noo κ 8) = zn κ + 1 := rfl
  have hT : ∀ b, b < zn κ → zT (nff (uo (na (noo κ 8) 20 n) nuLimbs (zn κ) (zn (noo κ 8))) (zn κ)) b = zT κ b := fun b hb => by
    show (if b = zn κ then _ else if b = zn κ + 1 then 20 else if b = zn κ then 48 else κ.1 b) = κ.1 b
    rw [if_neg (by omega), if_neg (by omega), if_neg (by omega)]
  have hT0 : zT (nff (uo (na (noo κ 8) 20 n) nuLimbs (zn κ) (zn (noo κ 8))) (zn κ)) (zn κ) = 8 := by
    show (if zn κ = zn κ then (if zn κ = zn κ + 1 then 20 else if zn κ = zn κ then 48 else κ.1 (zn κ)) - 40 else _) = 8
    rw [if_pos rfl, if_neg (by omega), if_pos rfl]
  have hT1 : zT (nff (uo (na (noo κ 8) 20 n) nuLimbs (zn κ) (zn (noo κ 8))) (zn κ)) (zn κ + 1) = 20 := by
    show (if zn κ + 1 = zn κ then _ else if zn κ + 1 = zn κ + 1 then 20 else _) = 20
    rw [if_neg (by omega), if_pos rfl]
  have hN : ∀ b, b < zn κ → zN (nff (uo (na (noo κ 8) 20 n) nuLimbs (zn κ) (zn (noo κ 8))) (zn κ)) b = zN κ b := fun b hb => by
    show (if b = zn κ + 1 then n else if b = zn κ then 0 else κ.2.1 b) = κ.2.1 b
    rw [if_neg (by omega), if_neg (by omega)]
  have hN1 : zN (nff (uo (na (noo κ 8) 20 n) nuLimbs (zn κ) (zn (noo κ 8))) (zn κ)) (zn κ + 1) = n := by
    show (if zn κ + 1 = zn κ + 1 then n else _) = n
    rw [if_pos rfl]
  have hI : ∀ f b, b < zn κ → zI (nff (uo (na (noo κ 8) 20 n) nuLimbs (zn κ) (zn (noo κ 8))) (zn κ)) f b = zI κ f b := fun f b hb => by
    show (if b = zn κ then 0 else κ.2.2.1 f b) = κ.2.2.1 f b
    rw [if_neg (by omega)]
  have hR : ∀ f b, b < zn κ → zR (nff (uo (na (noo κ 8) 20 n) nuLimbs (zn κ) (zn (noo κ 8))) (zn κ)) f b = zR κ f b := fun f b hb => by
    show (if f = nuLimbs ∧ b = zn κ then _ else if b = zn κ then 0 else κ.2.2.2.1 f b) = κ.2.2.2.1 f b
    rw [if_neg (by omega), if_neg (by omega)]
  have hR0 : zR (nff (uo (na (noo κ 8) 20 n) nuLimbs (zn κ) (zn (noo κ 8))) (zn κ)) nuLimbs (zn κ) = zn κ + 1 := if_pos ⟨rfl, rfl⟩
  have hI0 : zI (nff (uo (na (noo κ 8) 20 n) nuLimbs (zn κ) (zn (noo κ 8))) (zn κ)) nuLength (zn κ) = 0 := if_pos rfl
  have lt : ∀ x, zT κ x ≠ 0 → x < zn κ := fun x h => (W.2.1 x h).2
  have rows : ∀ x, x < zn κ → zA (nff (uo (na (noo κ 8) 20 n) nuLimbs (zn κ) (zn (noo κ 8))) (zn κ)) x = zA κ x ∧ zJ (nff (uo (na (noo κ 8) 20 n) nuLimbs (zn κ) (zn (noo κ 8))) (zn κ)) x = zJ κ x ∧ zQ (nff (uo (na (noo κ 8) 20 n) nuLimbs (zn κ) (zn (noo κ 8))) (zn κ)) x = zQ κ x ∧ zO (nff (uo (na (noo κ 8) 20 n) nuLimbs (zn κ) (zn (noo κ 8))) (zn κ)) x = zO κ x := fun x hx => by
    have a : x ≠ zn κ + 1 := by omega
    exact ⟨if_neg a, if_neg a, if_neg a, (if_neg a).trans (if_neg a)⟩
  have pt : ∀ w : Nat → Nat → Nat, w 0 8 = 0 → w 0 20 = 0 → pot w (nff (uo (na (noo κ 8) 20 n) nuLimbs (zn κ) (zn (noo κ 8))) (zn κ)) = pot w κ + w 800 n := fun w w8 w20 => by
    have p0 := pot_x9 (w := w) W hT hN hR
    have q0 : po w (nff (uo (na (noo κ 8) 20 n) nuLimbs (zn κ) (zn (noo κ 8))) (zn κ)) (zn κ) = w 800 n := by
      unfold po
      rw [hT0, arF_8, w8, List.map_cons, List.map_nil, List.sum_cons, List.sum_nil]
      show w 800 (zN _ (zR _ nuLimbs (zn κ))) + 0 + 0 = _
      rw [hR0, hN1]
      rfl
    have q1 : po w (nff (uo (na (noo κ 8) 20 n) nuLimbs (zn κ) (zn (noo κ 8))) (zn κ)) (zn κ + 1) = 0 := by
      unfold po
      rw [hT1, arF_no (Or.inl (by decide)), w20]
      rfl
    show zSum (zn κ) (po w _) + po w _ (zn κ) + po w _ (zn κ + 1) = _
    rw [p0, q0, q1]
    rfl
  refine ⟨⟨fun f b h => ⟨hI f b (by omega), hR f b (by omega)⟩, fun x hx _ => rows x (lt x hx), fun x hx _ => (rows x (lt x hx)).2.2.2, ⟨⟨⟨?_, ?_⟩, fun b hb e => (hT b hb).trans e⟩, fun b t9 h3 h20 e => ?_⟩, fun a c _ h => ?_, fun a h => ?_, ?_⟩, ⟨hT0, hR0, hN1, hI0, rfl, hT1, if_pos rfl⟩, hT⟩
  · rw [pt wS rfl rfl]
    have e : wS 800 n = 3 * n + 2 := rfl
    rw [e]
    show zs κ + 2 + n + _ ≤ _
    omega
  · rw [pt wC rfl rfl]
    have e : wC 800 n = 2 * n + 8 := rfl
    rw [e]
    show 4 * (zc κ + 1 + 1) + _ ≤ _
    omega
  · by_cases z1 : b < zn κ
    · rw [hT b z1] at e
      exact Or.inl e
    · by_cases z2 : b = zn κ
      · rw [z2, hT0] at e
        have l : zn κ ≤ b := by omega
        exact Or.inr ⟨Or.inl e.symm, l, l⟩
      · by_cases z3 : b = zn κ + 1
        · rw [z3, hT1] at e
          omega
        · have q : zT (nff (uo (na (noo κ 8) 20 n) nuLimbs (zn κ) (zn (noo κ 8))) (zn κ)) b = zT κ b := by
            show (if b = zn κ then _ else if b = zn κ + 1 then 20 else if b = zn κ then 48 else κ.1 b) = κ.1 b
            rw [if_neg z2, if_neg z3, if_neg z2]
          rw [q] at e
          exact Or.inl e
  · rw [hT a (lt a (by omega))]; exact h
  · exact ⟨by rw [hT a (lt a h)]; exact h, hN a (lt a h)⟩
  · show zn κ ≤ zn κ + 1 + 1
    omega
/-- a fraction that is made -/
theorem mk_Ra9 {C : zC} {n0 : Nat} {κ κ1 κ5 κ6 : zS} (W : zW C n0 κ) (W1 : zW C n0 κ1) (W5 : zW C n0 κ5) (e1 : κ1 = noo κ 11) (Z : zF (fun _ b => zn κ ≤ b) κ1 κ5) (T5 : zT κ5 (zn κ) = 51) (e6 : κ6 = nff κ5 (zn κ)) : zF (fun _ b => zn κ ≤ b) κ κ6 ∧ zT κ6 (zn κ) = 11 ∧ ∀ b, b ≠ zn κ → zT κ6 b = zT κ5 b := by
  have n1 : zn κ1 = zn κ + 1 := by rw [e1]; rfl
  have t1 : ∀ b, b < zn κ → zT κ1 b = zT κ b := fun b hb => by rw [e1]; exact if_neg (by omega)
  have m1 : ∀ b, b < zn κ → zN κ1 b = zN κ b := fun b hb => by rw [e1]; exact if_neg (by omega)
  have i1 : ∀ f b, b < zn κ → zI κ1 f b = zI κ f b := fun f b hb => by rw [e1]; exact if_neg (by omega)
  have r1 : ∀ f b, b < zn κ → zR κ1 f b = zR κ f b := fun f b hb => by rw [e1]; exact if_neg (by omega)
  have t0 : zT κ1 (zn κ) = 51 := by rw [e1]; exact if_pos rfl
  have lt : ∀ x, zT κ x ≠ 0 → x < zn κ := fun x h => (W.2.1 x h).2
  have o1 : zA κ1 = zA κ ∧ zJ κ1 = zJ κ ∧ zQ κ1 = zQ κ ∧ zO κ1 = zO κ := by rw [e1]; exact ⟨rfl, rfl, rfl, rfl⟩
  have t6 : ∀ b, b ≠ zn κ → zT κ6 b = zT κ5 b := fun b hb => by rw [e6]; exact if_neg hb
  have t60 : zT κ6 (zn κ) = 11 := by
    have q : zT κ6 (zn κ) = zT κ5 (zn κ) - 40 := by rw [e6]; exact if_pos rfl
    rw [q, T5]
  have x6 : κ6.2 = κ5.2 := by rw [e6]; rfl
  have p1 : ∀ w : Nat → Nat → Nat, w 0 51 = 0 → pot w κ1 = pot w κ := fun w hw => by
    have p0 := pot_x9 (w := w) W t1 m1 r1
    unfold pot at p0 ⊢
    rw [n1]
    show zSum (zn κ) (po w κ1) + po w κ1 (zn κ) = _
    rw [p0]
    have q : po w κ1 (zn κ) = 0 := by
      unfold po
      rw [t0, arF_no (Or.inl (by decide)), hw]
      rfl
    rw [q]
    rfl
  have l5 : zn κ < zn κ5 := (W5.2.1 (zn κ) (by rw [T5]; decide)).2
  have p6 : ∀ w : Nat → Nat → Nat, w 0 51 = 0 → pot w κ6 = pot w κ5 + w 0 11 := fun w hw => by
    have z := zSum_one (f := po w κ5) (g := po w κ6) (a := zn κ) (n := zn κ5) l5 (fun b _ hb => by
      unfold po
      rw [t6 b hb, show zN κ6 = zN κ5 by rw [e6]; rfl, show zR κ6 = zR κ5 by rw [e6]; rfl])
    have q5 : po w κ5 (zn κ) = 0 := by
      unfold po
      rw [T5, arF_no (Or.inl (by decide)), hw]
      rfl
    have q6 : po w κ6 (zn κ) = w 0 11 := by
      unfold po
      rw [t60, arF_11]
      exact Nat.zero_add _
    rw [q5, q6] at z
    unfold pot
    rw [show zn κ6 = zn κ5 by rw [e6]; rfl]
    exact z
  obtain ⟨Z1, Z2, Z3, ⟨⟨⟨Z4, Z5⟩, Zz⟩, Zt⟩, Z6, Z7, Z8⟩ := Z
  refine ⟨⟨fun f b h => ?_, fun x hx h => ?_, fun x hx h => ?_, ⟨⟨⟨?_, ?_⟩, fun b hb e => (t6 b (Nat.ne_of_lt hb)).trans (Zz b (by omega) ((t1 b hb).trans e))⟩, fun b t9 h3 h20 e => ?_⟩, fun a c hc h => ?_, fun a h => ?_, ?_⟩, t60, t6⟩
  · have q := Z1 f b h
    rw [i1 f b (by omega), r1 f b (by omega)] at q
    rw [show zI κ6 = zI κ5 by rw [e6]; rfl, show zR κ6 = zR κ5 by rw [e6]; rfl]
    exact q
  · have q := Z2 x (by rw [t1 x (lt x hx)]; exact hx) (by rw [o1.2.2.2]; exact h)
    rw [o1.1, o1.2.1, o1.2.2.1, o1.2.2.2] at q
    rw [show zA κ6 = zA κ5 by rw [e6]; rfl, show zJ κ6 = zJ κ5 by rw [e6]; rfl, show zQ κ6 = zQ κ5 by rw [e6]; rfl, show zO κ6 = zO κ5 by rw [e6]; rfl]
    exact q
  · have q := Z3 x (by rw [t1 x (lt x hx)]; exact hx) (by rw [o1.2.2.2]; exact h)
    rw [o1.2.2.2] at q
    rw [show zO κ6 = zO κ5 by rw [e6]; rfl]
    exact q
  · rw [p1 wS rfl] at Z4
    rw [p6 wS rfl, show zs κ6 = zs κ5 by rw [e6]; rfl, show wS 0 11 = 3 from rfl]
    have s1 : zs κ1 = zs κ + 3 := by rw [e1]; rfl
    omega
  · rw [p1 wC rfl] at Z5
    rw [p6 wC rfl, show zc κ6 = zc κ5 by rw [e6]; rfl, show wC 0 11 = 4 from rfl]
    have s1 : zc κ1 = zc κ + 1 := by rw [e1]; rfl
    omega
  · by_cases z : b = zn κ
    · rw [z, t60] at e
      have l : zn κ ≤ b := by omega
      exact Or.inr ⟨Or.inr e.symm, l, l⟩
    · rw [t6 b z] at e
      rcases Zt b t9 h3 h20 e with q | ⟨q1, q2, q3⟩
      · have w : zT κ1 b = zT κ b := by rw [e1]; exact if_neg z
        rw [w] at q
        exact Or.inl q
      · exact Or.inr ⟨q1, q2, by omega⟩
  · have a1 := lt a (by omega)
    rw [t6 a (by omega)]
    exact Z6 a c hc (by rw [t1 a a1]; exact h)
  · have a1 := lt a h
    rw [t6 a (by omega), show zN κ6 = zN κ5 by rw [e6]; rfl]
    have q := Z7 a (by rw [t1 a a1]; exact h)
    rw [m1 a a1] at q
    exact q
  · rw [show zn κ6 = zn κ5 by rw [e6]; rfl]
    omega
theorem Nu_init_c {C : zC} {n0 : Nat} {a0 : Nat} {a1 : Int32} {κ : zS} {Q : zS → Prop} (W : zW C n0 κ) (Ta0 : zT κ a0 = 48)  (hp : a1.toInt ≤ 10000) (h : ∀ (κ' : zS), (κ' = uo (na κ 20 (if a1 < (2 : Int32) then (2 : Int32) else a1).toNatClampNeg) nuLimbs a0 (zn κ)) → Q κ') : zRun C 1 mNu_init [.ref a0, .int a1] κ (oV Q noX) := by
  refine Nu_init_run W Ta0 ?_
  replace W := W.lo (Nat.le_trans W.1.2.1 W.1.2.2) (Nat.le_refl (zn κ))
  unfold w_Nu_init_0
  refine ⟨?_, ?_⟩
  · unfold nsz
    have t2 : (2 : Int32).toInt = 2 := rfl
    split
    · decide
    · rename_i c
      rw [lti] at c
      have k := cnk (x := a1) (by omega)
      exact ⟨by rw [lei, t0i]; omega, by omega⟩
  intro κ_1 hκ_1
  intro W2
  refine ⟨?_, ?_⟩
  · rw [hκ_1]; exact if_pos rfl  -- b2
  intro κ_3 hκ_3
  intro W4
  refine h _ ?_
  · rw [hκ_3, hκ_1]  -- q3

theorem zRT_8 : ∀ q ∈ zRT, q.1 / 100 = 8 → q = (800, 20) := by decide +kernel
theorem zRT_11 : ∀ q ∈ zRT, q.1 / 100 = 11 → q = (1100, 8) ∨ q = (1101, 8) := by decide +kernel
theorem zZT_n : ∀ f ∈ zZT, f / 100 ≠ 8 ∧ f / 100 ≠ 11 := by decide +kernel
theorem zOk_8 {κ : zS} {w : Nat} (h : zT κ (zR κ nuLimbs w) = 20) (o : zO κ (zR κ nuLimbs w) = (nuLimbs, w)) : zOk κ w 8 := by
  refine ⟨fun f t hf h8 => ?_, fun f hf h8 => absurd h8 (zZT_n f hf).1⟩
  have q := zRT_8 (f, t) (d_lk hf) h8
  have q1 : f = 800 := congrArg Prod.fst q
  have q2 : t = 20 := congrArg Prod.snd q
  subst q1
  subst q2
  exact ⟨h, fun _ => o⟩
theorem zOk_11 {κ : zS} {w : Nat} (h : zT κ (zR κ raTop w) = 8) (h2 : zT κ (zR κ raBottom w) = 8) : zOk κ w 11 := by
  refine ⟨fun f t hf h11 => ?_, fun f hf h8 => absurd h8 (zZT_n f hf).2⟩
  rcases zRT_11 (f, t) (d_lk hf) h11 with q | q
  · have q1 : f = 1100 := congrArg Prod.fst q
    have q2 : t = 8 := congrArg Prod.snd q
    subst q1
    subst q2
    exact ⟨h, fun z => absurd z (by decide)⟩
  · have q1 : f = 1101 := congrArg Prod.fst q
    have q2 : t = 8 := congrArg Prod.snd q
    subst q1
    subst q2
    exact ⟨h2, fun z => absurd z (by decide)⟩
/-- a new number holds 0 -/
theorem nu_new9 {κ : zS} {w n : Nat} (h1 : zN κ (zR κ nuLimbs w) = n) (h2 : zI κ nuLength w = 0) (h3 : 2 ≤ n) : nuI κ w n ∧ nuN κ w = 0 := by
  have e : (zI κ nuLength w).toInt = 0 := by rw [h2]; rfl
  refine ⟨⟨⟨⟨by rw [e]; exact Int.le_refl _, by rw [e]; exact Int.natCast_nonneg _⟩, ⟨by rw [h1]; exact h3, by rw [h1]; exact Nat.le_refl _⟩, fun i hi => by rw [e] at hi; omega⟩, fun z => by rw [e] at z; omega⟩, ?_⟩
  unfold nuN
  rw [h2]
  rfl
theorem mx_9 {x : Int32} (h : x.toInt ≤ 10000) : 2 ≤ (if x < (2 : Int32) then (2 : Int32) else x).toNatClampNeg ∧ ((if x < (2 : Int32) then (2 : Int32) else x).toNatClampNeg ≤ 2 ∨ ((if x < (2 : Int32) then (2 : Int32) else x).toNatClampNeg : Int) ≤ x.toInt) := by
  have t2 : (2 : Int32).toInt = 2 := rfl
  split
  · exact ⟨by decide, Or.inl (by decide)⟩
  · rename_i c
    rw [lti] at c
    have k := cnk (x := x) (by omega)
    exact ⟨by omega, Or.inr (by omega)⟩

end
section
set_option maxHeartbeats 1600000
/-! the class: Ratio's constructor; the Solver's cells -/
theorem Ra_init_c {C : zC} {n0 : Nat} {a0 : Nat} {a1 : Int32} {κ : zS} {Q : zS → Prop} (W : zW C n0 κ) (Ta0 : zT κ a0 = 51)  (hp : a1.toInt ≤ 10000 ∧ a0 < zn κ) (h : ∀ (κ' : zS), (zF (fun _ b => b = a0 ∨ zn κ ≤ b) κ κ' ∧ (zR κ' raTop a0 = zn κ ∧ zR κ' raBottom a0 = zn κ + 2) ∧ (zT κ' (zn κ) = 8 ∧ zT κ' (zn κ + 2) = 8 ∧ zT κ' a0 = 51) ∧ (nuI κ' (zn κ) (if a1 < (2 : Int32) then (2 : Int32) else a1).toNatClampNeg ∧ nuI κ' (zn κ + 2) (if a1 < (2 : Int32) then (2 : Int32) else a1).toNatClampNeg) ∧ (nT9 8 κ' ≤ nT9 8 κ + 2 ∧ nT9 11 κ' ≤ nT9 11 κ)) → Q κ') : zRun C 2 mRa_init [.ref a0, .int a1] κ (oV Q noX) := by
  refine Ra_init_run W Ta0 ?_
  replace W := W.lo (Nat.le_trans W.1.2.1 W.1.2.2) (Nat.le_refl (zn κ))
  unfold w_Ra_init_0
  obtain ⟨p1, p2⟩ := hp
  have mx := mx_9 p1
  intro κ_1 hκ_1
  intro W2
  intro T3
  refine Nu_init_c W2 T3  ?_ (fun κ_4 q5 => ?_)
  · exact p1  -- p1
  intro W6
  intro M7
  have A := mk_Nu9 (κ6 := nff κ_4 (zn κ)) W hκ_1 q5 rfl
  have r4 : zR κ_4 nuLimbs (zn κ) = zn κ_1 := by rw [q5]; exact if_pos ⟨rfl, rfl⟩
  have n1 : zn κ_1 = zn κ + 1 := by rw [hκ_1]; rfl
  refine ⟨?_, ?_⟩
  · refine zOk_8 ?_ ?_
    · rw [r4, q5]
      exact if_pos rfl
    · rw [r4, q5]
      exact if_pos rfl
  intro κ_8 hκ_8
  intro W9
  intro κ_10 hκ_10
  intro W11
  intro κ_12 hκ_12
  intro W13
  intro T14
  refine Nu_init_c W13 T14  ?_ (fun κ_15 q16 => ?_)
  · exact p1  -- p3
  intro W17
  intro M18
  rw [← hκ_8] at A
  obtain ⟨A1, ⟨A2, A3, A4, A5, A6, A7, A8⟩, A9⟩ := A
  have n10 : zn κ_10 = zn κ + 2 := by rw [hκ_10]; exact A6
  have Z10 : zF (fun _ b => b = a0 ∨ zn κ ≤ b) κ κ_10 := (A1.mono (fun _ b z => Or.inr z)).tr (by rw [hκ_10]; exact zF_ur (Or.inl rfl) (show zr raTop = some 8 by decide +kernel) (by decide))
  have B := mk_Nu9 (κ6 := nff κ_15 (zn κ_10)) W11 hκ_12 q16 rfl
  have r15 : zR κ_15 nuLimbs (zn κ_10) = zn κ_12 := by rw [q16]; exact if_pos ⟨rfl, rfl⟩
  refine ⟨?_, ?_⟩
  · refine zOk_8 ?_ ?_
    · rw [r15, q16]
      exact if_pos rfl
    · rw [r15, q16]
      exact if_pos rfl
  intro κ_19 hκ_19
  intro W20
  intro κ_21 hκ_21
  intro W22
  rw [← hκ_19] at B
  obtain ⟨B1, ⟨B2, B3, B4, B5, B6, B7, B8⟩, B9⟩ := B
  have e21 : zR κ_21 raBottom a0 = zn κ_10 := by rw [hκ_21]; exact if_pos ⟨rfl, rfl⟩
  have t21 : ∀ b, zT κ_21 b = zT κ_19 b := fun b => by rw [hκ_21]; rfl
  have Z21 : zF (fun _ b => b = a0 ∨ zn κ ≤ b) κ κ_21 := (Z10.tr (B1.mono (fun _ b z => Or.inr (by omega)))).tr (by rw [hκ_21]; exact zF_ur (Or.inl rfl) (show zr raBottom = some 8 by decide +kernel) (by decide))
  refine ⟨?_, ?_⟩
  · rw [e21, t21]; exact B2  -- b5
  intro T23
  have b21 := nu_new9 (κ := κ_21) (w := zn κ_10) (n := (if a1 < (2 : Int32) then (2 : Int32) else a1).toNatClampNeg) (by
    have q : zR κ_21 nuLimbs (zn κ_10) = zn κ_10 + 1 := by rw [hκ_21]; exact B3
    rw [q, hκ_21]
    exact B4) (by rw [hκ_21]; exact B5) mx.1
  refine Nu_put_c W22 T23 (if a1 < (2 : Int32) then (2 : Int32) else a1).toNatClampNeg ?_ (fun κ_24 q25 => ?_)
  · rw [e21]
    exact ⟨by decide, b21.1.1.2.1⟩
  intro W26
  intro M27
  refine h _ ?_
  · rw [e21] at q25
    obtain ⟨Fp, ⟨Rp, Np⟩, Ip, Vp⟩ := q25
    have n21 : zn κ_21 = zn κ + 4 := by rw [hκ_21]; show zn κ_19 = _; rw [B6, n10]
    have Zf : zF (fun _ b => b = a0 ∨ zn κ ≤ b) κ κ_24 := Z21.tr (Fp.mono (fun f b z => Or.inr (by rw [z.1, n10]; omega)))
    have ta21 : zT κ_21 a0 = 51 := by
      rw [t21, B9 a0 (by omega), hκ_10]
      show zT κ_8 a0 = 51
      rw [A9 a0 p2]
      exact Ta0
    have l8 : nuI κ_24 (zn κ) (if a1 < (2 : Int32) then (2 : Int32) else a1).toNatClampNeg := by
      have i8 := nu_new9 (κ := κ_8) (w := zn κ) (n := (if a1 < (2 : Int32) then (2 : Int32) else a1).toNatClampNeg) (by rw [A3]; exact A4) A5 mx.1
      have t10 : zT κ_10 (zn κ) = 8 := by rw [hκ_10]; exact A2
      have i10 : nuI κ_10 (zn κ) (if a1 < (2 : Int32) then (2 : Int32) else a1).toNatClampNeg := by
        have z : zF (fun f b => f = raTop) κ_8 κ_10 := by rw [hκ_10]; exact zF_ur rfl (show zr raTop = some 8 by decide +kernel) (by decide)
        exact (nuB_z W9 A2 z (by decide) (by decide)).2.1 i8.1
      have i19 := (nuB_z (c := (if a1 < (2 : Int32) then (2 : Int32) else a1).toNatClampNeg) W11 t10 B1 (by omega) (by omega)).2.1 i10
      have t19 : zT κ_19 (zn κ) = 8 := by rw [B9 _ (by omega)]; exact t10
      have i21 : nuI κ_21 (zn κ) (if a1 < (2 : Int32) then (2 : Int32) else a1).toNatClampNeg := by
        have z : zF (fun f b => f = raBottom) κ_19 κ_21 := by rw [hκ_21]; exact zF_ur rfl (show zr raBottom = some 8 by decide +kernel) (by decide)
        exact (nuB_z W20 t19 z (by decide) (by decide)).2.1 i19
      exact (nuB_z W22 (by rw [t21]; exact t19) Fp (fun z => by have := z.1; omega) (fun z => by have := z.1; omega)).2.1 i21
    have c8 : ∀ t, nT9 t κ_8 = nT9 t κ + (if 8 = t then 1 else 0) + (if 20 = t then 1 else 0) := fun t => by
      have q := nT_29 (t := t) (κ := κ) (τ := κ_8) A6 A9
      rw [A2, A7] at q
      exact q
    have c10 : ∀ t, nT9 t κ_10 = nT9 t κ_8 := fun t => nT_09 (by rw [hκ_10]; rfl) (fun b _ => by rw [hκ_10]; rfl)
    have c19 : ∀ t, nT9 t κ_19 = nT9 t κ_10 + (if 8 = t then 1 else 0) + (if 20 = t then 1 else 0) := fun t => by
      have q := nT_29 (t := t) (κ := κ_10) (τ := κ_19) B6 B9
      rw [B2, B7] at q
      exact q
    have c21 : ∀ t, nT9 t κ_21 = nT9 t κ_19 := fun t => nT_09 (by rw [hκ_21]; rfl) (fun b _ => by rw [hκ_21]; rfl)
    have c24 : ∀ t, 3 ≤ t ∧ t < 20 → nT9 t κ_24 ≤ nT9 t κ_21 := fun t ht => nT_z9 W22 Fp (fun b _ z => by rcases z.2 with q | q <;> exact absurd q (by decide)) ht
    have d8 := c24 8 (by decide)
    have d11 := c24 11 (by decide)
    rw [c21, c19, c10, c8] at d8 d11
    simp at d8 d11
    refine ⟨Zf, ⟨?_, ?_⟩, ⟨?_, ?_, ?_⟩, ⟨l8, by rw [← n10]; exact Ip⟩, by omega, by omega⟩
    · rw [Rp, hκ_21]
      show zR κ_19 raTop a0 = zn κ
      rw [B1.r (show ¬ zn κ_10 ≤ a0 by omega), hκ_10]
      exact if_pos ⟨rfl, rfl⟩
    · rw [Rp, e21, n10]
    · refine Fp.t ?_ (by decide)
      rw [t21, B9 _ (by omega), hκ_10]
      exact A2
    · rw [← n10]
      refine Fp.t ?_ (by decide)
      rw [t21]; exact B2
    · exact M27.1 a0 50 (Or.inl (by omega)) ta21

end
section
set_option maxHeartbeats 1600000
/-! the class: the Solver's cells -/
/-- numbers stay in order where new ones come -/
theorem nm_x9 {C : zC} {n0 : Nat} {ρ ρ' : Nat → Nat} {F : Nat → Nat → Prop} {κ τ : zS} (W : zW C n0 κ) (N : nmI ρ κ) (Z : zF F κ τ) (hF : ∀ f b, F f b → zn κ ≤ b ∨ f / 100 = 12) (hr : ∀ b, b < zn κ → ρ' b = ρ b) (h1 : ∀ w, zn κ ≤ w → nmR (ρ' w) → zT τ w = 8 ∧ nuC τ w (capR (ρ' w)) ∧ (ρ' w ≠ 10 → nuI τ w (capR (ρ' w)))) (h2 : ∀ v, zn κ ≤ v → raR (ρ' v) → zT τ v = 11 ∧ ρ' (zR τ raTop v) = ρ' v + 1 ∧ ρ' (zR τ raBottom v) = ρ' v + 2) : nmI ρ' τ := by
  have lt : ∀ x, zT κ x ≠ 0 → x < zn κ := fun x h => (W.2.1 x h).2
  have nf : ∀ f b, b < zn κ → f / 100 ≠ 12 → ¬ F f b := fun f b hb hf z => by
    rcases hF f b z with q | q
    · omega
    · exact hf q
  refine ⟨fun w h => ?_, fun v h => ?_⟩
  · by_cases l : w < zn κ
    · rw [hr w l] at h ⊢
      obtain ⟨t, c, i⟩ := N.1 w h
      have u := nu_z W t Z (nf _ _ l (by decide)) (nf _ _ l (by decide))
      refine ⟨Z.t t (by decide), ?_, fun y => (nuB_z (c := capR (ρ w)) W t Z (nf _ _ l (by decide)) (nf _ _ l (by decide))).2.1 (i y)⟩
      unfold nuC
      rw [u.2.1, u.2.2.2]
      exact c
    · exact h1 w (by omega) h
  · by_cases l : v < zn κ
    · rw [hr v l] at h ⊢
      obtain ⟨t, p, q⟩ := N.2 v h
      have a1 := ty_raTop W t
      have a2 := ty_raBottom W t
      refine ⟨Z.t t (by decide), ?_, ?_⟩
      · rw [Z.r (nf _ _ l (by decide)), hr _ (lt _ (by rw [a1]; decide))]; exact p
      · rw [Z.r (nf _ _ l (by decide)), hr _ (lt _ (by rw [a2]; decide))]; exact q
    · exact h2 v (by omega) h
/-- no roles for what isn't there -/
theorem nm_no9 {C : zC} {n0 b : Nat} {ρ : Nat → Nat} {κ : zS} (W : zW C n0 κ) (N : nmI ρ κ) (h : zn κ ≤ b) : ¬ nmR (ρ b) ∧ ¬ raR (ρ b) := by
  refine ⟨fun z => ?_, fun z => ?_⟩
  · have t := (N.1 b z).1
    have l := (W.2.1 b (by rw [t]; decide)).2
    omega
  · have t := (N.2 b z).1
    have l := (W.2.1 b (by rw [t]; decide)).2
    omega
theorem so_x9 {C : zC} {n0 a : Nat} {ρ ρ' : Nat → Nat} {F : Nat → Nat → Prop} {κ τ : zS} (W : zW C n0 κ) (Ta : zT κ a = 12) (I : soI ρ κ a) (Z : zF F κ τ) (hF : ∀ f b, F f b → zn κ ≤ b ∨ (f / 100 = 12 ∧ 1214 ≤ f)) (hr : ∀ b, b < zn κ → ρ' b = ρ b) : soI ρ' τ a := by
  have lt : ∀ x, zT κ x ≠ 0 → x < zn κ := fun x h => (W.2.1 x h).2
  have l0 := lt a (by rw [Ta]; decide)
  have tc := ty_soCalc W Ta
  have lc := lt _ (show zT κ (zR κ soCalc a) ≠ 0 by rw [tc]; decide)
  have nf : ∀ f b, b < zn κ → f / 100 ≠ 12 ∨ f < 1214 → ¬ F f b := fun f b hb hf z => by
    rcases hF f b z with q | q
    · omega
    · rcases hf with r | r
      · exact r q.1
      · omega
  have e : ∀ f, f < 1214 → zR τ f a = zR κ f a := fun f hf => Z.r (nf f a l0 (Or.inr hf))
  have ec : ∀ f, f / 100 = 4 → zR τ f (zR κ soCalc a) = zR κ f (zR κ soCalc a) := fun f hf => Z.r (nf f _ lc (Or.inl (by omega)))
  have tf := ty_caFactors W tc
  have nq := Z.l tf
  obtain ⟨⟨i1, i2, i3, i4, i5, i6, i7⟩, ⟨i8, i9⟩, i10, i11⟩ := I
  have r8 : ∀ x, zT κ x = 8 → ρ' x = ρ x := fun x h => hr x (lt x (by rw [h]; decide))
  have r11 : ∀ x, zT κ x = 11 → ρ' x = ρ x := fun x h => hr x (lt x (by rw [h]; decide))
  unfold soI caN caS
  rw [e soWhole (by decide), e soFactor (by decide), e soScaled (by decide), e soTerm (by decide), e soSum (by decide), e soLess (by decide), e soPart (by decide), e soCalc (by decide), ec caQuotient (by decide), ec caRest (by decide), ec caDivisor (by decide), ec caX (by decide), ec caY (by decide), ec caFactors (by decide), ec caSpare (by decide), nq, r8 _ (ty_soWhole W Ta), r8 _ (ty_soFactor W Ta), r8 _ (ty_soScaled W Ta), r8 _ (ty_soTerm W Ta), r8 _ (ty_soSum W Ta), r8 _ (ty_soLess W Ta), r11 _ (ty_soPart W Ta), r8 _ (ty_caSpare W tc)]
  refine ⟨⟨i1, i2, i3, i4, i5, i6, i7⟩, ⟨i8, i9⟩, fun b hb => ?_, i11⟩
  have q := i10 b hb
  have tb : zT κ b = 8 := by
    rcases hb with h | h | h | h | h <;> rw [h]
    · exact ty_caQuotient W tc
    · exact ty_caRest W tc
    · exact ty_caDivisor W tc
    · exact ty_caX W tc
    · exact ty_caY W tc
  rw [r8 b tb]
  exact q
/-- a cell's number -/
def cU9 (κ : zS) (a i j : Nat) : Nat := (zQ κ (zR κ soCells a) (33 * i + j)).getD 0
def clK9 (ρ : Nat → Nat) (κ : zS) (a : Nat) : Prop := ∀ i u, i < 1056 → zQ κ (zR κ soCells a) i = some u → ρ u = 1000000 + i
def cF9 (m a : Nat) : Nat → Nat → Prop := fun f b => (f = soCells ∧ b = a) ∨ m ≤ b
theorem ix_9 {x y : Int32} (h1 : 0 ≤ x.toInt ∧ x.toInt < 32) (h2 : 0 ≤ y.toInt ∧ y.toInt ≤ 32) : (x * 33 + y).toInt = 33 * (x.toNatClampNeg : Int) + y.toNatClampNeg ∧ (x * 33 + y).toNatClampNeg = 33 * x.toNatClampNeg + y.toNatClampNeg := by
  have t : (33 : Int32).toInt = 33 := rfl
  have k1 := cnk h1.1
  have k2 := cnk h2.1
  have m : (x * 33).toInt = x.toInt * 33 := by
    have q := mul_i (x := x) (y := 33) (by rw [t]; omega) (by rw [t]; omega)
    rw [t] at q
    exact q
  have s : (x * 33 + y).toInt = x.toInt * 33 + y.toInt := by
    have q := add_i (x := x * 33) (y := y) (by rw [m]; omega) (by rw [m]; omega)
    rw [m] at q
    exact q
  have k3 := cnk (x := x * 33 + y) (by omega)
  exact ⟨by omega, by omega⟩
theorem So_cell_c2 {C : zC} {n0 : Nat} {a0 : Nat} {a1 : Int32} {a2 : Int32} {κ : zS} {Q : Nat → zS → Prop} (W : zW C n0 κ) (Ta0 : zT κ a0 = 12) (hp : (zN κ (zR κ soCells a0)) = 1056 ∧ (0 ≤ a1.toInt ∧ a1.toInt < 32) ∧ (0 ≤ a2.toInt ∧ a2.toInt ≤ 32) ∧ zQ κ (zR κ soCells a0) (33 * a1.toNatClampNeg + a2.toNatClampNeg) = some (cU9 κ a0 a1.toNatClampNeg a2.toNatClampNeg)) (h : ∀ (v : Nat), (v = cU9 κ a0 a1.toNatClampNeg a2.toNatClampNeg) → Q v κ) : zRun C 2 mSo_cell [.ref a0, .int a1, .int a2] κ (oR 8 Q noX) := by
  refine So_cell_run W Ta0 ?_
  replace W := W.lo (Nat.le_trans W.1.2.1 W.1.2.2) (Nat.le_refl (zn κ))
  unfold w_So_cell_0
  obtain ⟨hl, p1, p2, hu⟩ := hp
  have ix := ix_9 p1 p2
  have k1 := cnk p1.1
  have k2 := cnk p2.1
  refine ⟨fun _ => ?_, fun c => absurd c (by rw [hl]; decide)⟩
  unfold w_So_cell_18
  intro x hx
  rw [← hx] at ix
  have ib : inb x (zN κ (zR κ soCells a0)) := by rw [inb_iff]; omega
  refine ⟨ib, fun u2 h2 => ?_, fun h2 => ?_⟩
  · unfold w_So_cell_49
    exact ⟨ib, _, by rw [ix.2]; exact hu, h _ rfl⟩
  · rw [ix.2, hu] at h2
    cases h2
/-- old cells stay -/
def clO9 (κ τ : zS) (a : Nat) : Prop := (zN κ (zR κ soCells a)) = 1056 → zR τ soCells a = zR κ soCells a ∧ ∀ i u, zQ κ (zR κ soCells a) i = some u → zQ τ (zR κ soCells a) i = some u
theorem So_cell_c {C : zC} {n0 : Nat} {a0 : Nat} {a1 : Int32} {a2 : Int32} {κ : zS} {Q : Nat → zS → Prop} (W : zW C n0 κ) (Ta0 : zT κ a0 = 12) (ρ : Nat → Nat) (hp : (nmI ρ κ ∧ soI ρ κ a0) ∧ clK9 ρ κ a0 ∧ ((zN κ (zR κ soCells a0)) = 0 ∨ (zN κ (zR κ soCells a0)) = 1056) ∧ (0 ≤ a1.toInt ∧ a1.toInt < 32) ∧ (0 ≤ a2.toInt ∧ a2.toInt ≤ 32)) (h : ∀ (v : Nat) (κ' : zS), ((zF (cF9 (zn κ) a0) κ κ' ∧ zK9 κ κ' a0) ∧ (∃ ρ' : Nat → Nat, (∀ b, b < zn κ → ρ' b = ρ b) ∧ (nmI ρ' κ' ∧ soI ρ' κ' a0) ∧ clK9 ρ' κ' a0) ∧ (zN κ' (zR κ' soCells a0)) = 1056 ∧ zQ κ' (zR κ' soCells a0) (33 * a1.toNatClampNeg + a2.toNatClampNeg) = some v ∧ clO9 κ κ' a0) → Q v κ') : zRun C 2 mSo_cell [.ref a0, .int a1, .int a2] κ (oR 8 Q noX) := by
  refine So_cell_run W Ta0 ?_
  replace W := W.lo (Nat.le_trans W.1.2.1 W.1.2.2) (Nat.le_refl (zn κ))
  unfold w_So_cell_0
  obtain ⟨⟨N0, S0⟩, K0, L0, p1, p2⟩ := hp
  have ix := ix_9 p1 p2
  have k1 := cnk p1.1
  have k2 := cnk p2.1
  have hj49 : ∀ (l0 : Nat) (l3 : Int32) (τ : zS), zW C (zn κ) τ → zT τ l0 = 12 → (a0 = l0 ∧ (zF (cF9 (zn κ) a0) κ τ ∧ zK9 κ τ a0) ∧ (∃ ρ' : Nat → Nat, (∀ b, b < zn κ → ρ' b = ρ b) ∧ (nmI ρ' τ ∧ soI ρ' τ a0) ∧ clK9 ρ' τ a0) ∧ (zN τ (zR τ soCells a0)) = 1056 ∧ (∃ u, zQ τ (zR τ soCells a0) (33 * a1.toNatClampNeg + a2.toNatClampNeg) = some u) ∧ clO9 κ τ a0 ∧ l3.toInt = 33 * (a1.toNatClampNeg : Int) + a2.toNatClampNeg ∧ l3.toNatClampNeg = 33 * a1.toNatClampNeg + a2.toNatClampNeg) → w_So_cell_49 C (zn κ) Q  l0 l3 τ := by
    rintro _ y49_3 τ49 W49 T49_0 ⟨rfl, j49⟩
    unfold w_So_cell_49
    obtain ⟨Zj, Ej, Lj, ⟨u9, Uj⟩, Oj, i3, i4⟩ := j49
    refine ⟨?_, ?_⟩
    · rw [inb_iff]; omega  -- b1
    refine ex_some ?_ (fun u1 hu1 => ?_)
    · exact ⟨u9, by rw [i4]; exact Uj⟩  -- e2
    refine h _ _ ?_
    · rw [i4] at hu1
      exact ⟨Zj, Ej, Lj, hu1, Oj⟩
  have hj18 : ∀ (l0 : Nat) (l1 : Int32) (l2 : Int32) (τ : zS), zW C (zn κ) τ → zT τ l0 = 12 → (a0 = l0 ∧ a1 = l1 ∧ a2 = l2 ∧ (zF (cF9 (zn κ) a0) κ τ ∧ zK9 κ τ a0) ∧ (nmI ρ τ ∧ soI ρ τ a0) ∧ clK9 ρ τ a0 ∧ (zN τ (zR τ soCells a0)) = 1056 ∧ clO9 κ τ a0) → w_So_cell_18 C (zn κ) Q  l0 l1 l2 τ := by
    rintro _ _ _ τ18 W18 T18_0 ⟨rfl, rfl, rfl, j18⟩
    unfold w_So_cell_18
    intro x2 hx2
    obtain ⟨⟨Zj, Zk⟩, ⟨Nj, Sj⟩, Kj, Lj, Oj⟩ := j18
    rw [← hx2] at ix
    refine ⟨?_, ?_⟩
    · rw [inb_iff]; omega  -- b4
    refine ⟨fun uc3 c3 => ?_, fun c3 => ?_⟩
    · skip
      refine hj49 _ _ _ W18 ?_ ?_
      · exact T18_0  -- t5
      · exact ⟨rfl, ⟨Zj, Zk⟩, ⟨ρ, fun _ _ => rfl, ⟨Nj, Sj⟩, Kj⟩, Lj, ⟨uc3, by rw [← ix.2]; exact c3⟩, Oj, ix.1, ix.2⟩  -- k6
    · skip
      intro κ_4 hκ_4
      intro W5
      intro T6
      refine Nu_init_c W5 T6  ?_ (fun κ_7 q8 => ?_)
      · decide  -- p7
      intro W9
      intro M10
      have n25 : (if (25 : Int32) < (2 : Int32) then (2 : Int32) else 25).toNatClampNeg = 25 := by decide
      rw [n25] at q8
      have A := mk_Nu9 (κ6 := nff κ_7 (zn τ18)) W18 hκ_4 q8 rfl
      have r7 : zR κ_7 nuLimbs (zn τ18) = zn κ_4 := by rw [q8]; exact if_pos ⟨rfl, rfl⟩
      refine ⟨?_, ?_⟩
      · refine zOk_8 ?_ ?_
        · rw [r7, q8]
          exact if_pos rfl
        · rw [r7, q8]
          exact if_pos rfl
      intro κ_11 hκ_11
      intro W12
      rw [← hκ_11] at A
      obtain ⟨A1, ⟨A2, A3, A4, A5, A6, A7, A8⟩, A9⟩ := A
      have tr := ty_soCells W18 T18_0
      have lr := (W18.2.1 _ (show zT τ18 (zR τ18 soCells a0) ≠ 0 by rw [tr]; decide)).2
      have l0 := (W18.2.1 a0 (by rw [T18_0]; decide)).2
      have m18 := Zj.2.2.2.2.2.2
      have e11 : zR κ_11 soCells a0 = zR τ18 soCells a0 := A1.r (show ¬ zn τ18 ≤ a0 by omega)
      refine ⟨?_, ?_⟩
      · rw [inb_iff, A1.l (c := 23) tr]; omega  -- b9
      intro κ_13 hκ_13
      intro W14
      have o11 : zO κ_11 (zR τ18 soCells a0) = (soCells, a0) := by
        have q := (A1.2.2.1 (zR τ18 soCells a0) (by rw [tr]; decide) (by rw [W18.o (show zr soCells = some 24 by decide +kernel) (by decide) T18_0]; exact fun z => absurd (show soCells = 0 from congrArg Prod.fst z) (by decide)))
        rw [q]
        exact W18.o (show zr soCells = some 24 by decide +kernel) (by decide) T18_0
      have q11 : zQ κ_11 (zR τ18 soCells a0) = zQ τ18 (zR τ18 soCells a0) := (A1.2.1 (zR τ18 soCells a0) (by rw [tr]; decide) (by rw [W18.o (show zr soCells = some 24 by decide +kernel) (by decide) T18_0]; show ¬ zn τ18 ≤ a0; omega)).2.2.1
      have Zq : zF (fun f b => (f = soCells ∧ b = a0) ∨ zn τ18 ≤ b) τ18 κ_13 := (A1.mono (fun _ _ z => Or.inr z)).tr (by rw [hκ_13]; exact zF_uq (by rw [o11]; exact Or.inl ⟨rfl, rfl⟩))
      have Zt : zF (cF9 (zn κ) a0) κ κ_13 := Zj.tr (Zq.mono (fun f b z => by
        rcases z with z | z
        · exact Or.inl z
        · exact Or.inr (by omega)))
      have e13 : zR κ_13 = zR κ_11 := by rw [hκ_13]; rfl
      have ec13 : zR κ_13 soCells a0 = zR τ18 soCells a0 := by rw [e13]; exact e11
      have q13 : zQ κ_13 (zR τ18 soCells a0) = va_up (zQ τ18 (zR τ18 soCells a0)) x2.toNatClampNeg (some (zn τ18)) := by
        rw [hκ_13, ← q11]
        exact if_pos rfl
      have lx : x2.toNatClampNeg < 1056 := by omega
      have Kz : zK9 τ18 κ_13 a0 := by
        have c11 : ∀ t, nT9 t κ_11 = nT9 t τ18 + (if 8 = t then 1 else 0) + (if 20 = t then 1 else 0) := fun t => by
          have q := nT_29 (t := t) (κ := τ18) (τ := κ_11) A6 A9
          rw [A2, A7] at q
          exact q
        have c13 : ∀ t, nT9 t κ_13 = nT9 t κ_11 := fun t => nT_09 (by rw [hκ_13]; rfl) (fun b _ => by rw [hκ_13]; rfl)
        have cv := zV_z9 W18 T18_0 Zq (fun z => by
          rcases z with z | z
          · exact absurd z.1 (by decide)
          · omega) (fun z => by
          rcases z with z | z
          · exact absurd z.1 (by decide)
          · omega)
        have cn := nn_u9 (κ := τ18) (τ := κ_13) (x := zR τ18 soCells a0) (y := zR κ_13 soCells a0) (i := x2.toNatClampNeg) (u := zn τ18) (by rw [ec13]; exact Zq.l (c := 23) tr) (by rw [Lj]; exact lx) c3 (by rw [ec13]; exact q13)
        have d8 := c13 8
        have d11 := c13 11
        rw [c11] at d8 d11
        simp at d8 d11
        unfold zK9
        rw [cv, cn]
        exact ⟨by omega, by omega⟩
      have N13 : nmI (fun b => if b = zn τ18 then 1000000 + x2.toNatClampNeg else ρ b) κ_13 := by
        refine nm_x9 W18 Nj Zq (fun f b z => ?_) (fun b hb => if_neg (by omega)) (fun w hw hr => ?_) (fun v hv hr => ?_)
        · rcases z with z | z
          · rw [z.1]; exact Or.inr (by decide)
          · exact Or.inl z
        · by_cases e : w = zn τ18
          · rw [if_pos e] at hr ⊢
            have nw := nu_new9 (κ := κ_13) (w := w) (n := 25) (by rw [e, e13, A3, hκ_13]; exact A4) (by rw [e, hκ_13]; exact A5) (by decide)
            have cp : 25 ≤ capR (1000000 + x2.toNatClampNeg) := by
              unfold capR
              rw [if_neg (by omega), if_neg (by omega), if_pos (by omega)]
              split <;> decide
            have nm := nuI_mono cp nw.1
            exact ⟨by rw [e, hκ_13]; exact A2, nm.1.2.1, fun _ => nm⟩
          · rw [if_neg e] at hr
            exact absurd hr (nm_no9 W18 Nj hw).1
        · by_cases e : v = zn τ18
          · rw [if_pos e] at hr
            rcases hr with z | z | z <;> omega
          · rw [if_neg e] at hr
            exact absurd hr (nm_no9 W18 Nj hv).2
      have S13 : soI (fun b => if b = zn τ18 then 1000000 + x2.toNatClampNeg else ρ b) κ_13 a0 := by
        refine so_x9 W18 T18_0 Sj Zq (fun f b z => ?_) (fun b hb => if_neg (by omega))
        rcases z with z | z
        · rw [z.1]; exact Or.inr ⟨by decide, by decide⟩
        · exact Or.inl z
      refine hj49 _ _ _ W14 ?_ ?_
      · exact Zq.t T18_0 (by decide)  -- t10
      · refine ⟨rfl, ⟨Zt, Zk.tr Kz⟩, ⟨fun b => if b = zn τ18 then 1000000 + x2.toNatClampNeg else ρ b, fun b hb => if_neg (by omega), ⟨N13, S13⟩, fun i u hi hu => ?_⟩, ?_, ⟨zn τ18, ?_⟩, fun h56 => ?_, ix.1, ix.2⟩
        · rw [ec13, q13] at hu
          unfold va_up at hu
          show (if u = zn τ18 then 1000000 + x2.toNatClampNeg else ρ u) = 1000000 + i
          by_cases e : i = x2.toNatClampNeg
          · rw [if_pos e] at hu
            rw [if_pos (Option.some.inj hu).symm, e]
          · rw [if_neg e] at hu
            have tu := W18.2.2.2.1 _ _ _ tr hu
            have lu := (W18.2.1 u (by rw [tu]; decide)).2
            rw [if_neg (by omega)]
            exact Kj i u hi hu
        · rw [ec13, hκ_13]
          show zN κ_11 _ = 1056
          rw [A1.l (c := 23) tr]
          exact Lj
        · rw [ec13, q13, ← ix.2]
          exact if_pos rfl
        · have o := Oj h56
          refine ⟨by rw [ec13]; exact o.1, fun i u hu => ?_⟩
          have q := o.2 i u hu
          rw [← o.1, q13]
          unfold va_up
          by_cases e : i = x2.toNatClampNeg
          · rw [o.1, ← e, q] at c3
            cases c3
          · rw [if_neg e, o.1]
            exact q
  refine ⟨fun c15 => ?_, fun c15 => ?_⟩
  · skip
    refine hj18 _ _ _ _ W ?_ ?_
    · exact Ta0  -- t12
    · have L1 : (zN κ (zR κ soCells a0)) = 1056 := by
        rcases L0 with z | z
        · exact absurd (by rw [z]; rfl) c15
        · exact z
      exact ⟨rfl, rfl, rfl, ⟨zF.rf, zK9.rf⟩, ⟨N0, S0⟩, K0, L1, fun _ => ⟨rfl, fun _ _ z => z⟩⟩
  · skip
    refine ⟨?_, ?_⟩
    · exact ⟨by decide, by decide⟩  -- b14
    intro κ_16 hκ_16
    intro W17
    refine ⟨?_, ?_⟩
    · rw [hκ_16]; exact if_pos rfl  -- b15
    intro κ_18 hκ_18
    intro W19
    have L1 : (zN κ (zR κ soCells a0)) = 0 := by
      rcases L0 with z | z
      · exact z
      · exact absurd c15 (by rw [z]; decide)
    have n56 : (1056 : Int32).toNatClampNeg = 1056 := by decide
    rw [n56] at hκ_16
    have G := we_gr (f := soCells) (c := a0) W (show zr soCells = some 24 by decide +kernel) (by decide) Ta0 hκ_16 hκ_18 (by rw [L1]; decide) (by rw [L1]; decide)
    have Zg : zF (cF9 (zn κ) a0) κ κ_18 := G.1.mono (fun f b z => Or.inl z)
    refine hj18 _ _ _ _ W19 ?_ ?_
    · exact G.1.t Ta0 (by decide)  -- t16
    · refine ⟨rfl, rfl, rfl, ⟨Zg, zK_g9 W Ta0 G.1 (fun b _ z => absurd z.1 (by decide)) (by unfold nn9; rw [L1]; exact Nat.zero_le _) (fun z => absurd z.1 (by decide)) (fun z => absurd z.1 (by decide))⟩, ⟨?_, ?_⟩, fun i u hi hu => ?_, by rw [G.2.2.2.1]; exact G.2.2.2.2.1, fun z => by rw [L1] at z; exact absurd z (by decide)⟩
      · refine nm_x9 W N0 Zg (fun f b z => ?_) (fun b hb => rfl) (fun w hw hr => absurd hr (nm_no9 W N0 hw).1) (fun v hv hr => absurd hr (nm_no9 W N0 hv).2)
        rcases z with z | z
        · rw [z.1]; exact Or.inr (by decide)
        · exact Or.inl z
      · refine so_x9 W Ta0 S0 Zg (fun f b z => ?_) (fun b hb => rfl)
        rcases z with z | z
        · rw [z.1]; exact Or.inr ⟨by decide, by decide⟩
        · exact Or.inl z
      · rw [G.2.2.2.1, hκ_18, hκ_16] at hu
        have e : zQ (uo (na κ 24 1056) soCells a0 (zn κ)) (zn κ) i = none := by
          show (if zn κ = zn κ then fun _ => none else _) i = none
          rw [if_pos rfl]
        rw [e] at hu
        cases hu

end
section
set_option maxHeartbeats 1600000
/-! the class: Solver's shrink, eliminate -/
def elR9 : Nat → Prop := fun r => (r = 6 ∨ r = 7 ∨ r = 10) ∨ (1000000 ≤ r ∧ r < 2000000)
/-- cells hold a matrix -/
def clI9 (ρ : Nat → Nat) (κ : zS) (a m : Nat) (M : Nat → Nat → Nat) : Prop := (zN κ (zR κ soCells a)) = 1056 ∧ ∀ i j, i < m → (j < m ∨ j = 32) → zQ κ (zR κ soCells a) (33 * i + j) = some (cU9 κ a i j) ∧ ρ (cU9 κ a i j) = 1000000 + (33 * i + j) ∧ nuN κ (cU9 κ a i j) = M i j
theorem so_rw9 {C : zC} {n0 a ca : Nat} {ρ : Nat → Nat} {R : Nat → Prop} {κ τ : zS} (W : zW C n0 κ) (Ta : zT κ a = 12) (Z : zF (soF ρ R ca) κ τ) : zR τ soCells a = zR κ soCells a ∧ zQ τ (zR κ soCells a) = zQ κ (zR κ soCells a) ∧ zN τ (zR κ soCells a) = zN κ (zR κ soCells a) ∧ ∀ i j, cU9 τ a i j = cU9 κ a i j := by
  have e : zR τ soCells a = zR κ soCells a := (soF_r9 Z (by decide)).1
  have n : ¬ soF ρ R ca soCells a := fun z => by
    rcases z with ⟨_, z | z | z⟩ | ⟨_, z | z | z | z⟩ <;> exact absurd z (by decide)
  have q := (Z.row W (f := soCells) (t := 24) (by decide +kernel) (by decide) Ta n).2.2
  rw [e] at q
  refine ⟨e, q, Z.l (ty_soCells W Ta), fun i j => ?_⟩
  unfold cU9
  rw [e, q]
theorem cl_f9 {C : zC} {n0 a m ca : Nat} {ρ : Nat → Nat} {R : Nat → Prop} {M : Nat → Nat → Nat} {κ τ : zS} (W : zW C n0 κ) (Ta : zT κ a = 12) (N : nmI ρ κ) (Z : zF (soF ρ R ca) κ τ) (hR : ∀ r, 1000000 ≤ r → ¬ R r) (K : clI9 ρ κ a m M) : clI9 ρ τ a m M := by
  obtain ⟨e1, e2, e3, e4⟩ := so_rw9 W Ta Z
  refine ⟨by rw [e1, e3]; exact K.1, fun i j hi hj => ?_⟩
  obtain ⟨k1, k2, k3⟩ := K.2 i j hi hj
  have t := (N.1 (cU9 κ a i j) (by rw [k2]; exact Or.inr (Or.inr (Or.inr (Or.inr (Or.inr (Or.inr (by omega)))))))).1
  rw [e1, e2, e4]
  exact ⟨k1, k2, by rw [(soF_B (c := 0) W t Z (by rw [k2]; exact hR _ (by omega))).2.1]; exact k3⟩
/-- a cell, in order -/
theorem cl_g9 {a m i j : Nat} {ρ : Nat → Nat} {M : Nat → Nat → Nat} {κ : zS} (N : nmI ρ κ) (K : clI9 ρ κ a m M) (hi : i < m) (hj : j < m ∨ j = 32) : zT κ (cU9 κ a i j) = 8 ∧ nuI κ (cU9 κ a i j) (capR (1000000 + (33 * i + j))) ∧ nuI κ (cU9 κ a i j) 30000000 ∧ nmR (ρ (cU9 κ a i j)) := by
  obtain ⟨k1, k2, k3⟩ := K.2 i j hi hj
  have r : nmR (1000000 + (33 * i + j)) := Or.inr (Or.inr (Or.inr (Or.inr (Or.inr (Or.inr (by omega))))))
  have g := nm_g N k2 r (by omega)
  exact ⟨(N.1 _ (by rw [k2]; exact r)).1, g.1, g.2.1, by rw [k2]; exact r⟩
theorem cl_n9 {a m i j i' j' : Nat} {ρ : Nat → Nat} {M : Nat → Nat → Nat} {κ : zS} (K : clI9 ρ κ a m M) (hm : m ≤ 32) (hi : i < m) (hj : j < m ∨ j = 32) (hi' : i' < m) (hj' : j' < m ∨ j' = 32) (h : ¬ (i = i' ∧ j = j')) : cU9 κ a i j ≠ cU9 κ a i' j' := ro_n (K.2 i j hi hj).2.1 (K.2 i' j' hi' hj').2.1 (by omega)
/-- a cell is written -/
theorem cl_w9 {C : zC} {n0 a m i0 j0 v : Nat} {ρ : Nat → Nat} {M : Nat → Nat → Nat} {κ τ : zS} (W : zW C n0 κ) (Ta : zT κ a = 12) (N : nmI ρ κ) (I : soI ρ κ a) (hm : m ≤ 32) (hi : i0 < m) (hj : j0 < m ∨ j0 = 32) (K : clI9 ρ κ a m M) (Z : zF (nuF (cU9 κ a i0 j0)) κ τ) (J : nuI τ (cU9 κ a i0 j0) (capR (1000000 + (33 * i0 + j0)))) (hv : nuN τ (cU9 κ a i0 j0) = v) : (zF (soF ρ elR9 (zR κ soCalc a)) κ τ ∧ nmI ρ τ ∧ soI ρ τ a) ∧ clI9 ρ τ a m (fun i j => if i = i0 ∧ j = j0 then v else M i j) := by
  have k0 := (K.2 i0 j0 hi hj).2.1
  have Zs : zF (soF ρ elR9 (zR κ soCalc a)) κ τ := soF_1 (by rw [k0]; exact Or.inr ⟨by omega, by omega⟩) Z
  obtain ⟨e1, e2, e3, e4⟩ := so_rw9 W Ta Zs
  refine ⟨⟨Zs, nm_1 W N Z (by rw [k0]; exact J), so_1 W Ta I Z⟩, by rw [e1, e3]; exact K.1, fun i j hi' hj' => ?_⟩
  obtain ⟨k1, k2, k3⟩ := K.2 i j hi' hj'
  rw [e1, e2, e4]
  refine ⟨k1, k2, ?_⟩
  show nuN τ (cU9 κ a i j) = if i = i0 ∧ j = j0 then v else M i j
  by_cases z : i = i0 ∧ j = j0
  · rw [if_pos z, z.1, z.2]; exact hv
  · rw [if_neg z]
    have g := (cl_g9 N K hi' hj').1
    have ne := cl_n9 K hm hi' hj' hi hj z
    rw [(nuB_z (c := 0) W g Z (fun y => ne y.1) (fun y => ne y.1)).2.2.1]
    exact k3
theorem cap_c9 {i j : Nat} (hi : i < 32) (hj : j ≤ 32) : capR (1000000 + (33 * i + j)) = if j = 32 then 3000 else 40 := by
  unfold capR
  rw [if_neg (by omega), if_neg (by omega), if_pos (by omega)]
  by_cases z : j = 32
  · rw [if_pos z, if_pos (by omega)]
  · rw [if_neg z, if_neg (by omega)]
theorem dec_9 {x : Int32} (h : 0 ≤ x.toInt) (h0 : ¬ x = 0) : 0 < x.toInt ∧ (x - 1).toInt = x.toInt - 1 ∧ (x - 1).toNatClampNeg = x.toNatClampNeg - 1 ∧ 0 ≤ (x - 1).toInt := by
  have a : x.toInt ≠ 0 := fun z => h0 (Int32.toInt.inj (z.trans t0i.symm))
  have hi := ihi x
  have s1 : (x - 1).toInt = x.toInt - 1 := by
    have q := sub_i (x := x) (y := 1) (by rw [t1i]; omega) (by rw [t1i]; omega)
    rw [t1i] at q
    exact q
  have k0 := cnk h
  have k1 := cnk (x := x - 1) (by omega)
  exact ⟨by omega, s1, by omega, by omega⟩
/-- how many limbs a cell's number may have -/
def cB9 (j : Nat) : Nat := if j = 32 then 1960 else 24
theorem cB9_c {i j : Nat} (hi : i < 32) (hj : j ≤ 32) : cB9 j + cB9 j / 2 + 1 ≤ capR (1000000 + (33 * i + j)) ∧ capR (1000000 + (33 * i + j)) ≤ 30000000 ∧ cB9 j ≤ 1960 := by
  rw [cap_c9 hi hj]
  unfold cB9
  split <;> decide
theorem So_shrink_c {C : zC} {n0 : Nat} {a0 : Nat} {a1 : Nat} {a2 : Int32} {κ : zS} {Q : zS → Prop} (W : zW C n0 κ) (Ta0 : zT κ a0 = 12) (Ta1 : zT κ a1 = 8) (ρ : Nat → Nat) (M9 : Nat → Nat → Nat) (m9 i9 j9 q9 : Nat) (hp : (nmI ρ κ ∧ soI ρ κ a0) ∧ clI9 ρ κ a0 m9 M9 ∧ (m9 ≤ 32 ∧ i9 < m9 ∧ (j9 < m9 ∨ j9 = 32)) ∧ a1 = cU9 κ a0 i9 j9 ∧ (0 ≤ a2.toInt ∧ a2.toInt < m9) ∧ ((a2 = 0 → q9 = 1) ∧ (¬ a2 = 0 → q9 = M9 (a2.toNatClampNeg - 1) (a2.toNatClampNeg - 1))) ∧ nuN κ (zR κ soSum a0) < pB9 2100 ∧ nuN κ (zR κ soSum a0) / q9 < pB9 (cB9 j9)) (h : ∀ (κ' : zS), ((zF (soF ρ elR9 (zR κ soCalc a0)) κ κ' ∧ nmI ρ κ' ∧ soI ρ κ' a0) ∧ clI9 ρ κ' a0 m9 (fun i j => if i = i9 ∧ j = j9 then nuN κ (zR κ soSum a0) / q9 else M9 i j)) → Q κ') : zRun C 3 mSo_shrink [.ref a0, .ref a1, .int a2] κ (oV Q noX) := by
  refine So_shrink_run W Ta0 Ta1 ?_
  replace W := W.lo (Nat.le_trans W.1.2.1 W.1.2.2) (Nat.le_refl (zn κ))
  unfold w_So_shrink_0
  obtain ⟨⟨N0, S0⟩, K0, ⟨hm, hi, hj⟩, ha, p1, ⟨q0, q1⟩, p2, p3⟩ := hp
  have kn := cnk p1.1
  have j32 : j9 ≤ 32 := by omega
  have cB := cB9_c (i := i9) (j := j9) (by omega) j32
  have g7 := nm_g N0 S0.1.2.2.2.2.1 (Or.inl ⟨by decide, by decide⟩) (by decide)
  have kS := nuK_lt g7.1 p2
  have gc := cl_g9 N0 K0 hi hj
  have kr := (K0.2 i9 j9 hi hj).2.1
  refine ⟨fun c1 => ?_, fun c1 => ?_⟩
  · skip
    intro T2
    refine So_cell_c2 W T2  ?_ (fun r3 q5 => ?_)
    · have d := dec_9 p1.1 c1
      rw [d.2.2.1]
      exact ⟨K0.1, ⟨d.2.2.2, by omega⟩, ⟨d.2.2.2, by omega⟩, (K0.2 (a2.toNatClampNeg - 1) (a2.toNatClampNeg - 1) (by omega) (Or.inl (by omega))).1⟩
    intro W6
    intro M7
    intro T8
    intro T9
    intro T10
    intro T11
    have d := dec_9 p1.1 c1
    have e1 := d.2.2.1
    have kp := K0.2 (a2.toNatClampNeg - 1) (a2.toNatClampNeg - 1) (by omega) (Or.inl (by omega))
    have gp := cl_g9 N0 K0 (i := a2.toNatClampNeg - 1) (j := a2.toNatClampNeg - 1) (by omega) (Or.inl (by omega))
    rw [e1] at q5
    subst q5
    have ci := so_ca N0 S0
    unfold caI caN caK at ci
    have o1 := (caS_n (so_o S0 S0.1.2.2.2.2.1 (by decide))).1
    have o2 := (caS_n (so_o S0 kp.2.1 (by omega))).1
    refine Ca_divide_c W6 T9 T10 T11 6500 ?_ (fun κ_12 q13 => ?_)
    · exact ⟨⟨ci.2.1.1, ci.2.1.2.1, ci.2.1.2.2.1⟩, ⟨g7.2.1, gp.2.2.1⟩, ci.1.1, o1, o2, by omega, by decide⟩  -- p2
    have D := nm_d (a := a0) W6 T2 N0 S0 q13
    have Zd : zF (soF ρ (fun r => r = 10) (zR κ soCalc a0)) κ κ_12 := soF_p (fun b z => S0.2.2.1 b ((show b = _ ∨ b = _ ∨ b = _ from z).elim Or.inl (fun z => z.elim (fun y => Or.inr (Or.inl y)) (fun y => Or.inr (Or.inr (Or.inl y)))))) q13.1
    obtain ⟨DZ, ⟨DQ, DV⟩, _, _⟩ := q13
    rw [kp.2.2, ← q1 c1] at DV
    have K12 := cl_f9 W T2 N0 Zd (fun r h z => by omega) K0
    have eU := (so_rw9 W T2 Zd).2.2.2 i9 j9
    have T12 : zT κ_12 a0 = 12 := Zd.t T2 (by decide)
    have g12 := cl_g9 D.1 K12 hi hj
    have ec : zR κ_12 soCalc a0 = (zR κ soCalc a0) := (soF_r9 Zd (by decide)).1
    have eq : zR κ_12 caQuotient (zR κ_12 soCalc a0) = zR κ caQuotient (zR κ soCalc a0) := by rw [ec, (soF_r9 Zd (f := caQuotient) (by decide)).1]
    have kQ : nuK κ_12 (zR κ caQuotient (zR κ soCalc a0)) ≤ cB9 j9 := nuK_lt DQ (by rw [DV]; exact p3)
    have rq := S0.2.2.1 (zR κ caQuotient (zR κ soCalc a0)) (Or.inl rfl)
    rw [eU, ← ha] at g12
    intro W14
    intro M15
    intro T16
    intro T17
    refine Nu_copy_c W14 T16 T17 (capR (1000000 + (33 * i9 + j9))) 6500 ?_ (fun κ_18 q19 => ?_)
    · rw [eq]
      exact ⟨g12.2.1.1.2.1, DQ.1, ro_n (show ρ a1 = 1000000 + (33 * i9 + j9) by rw [ha]; exact kr) rq (by omega), by omega, cB.2.1⟩
    intro W20
    intro M21
    refine h _ ?_
    · rw [eq, DV] at q19
      obtain ⟨Fc, Bc, Vc, Kc, Zc⟩ := q19
      rw [ha, ← eU] at Fc Bc Vc Zc
      have w := cl_w9 W14 T12 D.1 D.2 hm hi hj K12 Fc ⟨Bc, Zc DQ.2⟩ Vc
      rw [ec] at w
      exact ⟨⟨(soF_m (fun r z => Or.inl (by omega)) Zd).tr w.1.1, w.1.2⟩, w.2⟩
  · skip
    intro T22
    intro T23
    refine Nu_copy_c W T22 T23 (capR (1000000 + (33 * i9 + j9))) 6500 ?_ (fun κ_24 q25 => ?_)
    · have q9e := q0 c1
      rw [q9e, Nat.div_one] at p3
      have kQ : nuK κ (zR κ soSum a0) ≤ cB9 j9 := nuK_lt g7.1 p3
      rw [ha]
      exact ⟨gc.2.1.1.2.1, g7.1.1, ro_n kr S0.1.2.2.2.2.1 (by omega), by omega, cB.2.1⟩
    intro W26
    intro M27
    refine h _ ?_
    · rw [ha] at q25
      obtain ⟨Fc, Bc, Vc, Kc, Zc⟩ := q25
      have q9e := q0 c1
      rw [q9e, Nat.div_one]
      exact cl_w9 W Ta0 N0 S0 hm hi hj K0 Fc ⟨Bc, Zc g7.1.2⟩ Vc

end
section
set_option maxHeartbeats 1600000
/-! the class: Solver's eliminate -/
/-- on the way: rows below row, and of row the columns below col, are done -/
def eN9 (M : Nat → Nat → Nat) (m p q row col : Nat) : Nat → Nat → Nat := fun i j => if (p < i ∧ p < j ∧ (j < m ∨ j = 32)) ∧ (i < row ∨ (i = row ∧ ((j < m ∧ j < col) ∨ (j = 32 ∧ m < col)))) then nB9 M p q i j else M i j
theorem eN9_s {M : Nat → Nat → Nat} {m p q row col at9 : Nat} (hm : m ≤ 32) (h1 : p < row) (h2 : p < col) (h3 : (col < m ∧ at9 = col) ∨ (col = m ∧ at9 = 32)) : (fun i j => if i = row ∧ j = at9 then nB9 M p q row at9 else eN9 M m p q row col i j) = eN9 M m p q row (col + 1) := by
  funext i j
  unfold eN9
  by_cases z : i = row ∧ j = at9
  · obtain ⟨z1, z2⟩ := z
    subst z1
    subst z2
    rw [if_pos ⟨rfl, rfl⟩, if_pos (by omega)]
  · rw [if_neg z]
    by_cases w : (p < i ∧ p < j ∧ (j < m ∨ j = 32)) ∧ (i < row ∨ (i = row ∧ ((j < m ∧ j < col) ∨ (j = 32 ∧ m < col))))
    · rw [if_pos w, if_pos (by omega)]
    · rw [if_neg w, if_neg (by omega)]
theorem eN9_r {M : Nat → Nat → Nat} {m p q row : Nat} (hm : m ≤ 32) (h1 : p < row) (h2 : p < m) : eN9 M m p q row (m + 1) = eN9 M m p q (row + 1) (p + 1) := by
  funext i j
  unfold eN9
  by_cases w : (p < i ∧ p < j ∧ (j < m ∨ j = 32)) ∧ (i < row ∨ (i = row ∧ ((j < m ∧ j < m + 1) ∨ (j = 32 ∧ m < m + 1))))
  · rw [if_pos w, if_pos (by omega)]
  · rw [if_neg w, if_neg (by omega)]
theorem eN9_0 {M : Nat → Nat → Nat} {m p q : Nat} (h : p + 1 ≤ m) : eN9 M m p q (p + 1) (p + 1) = M := by
  funext i j
  unfold eN9
  rw [if_neg (by omega)]
theorem eN9_z {M : Nat → Nat → Nat} {m p q : Nat} (h : p + 1 ≤ m) : eN9 M m p q m (p + 1) = eM9 M m p q := by
  funext i j
  unfold eN9 eM9
  by_cases w : (p < i ∧ i < m) ∧ p < j ∧ (j < m ∨ j = 32)
  · rw [if_pos w, if_pos (by omega)]
  · rw [if_neg w, if_neg (by omega)]
theorem eN9_o {M : Nat → Nat → Nat} {m p q row col i j : Nat} (h : i ≤ p ∨ j ≤ p ∨ (row < i) ∨ (i = row ∧ ((j < m ∧ col ≤ j) ∨ (j = 32 ∧ m ≤ 32 ∧ col ≤ m)))) : eN9 M m p q row col i j = M i j := by
  unfold eN9
  rw [if_neg (by omega)]
/-- sizes -/
theorem el_b9 {M : Nat → Nat → Nat} {m p q X i j : Nat} (hm : m ≤ 32) (H : bz9 M m p q X 8000000) (hX : X ≤ pB9 1520) (h1 : p ≤ i) (h2 : i < m) (h3 : (p ≤ j ∧ j < m) ∨ j = 32) : M i j < pB9 (cB9 j) := by
  unfold cB9
  by_cases z : j = 32
  · rw [if_pos z, z]
    obtain ⟨H1, _, H3, _⟩ := H
    have a := H3 i h1 h2
    have b : q * 2 ^ p * X ≤ 8000000 ^ 32 * 2 ^ 32 * pB9 1520 := Nat.mul_le_mul (Nat.mul_le_mul (Nat.le_trans H1 (Nat.pow_le_pow_right (by decide) (by omega))) (Nat.pow_le_pow_right (by decide) (by omega))) hX
    have c : 8000000 ^ 32 * 2 ^ 32 < pB9 26 := by unfold pB9; decide
    have d : 8000000 ^ 32 * 2 ^ 32 * pB9 1520 < pB9 26 * pB9 1520 := Nat.mul_lt_mul_of_pos_right c pB9_p
    rw [← pB9_a] at d
    exact Nat.lt_of_le_of_lt (Nat.le_trans a b) (Nat.lt_of_lt_of_le d (pB9_l (by decide)))
  · rw [if_neg z]
    have hj : p ≤ j ∧ j < m := by omega
    have a := bz9_e H h1 h2 hj.1 hj.2
    exact Nat.lt_of_le_of_lt (Nat.le_trans a.1 a.2) (dp_9 (by omega))
theorem el_n9 {M : Nat → Nat → Nat} {m p q X i j : Nat} (hm : m ≤ 32) (H : bz9 M m p q X 8000000) (hX : X ≤ pB9 1520) (h1 : p < i) (h2 : i < m) (h3 : (p < j ∧ j < m) ∨ j = 32) : nB9 M p q i j < pB9 (cB9 j) := by
  have S := bz9_s hm (by omega) H
  have e : eM9 M m p q i j = nB9 M p q i j := by
    unfold eM9
    rw [if_pos (by omega)]
  rw [← e]
  exact el_b9 hm S hX (by omega) h2 (by omega)
def elJ9 (ρ : Nat → Nat) (κ τ : zS) (a : Nat) (M : Nat → Nat → Nat) (m p q row col : Nat) : Prop := (zF (soF ρ elR9 (zR κ soCalc a)) κ τ ∧ nmI ρ τ ∧ soI ρ τ a) ∧ clI9 ρ τ a m (eN9 M m p q row col)
def aT9 (m col : Nat) : Nat := if col = m then 32 else col
def nA9 (M : Nat → Nat → Nat) (p i j : Nat) : Nat := if i = j then M p p * M i j - M i p * M p j else M p p * M i j + M i p * M p j
theorem nA9_b {M : Nat → Nat → Nat} {m p q X i j : Nat} (hm : m ≤ 32) (H : bz9 M m p q X 8000000) (hX : X ≤ pB9 1520) (h1 : p < i) (h2 : i < m) (h3 : (p < j ∧ j < m) ∨ j = 32) : M p p * M i j < pB9 1984 ∧ M i p * M p j < pB9 1984 ∧ nA9 M p i j < pB9 2100 ∧ (M p p < pB9 24 ∧ M i p < pB9 24 ∧ M i j < pB9 1960 ∧ M p j < pB9 1960) := by
  have a1 := el_b9 hm H hX (i := p) (j := p) (by omega) (by omega) (by omega)
  have a2 := el_b9 hm H hX (i := i) (j := j) (by omega) h2 (by omega)
  have a3 := el_b9 hm H hX (i := i) (j := p) (by omega) h2 (by omega)
  have a4 := el_b9 hm H hX (i := p) (j := j) (by omega) (by omega) (by omega)
  have e1 : cB9 p = 24 := by unfold cB9; rw [if_neg (by omega)]
  rw [e1] at a1 a3
  have l : cB9 j ≤ 1960 := by unfold cB9; split <;> decide
  have b2 := Nat.lt_of_lt_of_le a2 (pB9_l l)
  have b4 := Nat.lt_of_lt_of_le a4 (pB9_l l)
  have c1 : M p p * M i j < pB9 24 * pB9 1960 := Nat.mul_lt_mul'' a1 b2
  have c2 : M i p * M p j < pB9 24 * pB9 1960 := Nat.mul_lt_mul'' a3 b4
  rw [← pB9_a, show (24 + 1960 : Nat) = 1984 from rfl] at c1 c2
  refine ⟨c1, c2, ?_, a1, a3, b2, b4⟩
  have d : pB9 1984 + pB9 1984 ≤ pB9 2100 := by
    have r : 2 ≤ pB9 116 := by unfold pB9; decide
    rw [show (2100 : Nat) = 1984 + 116 from rfl, pB9_a, ← Nat.mul_two]
    exact Nat.mul_le_mul_left _ r
  unfold nA9
  split <;> omega
theorem cl_eq9 {ρ : Nat → Nat} {κ : zS} {a m : Nat} {M M' : Nat → Nat → Nat} (K : clI9 ρ κ a m M) (h : ∀ i j, i < m → (j < m ∨ j = 32) → M i j = M' i j) : clI9 ρ κ a m M' := ⟨K.1, fun i j hi hj => ⟨(K.2 i j hi hj).1, (K.2 i j hi hj).2.1, (K.2 i j hi hj).2.2.trans (h i j hi hj)⟩⟩
theorem aT9_c {m col : Nat} (h : col ≤ m) : (col < m ∧ aT9 m col = col) ∨ (col = m ∧ aT9 m col = 32) := by
  unfold aT9
  by_cases z : col = m
  · right; rw [if_pos z]; exact ⟨z, rfl⟩
  · left; rw [if_neg z]; exact ⟨by omega, rfl⟩
theorem nu_00 {κ : zS} {w c : Nat} (I : nuI κ w c) (h : (zI κ nuLength w).toInt ≤ 0) : nuN κ w = 0 := (nuK_z I).1 (by
  have a := nuK_i I.1
  omega)
theorem So_eliminate_c {C : zC} {n0 : Nat} {a0 : Nat} {a1 : Int32} {a2 : Int32} {κ : zS} {Q : zS → Prop} (W : zW C n0 κ) (Ta0 : zT κ a0 = 12) (ρ : Nat → Nat) (M9 : Nat → Nat → Nat) (m9 q9 X9 : Nat) (hp : (nmI ρ κ ∧ soI ρ κ a0) ∧ clI9 ρ κ a0 m9 M9 ∧ (m9 ≤ 32 ∧ a2.toInt = (m9 : Int)) ∧ (0 ≤ a1.toInt ∧ a1.toInt + 1 < m9) ∧ ((a1 = 0 → q9 = 1) ∧ (¬ a1 = 0 → q9 = M9 (a1.toNatClampNeg - 1) (a1.toNatClampNeg - 1))) ∧ bz9 M9 m9 a1.toNatClampNeg q9 X9 8000000 ∧ X9 ≤ pB9 1520) (h : ∀ (κ' : zS), ((zF (soF ρ elR9 (zR κ soCalc a0)) κ κ' ∧ nmI ρ κ' ∧ soI ρ κ' a0) ∧ clI9 ρ κ' a0 m9 (eM9 M9 m9 a1.toNatClampNeg q9)) → Q κ') : zRun C 4 mSo_eliminate [.ref a0, .int a1, .int a2] κ (oV Q noX) := by
  refine So_eliminate_run W Ta0 ?_
  replace W := W.lo (Nat.le_trans W.1.2.1 W.1.2.2) (Nat.le_refl (zn κ))
  unfold w_So_eliminate_0
  obtain ⟨⟨N0, S0⟩, K0, ⟨hm, m2⟩, p1, ⟨q0, q1⟩, H, hX⟩ := hp
  have kn := cnk p1.1
  have i1 := cn1 p1.1 (by omega)
  have h7 := S0.1.2.2.2.2.1
  have h6 := S0.1.2.2.2.1
  intro T1
  refine So_cell_c2 W T1  ?_ (fun r2 q4 => ?_)
  · exact ⟨K0.1, ⟨p1.1, by omega⟩, ⟨p1.1, by omega⟩, (K0.2 _ _ (by omega) (Or.inl (by omega))).1⟩  -- p1
  intro W5
  intro M6
  intro T7
  intro x8 hx8
  unfold w_So_eliminate_12
  refine ⟨fun n l0 l1 l2 l3 l4 τ => n = (a2.toInt - l4.toInt).toNat ∧ (a0 = l0 ∧ a1 = l1 ∧ a2 = l2 ∧ elJ9 ρ κ τ a0 M9 m9 a1.toNatClampNeg q9 l4.toNatClampNeg (a1.toNatClampNeg + 1) ∧ (a1.toInt < l4.toInt ∧ l4.toInt ≤ a2.toInt) ∧ l3 = cU9 κ a0 a1.toNatClampNeg a1.toNatClampNeg), ⟨_, rfl, ?_⟩, ?_⟩
  · refine ⟨rfl, rfl, rfl, ⟨⟨zF.rf, N0, S0⟩, ?_⟩, ⟨by rw [hx8, i1.2]; omega, by rw [hx8, i1.2]; omega⟩, q4⟩
    rw [hx8, i1.1, eN9_0 (by omega)]
    exact K0
  rintro n12 _ _ _ x12_3 x12_4 κ12 W12 T12_0 T12_1 ⟨hn12, rfl, rfl, rfl, i12⟩
  obtain ⟨⟨⟨Z1, N1, S1⟩, K1⟩, l1, l3⟩ := i12
  have kr := cnk (x := x12_4) (by omega)
  refine ⟨fun c9 => ?_, fun c9 => ?_⟩
  · skip
    refine h _ ?_
    · rw [lei] at c9
      have e : x12_4.toNatClampNeg = m9 := by omega
      rw [e, eN9_z (by omega)] at K1
      exact ⟨⟨Z1, N1, S1⟩, K1⟩
  · skip
    intro T10
    refine So_cell_c2 W12 T10  ?_ (fun r11 q13 => ?_)
    · rw [lei] at c9
      exact ⟨K1.1, ⟨by omega, by omega⟩, ⟨p1.1, by omega⟩, (K1.2 _ _ (by omega) (Or.inl (by omega))).1⟩
    intro W14
    intro M15
    intro T16
    intro x17 hx17
    unfold w_So_eliminate_32
    refine ⟨fun n l0 l1 l2 l3 l4 l5 l6 τ => n = (a2.toInt + 1 - l6.toInt).toNat ∧ (a0 = l0 ∧ a1 = l1 ∧ a2 = l2 ∧ elJ9 ρ κ τ a0 M9 m9 a1.toNatClampNeg q9 l4.toNatClampNeg l6.toNatClampNeg ∧ (a1.toInt < l4.toInt ∧ l4.toInt < a2.toInt ∧ x12_4 = l4) ∧ (a1.toInt < l6.toInt ∧ l6.toInt ≤ a2.toInt + 1) ∧ l3 = cU9 κ a0 a1.toNatClampNeg a1.toNatClampNeg ∧ l5 = cU9 κ a0 l4.toNatClampNeg a1.toNatClampNeg), ⟨_, rfl, ?_⟩, ?_⟩
    · rw [lei] at c9
      rw [(so_rw9 W Ta0 Z1).2.2.2] at q13
      refine ⟨rfl, rfl, rfl, ⟨⟨Z1, N1, S1⟩, ?_⟩, ⟨l1.1, by omega, rfl⟩, ⟨by rw [hx17, i1.2]; omega, by rw [hx17, i1.2]; omega⟩, l3, q13⟩
      rw [hx17, i1.1]
      exact K1
    rintro n32 _ _ _ x32_3 x32_4 x32_5 x32_6 κ32 W32 T32_0 T32_1 T32_2 ⟨hn32, rfl, rfl, rfl, i32⟩
    obtain ⟨J2, ⟨l41, l42, l43⟩, l6, e3, e5⟩ := i32
    subst l43
    have kc := cnk (x := x32_6) (by omega)
    have ix := cn1 (x := x32_6) (by omega) (by omega)
    have hj169 : ∀ (l0 : Nat) (l1 : Int32) (l2 : Int32) (l3 : Nat) (l4 : Int32) (l5 : Nat) (l6 : Int32) (l8 : Nat) (τ : zS), zW C (zn κ) τ → zT τ l0 = 12 → zT τ l3 = 8 → zT τ l5 = 8 → zT τ l8 = 8 → (a0 = l0 ∧ a1 = l1 ∧ a2 = l2 ∧ elJ9 ρ κ τ a0 M9 m9 a1.toNatClampNeg q9 l4.toNatClampNeg l6.toNatClampNeg ∧ (a1.toInt < l4.toInt ∧ l4.toInt < a2.toInt ∧ x12_4 = l4) ∧ (a1.toInt < l6.toInt ∧ l6.toInt ≤ a2.toInt ∧ x32_6 = l6) ∧ (l3 = cU9 κ a0 a1.toNatClampNeg a1.toNatClampNeg ∧ l5 = cU9 κ a0 l4.toNatClampNeg a1.toNatClampNeg) ∧ l8 = cU9 κ a0 l4.toNatClampNeg (aT9 m9 l6.toNatClampNeg) ∧ nuN τ (zR κ soSum a0) = nA9 M9 a1.toNatClampNeg l4.toNatClampNeg (aT9 m9 l6.toNatClampNeg)) → w_So_eliminate_169 C (zn κ) Q (fun (l0' : Nat) (l1' : Int32) (l2' : Int32) (l3' : Nat) (l4' : Int32) (τ : zS) => ∃ k < n12, (fun (n : Nat) (l0 : Nat) (l1 : Int32) (l2 : Int32) (l3 : Nat) (l4 : Int32) (τ : zS) => n = (a2.toInt - l4.toInt).toNat ∧ (a0 = l0 ∧ a1 = l1 ∧ a2 = l2 ∧ elJ9 ρ κ τ a0 M9 m9 a1.toNatClampNeg q9 l4.toNatClampNeg (a1.toNatClampNeg + 1) ∧ (a1.toInt < l4.toInt ∧ l4.toInt ≤ a2.toInt) ∧ l3 = cU9 κ a0 a1.toNatClampNeg a1.toNatClampNeg)) k l0' l1' l2' l3' l4' τ) (fun (l0' : Nat) (l1' : Int32) (l2' : Int32) (l3' : Nat) (l4' : Int32) (l5' : Nat) (l6' : Int32) (τ : zS) => ∃ k < n32, (fun (n : Nat) (l0 : Nat) (l1 : Int32) (l2 : Int32) (l3 : Nat) (l4 : Int32) (l5 : Nat) (l6 : Int32) (τ : zS) => n = (a2.toInt + 1 - l6.toInt).toNat ∧ (a0 = l0 ∧ a1 = l1 ∧ a2 = l2 ∧ elJ9 ρ κ τ a0 M9 m9 a1.toNatClampNeg q9 l4.toNatClampNeg l6.toNatClampNeg ∧ (a1.toInt < l4.toInt ∧ l4.toInt < a2.toInt ∧ x12_4 = l4) ∧ (a1.toInt < l6.toInt ∧ l6.toInt ≤ a2.toInt + 1) ∧ l3 = cU9 κ a0 a1.toNatClampNeg a1.toNatClampNeg ∧ l5 = cU9 κ a0 l4.toNatClampNeg a1.toNatClampNeg)) k l0' l1' l2' l3' l4' l5' l6' τ) l0 l1 l2 l3 l4 l5 l6 l8 τ := by
      rintro _ _ _ y169_3 y169_4 y169_5 y169_6 y169_8 τ169 W169 T169_0 T169_1 T169_2 T169_3 ⟨rfl, rfl, rfl, j169⟩
      unfold w_So_eliminate_169
      intro T18
      intro T19
      obtain ⟨⟨⟨Z2, N2, S2⟩, K2⟩, ⟨r1, r2, er⟩, ⟨c1, c2, ec⟩, ⟨f3, f5⟩, f8, V⟩ := j169
      subst er
      subst ec
      have hat := aT9_c (m := m9) (col := x32_6.toNatClampNeg) (by omega)
      have U := (so_rw9 W Ta0 Z2).2.2.2
      have es : zR τ169 soSum a0 = (zR κ soSum a0) := (soF_r9 Z2 (by decide)).1
      have ec0 : zR τ169 soCalc a0 = (zR κ soCalc a0) := (soF_r9 Z2 (by decide)).1
      have B := nA9_b hm H hX (i := x12_4.toNatClampNeg) (j := aT9 m9 x32_6.toNatClampNeg) (by omega) (by omega) (by omega)
      have B2 := el_n9 hm H hX (i := x12_4.toNatClampNeg) (j := aT9 m9 x32_6.toNatClampNeg) (by omega) (by omega) (by omega)
      refine So_shrink_c W169 T18 T19 ρ (eN9 M9 m9 a1.toNatClampNeg q9 x12_4.toNatClampNeg x32_6.toNatClampNeg) m9 x12_4.toNatClampNeg (aT9 m9 x32_6.toNatClampNeg) q9 ?_ (fun κ_20 q21 => ?_)
      · rw [es, V]
        refine ⟨⟨N2, S2⟩, K2, ⟨hm, by omega, by omega⟩, by rw [f8, U], ⟨p1.1, by omega⟩, ⟨q0, fun z => ?_⟩, B.2.2.1, B2⟩
        rw [eN9_o (by omega)]
        exact q1 z
      intro W22
      intro M23
      intro x24 hx24
      refine ⟨_, ?_, rfl, ?_⟩
      · rw [hn32, hx24, ix.2]; omega  -- d7
      · rw [ec0, es, V] at q21
        obtain ⟨⟨Zs, Ns, Ss⟩, Ks⟩ := q21
        have Ks2 : clI9 ρ κ_20 a0 m9 (fun i j => if i = x12_4.toNatClampNeg ∧ j = aT9 m9 x32_6.toNatClampNeg then nB9 M9 a1.toNatClampNeg q9 x12_4.toNatClampNeg (aT9 m9 x32_6.toNatClampNeg) else eN9 M9 m9 a1.toNatClampNeg q9 x12_4.toNatClampNeg x32_6.toNatClampNeg i j) := Ks
        rw [eN9_s hm (by omega) (by omega) hat] at Ks2
        refine ⟨rfl, rfl, rfl, ⟨⟨Z2.tr Zs, Ns, Ss⟩, ?_⟩, ⟨r1, r2, rfl⟩, ⟨by rw [hx24, ix.2]; omega, by rw [hx24, ix.2]; omega⟩, f3, f5⟩
        rw [hx24, ix.1]
        exact Ks2
    have hj111 : ∀ (l0 : Nat) (l1 : Int32) (l2 : Int32) (l3 : Nat) (l4 : Int32) (l5 : Nat) (l6 : Int32) (l7 : Int32) (l8 : Nat) (l9 : Nat) (l10 : Int32) (τ : zS), zW C (zn κ) τ → zT τ l0 = 12 → zT τ l3 = 8 → zT τ l5 = 8 → zT τ l8 = 8 → zT τ l9 = 8 → (a0 = l0 ∧ a1 = l1 ∧ a2 = l2 ∧ elJ9 ρ κ τ a0 M9 m9 a1.toNatClampNeg q9 l4.toNatClampNeg l6.toNatClampNeg ∧ (a1.toInt < l4.toInt ∧ l4.toInt < a2.toInt ∧ x12_4 = l4) ∧ (a1.toInt < l6.toInt ∧ l6.toInt ≤ a2.toInt ∧ x32_6 = l6) ∧ (l3 = cU9 κ a0 a1.toNatClampNeg a1.toNatClampNeg ∧ l5 = cU9 κ a0 l4.toNatClampNeg a1.toNatClampNeg) ∧ l7.toInt = (aT9 m9 l6.toNatClampNeg : Int) ∧ (l8 = cU9 κ a0 l4.toNatClampNeg (aT9 m9 l6.toNatClampNeg) ∧ l9 = cU9 κ a0 a1.toNatClampNeg (aT9 m9 l6.toNatClampNeg)) ∧ (l10 = 0 → M9 l4.toNatClampNeg a1.toNatClampNeg * M9 a1.toNatClampNeg (aT9 m9 l6.toNatClampNeg) = 0)) → w_So_eliminate_111 C (zn κ) Q (fun (l0' : Nat) (l1' : Int32) (l2' : Int32) (l3' : Nat) (l4' : Int32) (τ : zS) => ∃ k < n12, (fun (n : Nat) (l0 : Nat) (l1 : Int32) (l2 : Int32) (l3 : Nat) (l4 : Int32) (τ : zS) => n = (a2.toInt - l4.toInt).toNat ∧ (a0 = l0 ∧ a1 = l1 ∧ a2 = l2 ∧ elJ9 ρ κ τ a0 M9 m9 a1.toNatClampNeg q9 l4.toNatClampNeg (a1.toNatClampNeg + 1) ∧ (a1.toInt < l4.toInt ∧ l4.toInt ≤ a2.toInt) ∧ l3 = cU9 κ a0 a1.toNatClampNeg a1.toNatClampNeg)) k l0' l1' l2' l3' l4' τ) (fun (l0' : Nat) (l1' : Int32) (l2' : Int32) (l3' : Nat) (l4' : Int32) (l5' : Nat) (l6' : Int32) (τ : zS) => ∃ k < n32, (fun (n : Nat) (l0 : Nat) (l1 : Int32) (l2 : Int32) (l3 : Nat) (l4 : Int32) (l5 : Nat) (l6 : Int32) (τ : zS) => n = (a2.toInt + 1 - l6.toInt).toNat ∧ (a0 = l0 ∧ a1 = l1 ∧ a2 = l2 ∧ elJ9 ρ κ τ a0 M9 m9 a1.toNatClampNeg q9 l4.toNatClampNeg l6.toNatClampNeg ∧ (a1.toInt < l4.toInt ∧ l4.toInt < a2.toInt ∧ x12_4 = l4) ∧ (a1.toInt < l6.toInt ∧ l6.toInt ≤ a2.toInt + 1) ∧ l3 = cU9 κ a0 a1.toNatClampNeg a1.toNatClampNeg ∧ l5 = cU9 κ a0 l4.toNatClampNeg a1.toNatClampNeg)) k l0' l1' l2' l3' l4' l5' l6' τ) l0 l1 l2 l3 l4 l5 l6 l7 l8 l9 l10 τ := by
      rintro _ _ _ y111_3 y111_4 y111_5 y111_6 y111_7 y111_8 y111_9 y111_10 τ111 W111 T111_0 T111_1 T111_2 T111_3 T111_4 ⟨rfl, rfl, rfl, j111⟩
      unfold w_So_eliminate_111
      intro T25
      intro T26
      intro T27
      obtain ⟨⟨⟨Z2, N2, S2⟩, K2⟩, ⟨r1, r2, er⟩, ⟨c1, c2, ec⟩, ⟨f3, f5⟩, f7, ⟨f8, f9⟩, fl⟩ := j111
      subst er
      subst ec
      have hat := aT9_c (m := m9) (col := x32_6.toNatClampNeg) (by omega)
      have U := (so_rw9 W Ta0 Z2).2.2.2
      have es : zR τ111 soSum a0 = (zR κ soSum a0) := (soF_r9 Z2 (by decide)).1
      have et : zR τ111 soTerm a0 = (zR κ soTerm a0) := (soF_r9 Z2 (by decide)).1
      have ec0 : zR τ111 soCalc a0 = (zR κ soCalc a0) := (soF_r9 Z2 (by decide)).1
      have B := nA9_b hm H hX (i := x12_4.toNatClampNeg) (j := aT9 m9 x32_6.toNatClampNeg) (by omega) (by omega) (by omega)
      have k0 := K2.2 a1.toNatClampNeg a1.toNatClampNeg (by omega) (Or.inl (by omega))
      have k1 := K2.2 x12_4.toNatClampNeg (aT9 m9 x32_6.toNatClampNeg) (by omega) (by omega)
      have k2 := K2.2 x12_4.toNatClampNeg a1.toNatClampNeg (by omega) (Or.inl (by omega))
      have k3 := K2.2 a1.toNatClampNeg (aT9 m9 x32_6.toNatClampNeg) (by omega) (by omega)
      have g0 := cl_g9 N2 K2 (i := a1.toNatClampNeg) (j := a1.toNatClampNeg) (by omega) (Or.inl (by omega))
      have g1 := cl_g9 N2 K2 (i := x12_4.toNatClampNeg) (j := aT9 m9 x32_6.toNatClampNeg) (by omega) (by omega)
      have g2 := cl_g9 N2 K2 (i := x12_4.toNatClampNeg) (j := a1.toNatClampNeg) (by omega) (Or.inl (by omega))
      have g3 := cl_g9 N2 K2 (i := a1.toNatClampNeg) (j := aT9 m9 x32_6.toNatClampNeg) (by omega) (by omega)
      rw [U] at k0 k1 k2 k3 g0 g1 g2 g3
      rw [eN9_o (by omega)] at k0 k1 k2 k3
      rw [← f3] at k0 g0
      rw [← f8] at k1 g1
      rw [← f5] at k2 g2
      rw [← f9] at k3 g3
      have gs := nm_g N2 (w := (zR κ soSum a0)) h7 (Or.inl ⟨by decide, by decide⟩) (by decide)
      have gt := nm_g N2 (w := (zR κ soTerm a0)) h6 (Or.inl ⟨by decide, by decide⟩) (by decide)
      have x0 := nuK_lt g0.2.2.1 (k := 24) (by rw [k0.2.2]; exact B.2.2.2.1)
      have x1 := nuK_lt g1.2.2.1 (k := 1960) (by rw [k1.2.2]; exact B.2.2.2.2.2.1)
      have x2 := nuK_lt g2.2.2.1 (k := 24) (by rw [k2.2.2]; exact B.2.2.2.2.1)
      have x3 := nuK_lt g3.2.2.1 (k := 1960) (by rw [k3.2.2]; exact B.2.2.2.2.2.2)
      refine Nu_product_c W111 T25 T26 T27 6500 30000000 30000000 ?_ (fun κ_28 q29 => ?_)
      · rw [es]
        exact ⟨gs.2.2, ⟨g0.2.2.1, g1.2.2.1⟩, ⟨ro_n h7 k0.2.1 (by omega), ro_n h7 k1.2.1 (by omega)⟩, by omega, by decide⟩
      rw [es, k0.2.2, k1.2.2] at q29
      obtain ⟨F1, I1, V1⟩ := q29
      have Zf1 : zF (soF ρ (fun r => r = 7) (zR κ soCalc a0)) τ111 κ_28 := soF_1 h7 F1
      have N28 : nmI ρ κ_28 := nm_1 W111 N2 F1 (by rw [h7]; exact I1)
      have S28 : soI ρ κ_28 a0 := so_1 W111 T111_0 S2 F1
      have K28 := cl_f9 W111 T111_0 N2 Zf1 (fun r h z => by omega) K2
      have Z28 : zF (soF ρ elR9 (zR κ soCalc a0)) κ κ_28 := Z2.tr (soF_m (fun r z => Or.inl (by omega)) Zf1)
      have T28 : zT κ_28 a0 = 12 := F1.t T111_0 (by decide)
      have es28 : zR κ_28 soSum a0 = (zR κ soSum a0) := (soF_r9 Z28 (by decide)).1
      have et28 : zR κ_28 soTerm a0 = (zR κ soTerm a0) := (soF_r9 Z28 (by decide)).1
      have t3 : zT κ_28 y111_3 = 8 := F1.t T111_1 (by decide)
      have t5 : zT κ_28 y111_5 = 8 := F1.t T111_2 (by decide)
      have t8 : zT κ_28 y111_8 = 8 := F1.t T111_3 (by decide)
      intro W30
      intro M31
      refine ⟨fun c32 => ?_, fun c32 => ?_⟩
      · skip
        refine hj169 _ _ _ _ _ _ _ _ _ W30 ?_ ?_ ?_ ?_ ?_
        · assumption  -- t10
        · assumption  -- t11
        · assumption  -- t12
        · assumption  -- t13
        · refine ⟨rfl, rfl, rfl, ⟨⟨Z28, N28, S28⟩, K28⟩, ⟨r1, r2, rfl⟩, ⟨c1, c2, rfl⟩, ⟨f3, f5⟩, f8, ?_⟩
          rw [V1]
          unfold nA9
          rw [fl c32]
          split <;> rfl
      · skip
        intro T33
        intro T34
        intro T35
        have n2 := soF_B (c := 30000000) W111 T111_2 Zf1 (by rw [k2.2.1]; omega)
        have n3 := soF_B (c := 30000000) W111 T111_4 Zf1 (by rw [k3.2.1]; omega)
        have nt := soF_B (c := 6500) (w := (zR κ soTerm a0)) W111 (by rw [← et]; exact ty_soTerm W111 T111_0) Zf1 (by rw [h6]; decide)
        have x28 := nuK_lt I1 (k := 1984) (by rw [V1]; exact B.1)
        have gt28 := nm_g N28 (w := (zR κ soTerm a0)) h6 (Or.inl ⟨by decide, by decide⟩) (by decide)
        refine Nu_product_c W30 T33 T34 T35 6500 30000000 30000000 ?_ (fun κ_36 q37 => ?_)
        · rw [et28, n2.2.2, n3.2.2]
          exact ⟨gt28.2.2, ⟨n2.1 g2.2.2.1, n3.1 g3.2.2.1⟩, ⟨ro_n h6 k2.2.1 (by omega), ro_n h6 k3.2.1 (by omega)⟩, by omega, by decide⟩
        rw [et28, n2.2.1, n3.2.1, k2.2.2, k3.2.2] at q37
        obtain ⟨F2, I2, V2⟩ := q37
        have Zf2 : zF (soF ρ (fun r => r = 6) (zR κ soCalc a0)) κ_28 κ_36 := soF_1 h6 F2
        have N36 : nmI ρ κ_36 := nm_1 W30 N28 F2 (by rw [h6]; exact I2)
        have S36 : soI ρ κ_36 a0 := so_1 W30 T28 S28 F2
        have K36 := cl_f9 W30 T28 N28 Zf2 (fun r h z => by omega) K28
        have Z36 : zF (soF ρ elR9 (zR κ soCalc a0)) κ κ_36 := Z28.tr (soF_m (fun r z => Or.inl (by omega)) Zf2)
        have T36 : zT κ_36 a0 = 12 := F2.t T28 (by decide)
        have es36 : zR κ_36 soSum a0 = (zR κ soSum a0) := (soF_r9 Z36 (by decide)).1
        have et36 : zR κ_36 soTerm a0 = (zR κ soTerm a0) := (soF_r9 Z36 (by decide)).1
        have ns := soF_B (c := 6500) (w := (zR κ soSum a0)) W30 (by rw [← es28]; exact ty_soSum W30 T28) Zf2 (by rw [h7]; decide)
        have x36 := nuK_lt I2 (k := 1984) (by rw [V2]; exact B.2.1)
        have u3 : zT κ_36 y111_3 = 8 := F2.t t3 (by decide)
        have u5 : zT κ_36 y111_5 = 8 := F2.t t5 (by decide)
        have u8 : zT κ_36 y111_8 = 8 := F2.t t8 (by decide)
        intro W38
        intro M39
        refine ⟨fun c40 => ?_, fun c40 => ?_⟩
        · skip
          intro T41
          intro T42
          refine Nu_plus_c W38 T41 T42 6500 30000000 ?_ (fun κ_43 q44 => ?_)
          · rw [es36, et36, ns.2.2]
            exact ⟨ns.1 I1, nuI_mono (by decide) I2, ro_n h7 h6 (by decide), ⟨by omega, by omega⟩, by decide⟩
          intro W45
          intro M46
          refine hj169 _ _ _ _ _ _ _ _ _ W45 ?_ ?_ ?_ ?_ ?_
          · exact M46.1 _ _ (Or.inr (by decide)) T36  -- t17
          · exact M46.1 _ _ (Or.inr (by decide)) u3  -- t18
          · exact M46.1 _ _ (Or.inr (by decide)) u5  -- t19
          · exact M46.1 _ _ (Or.inr (by decide)) u8  -- t20
          · rw [es36, et36, ns.2.1, V1, V2] at q44
            obtain ⟨F3, I3, V3⟩ := q44
            have Zf3 : zF (soF ρ (fun r => r = 7) (zR κ soCalc a0)) κ_36 κ_43 := soF_1 h7 F3
            refine ⟨rfl, rfl, rfl, ⟨⟨Z36.tr (soF_m (fun r z => Or.inl (by omega)) Zf3), nm_1 W38 N36 F3 (by rw [h7]; exact I3), so_1 W38 T36 S36 F3⟩, cl_f9 W38 T36 N36 Zf3 (fun r h z => by omega) K36⟩, ⟨r1, r2, rfl⟩, ⟨c1, c2, rfl⟩, ⟨f3, f5⟩, f8, ?_⟩
            rw [V3]
            unfold nA9
            rw [if_neg (fun z => c40 (Int32.toInt.inj (by rw [f7, ← z]; exact kr)))]
        · skip
          intro T47
          intro T48
          refine Nu_minus_c W38 T47 T48 6500 30000000 ?_ (fun κ_49 q50 => ?_)
          · rw [es36, et36, ns.2.1, V1, V2]
            have ea : aT9 m9 x32_6.toNatClampNeg = x12_4.toNatClampNeg := by rw [c40] at f7; omega
            refine ⟨ns.1 I1, nuI_mono (by decide) I2, ro_n h7 h6 (by decide), ?_⟩
            rw [ea]
            exact (dom_9 (q := q9) (fun j a b => (H.2.1 j a b).1) (by omega) (by omega)).2
          intro W51
          intro M52
          refine hj169 _ _ _ _ _ _ _ _ _ W51 ?_ ?_ ?_ ?_ ?_
          · exact M52.1 _ _ (Or.inr (by decide)) T36  -- t23
          · exact M52.1 _ _ (Or.inr (by decide)) u3  -- t24
          · exact M52.1 _ _ (Or.inr (by decide)) u5  -- t25
          · exact M52.1 _ _ (Or.inr (by decide)) u8  -- t26
          · rw [es36, et36, ns.2.1, V1, V2] at q50
            obtain ⟨F3, I3, V3⟩ := q50
            have Zf3 : zF (soF ρ (fun r => r = 7) (zR κ soCalc a0)) κ_36 κ_49 := soF_1 h7 F3
            refine ⟨rfl, rfl, rfl, ⟨⟨Z36.tr (soF_m (fun r z => Or.inl (by omega)) Zf3), nm_1 W38 N36 F3 (by rw [h7]; exact I3), so_1 W38 T36 S36 F3⟩, cl_f9 W38 T36 N36 Zf3 (fun r h z => by omega) K36⟩, ⟨r1, r2, rfl⟩, ⟨c1, c2, rfl⟩, ⟨f3, f5⟩, f8, ?_⟩
            rw [V3]
            unfold nA9
            rw [if_pos (by rw [c40] at f7; omega)]
    have hj93 : ∀ (l0 : Nat) (l1 : Int32) (l2 : Int32) (l3 : Nat) (l4 : Int32) (l5 : Nat) (l6 : Int32) (l7 : Int32) (l8 : Nat) (l9 : Nat) (s0 : Int32) (τ : zS), zW C (zn κ) τ → zT τ l0 = 12 → zT τ l3 = 8 → zT τ l5 = 8 → zT τ l8 = 8 → zT τ l9 = 8 → (a0 = l0 ∧ a1 = l1 ∧ a2 = l2 ∧ elJ9 ρ κ τ a0 M9 m9 a1.toNatClampNeg q9 l4.toNatClampNeg l6.toNatClampNeg ∧ (a1.toInt < l4.toInt ∧ l4.toInt < a2.toInt ∧ x12_4 = l4) ∧ (a1.toInt < l6.toInt ∧ l6.toInt ≤ a2.toInt ∧ x32_6 = l6) ∧ (l3 = cU9 κ a0 a1.toNatClampNeg a1.toNatClampNeg ∧ l5 = cU9 κ a0 l4.toNatClampNeg a1.toNatClampNeg) ∧ l7.toInt = (aT9 m9 l6.toNatClampNeg : Int) ∧ (l8 = cU9 κ a0 l4.toNatClampNeg (aT9 m9 l6.toNatClampNeg) ∧ l9 = cU9 κ a0 a1.toNatClampNeg (aT9 m9 l6.toNatClampNeg)) ∧ (s0 = 0 → M9 l4.toNatClampNeg a1.toNatClampNeg * M9 a1.toNatClampNeg (aT9 m9 l6.toNatClampNeg) = 0)) → w_So_eliminate_93 C (zn κ) Q (fun (l0' : Nat) (l1' : Int32) (l2' : Int32) (l3' : Nat) (l4' : Int32) (τ : zS) => ∃ k < n12, (fun (n : Nat) (l0 : Nat) (l1 : Int32) (l2 : Int32) (l3 : Nat) (l4 : Int32) (τ : zS) => n = (a2.toInt - l4.toInt).toNat ∧ (a0 = l0 ∧ a1 = l1 ∧ a2 = l2 ∧ elJ9 ρ κ τ a0 M9 m9 a1.toNatClampNeg q9 l4.toNatClampNeg (a1.toNatClampNeg + 1) ∧ (a1.toInt < l4.toInt ∧ l4.toInt ≤ a2.toInt) ∧ l3 = cU9 κ a0 a1.toNatClampNeg a1.toNatClampNeg)) k l0' l1' l2' l3' l4' τ) (fun (l0' : Nat) (l1' : Int32) (l2' : Int32) (l3' : Nat) (l4' : Int32) (l5' : Nat) (l6' : Int32) (τ : zS) => ∃ k < n32, (fun (n : Nat) (l0 : Nat) (l1 : Int32) (l2 : Int32) (l3 : Nat) (l4 : Int32) (l5 : Nat) (l6 : Int32) (τ : zS) => n = (a2.toInt + 1 - l6.toInt).toNat ∧ (a0 = l0 ∧ a1 = l1 ∧ a2 = l2 ∧ elJ9 ρ κ τ a0 M9 m9 a1.toNatClampNeg q9 l4.toNatClampNeg l6.toNatClampNeg ∧ (a1.toInt < l4.toInt ∧ l4.toInt < a2.toInt ∧ x12_4 = l4) ∧ (a1.toInt < l6.toInt ∧ l6.toInt ≤ a2.toInt + 1) ∧ l3 = cU9 κ a0 a1.toNatClampNeg a1.toNatClampNeg ∧ l5 = cU9 κ a0 l4.toNatClampNeg a1.toNatClampNeg)) k l0' l1' l2' l3' l4' l5' l6' τ) l0 l1 l2 l3 l4 l5 l6 l7 l8 l9 s0 τ := by
      rintro _ _ _ y93_3 y93_4 y93_5 y93_6 y93_7 y93_8 y93_9 y93_s0 τ93 W93 T93_0 T93_1 T93_2 T93_3 T93_4 ⟨rfl, rfl, rfl, j93⟩
      unfold w_So_eliminate_93
      refine ⟨fun c53 => ?_, fun c53 => ?_⟩
      · skip
        refine hj111 _ _ _ _ _ _ _ _ _ _ _ _ W93 ?_ ?_ ?_ ?_ ?_ ?_
        · assumption  -- t28
        · assumption  -- t29
        · assumption  -- t30
        · assumption  -- t31
        · assumption  -- t32
        · exact ⟨rfl, rfl, rfl, j93⟩  -- k33
      · skip
        refine ⟨fun c54 => ?_, fun c54 => ?_⟩
        · skip
          refine hj111 _ _ _ _ _ _ _ _ _ _ _ _ W93 ?_ ?_ ?_ ?_ ?_ ?_
          · assumption  -- t34
          · assumption  -- t35
          · assumption  -- t36
          · assumption  -- t37
          · assumption  -- t38
          · exact ⟨rfl, rfl, rfl, j93⟩  -- k39
        · skip
          intro x55 hx55
          obtain ⟨⟨⟨Z2, N2, S2⟩, K2⟩, ⟨r1, r2, er⟩, ⟨c1, c2, ec⟩, ⟨f3, f5⟩, f7, ⟨f8, f9⟩, fl⟩ := j93
          subst er
          subst ec
          refine ⟨_, ?_, rfl, ?_⟩
          · rw [hn32, hx55, ix.2]; omega  -- d40
          · have hat := aT9_c (m := m9) (col := x32_6.toNatClampNeg) (by omega)
            have U := (so_rw9 W Ta0 Z2).2.2.2
            have k1 := K2.2 x12_4.toNatClampNeg (aT9 m9 x32_6.toNatClampNeg) (by omega) (by omega)
            have g1 := cl_g9 N2 K2 (i := x12_4.toNatClampNeg) (j := aT9 m9 x32_6.toNatClampNeg) (by omega) (by omega)
            rw [U, ← f8] at k1 g1
            have z := nu_00 g1.2.2.1 (by rw [c53]; exact Int.le_refl _)
            rw [k1.2.2] at z
            refine ⟨rfl, rfl, rfl, ⟨⟨Z2, N2, S2⟩, ?_⟩, ⟨r1, r2, rfl⟩, ⟨by rw [hx55, ix.2]; omega, by rw [hx55, ix.2]; omega⟩, f3, f5⟩
            rw [hx55, ix.1, ← eN9_s hm (by omega) (by omega) hat]
            refine cl_eq9 K2 (fun i j _ _ => ?_)
            by_cases y : i = x12_4.toNatClampNeg ∧ j = aT9 m9 x32_6.toNatClampNeg
            · rw [if_pos y, y.1, y.2, z]
              rw [eN9_o (by omega)] at z
              unfold nB9
              rw [z, fl c54, Nat.mul_zero]
              split <;> rw [Nat.zero_div]
            · rw [if_neg y]
    have hj51 : ∀ (l0 : Nat) (l1 : Int32) (l2 : Int32) (l3 : Nat) (l4 : Int32) (l5 : Nat) (l6 : Int32) (s0 : Int32) (τ : zS), zW C (zn κ) τ → zT τ l0 = 12 → zT τ l3 = 8 → zT τ l5 = 8 → (a0 = l0 ∧ a1 = l1 ∧ a2 = l2 ∧ elJ9 ρ κ τ a0 M9 m9 a1.toNatClampNeg q9 l4.toNatClampNeg l6.toNatClampNeg ∧ (a1.toInt < l4.toInt ∧ l4.toInt < a2.toInt ∧ x12_4 = l4) ∧ (a1.toInt < l6.toInt ∧ l6.toInt ≤ a2.toInt ∧ x32_6 = l6) ∧ (l3 = cU9 κ a0 a1.toNatClampNeg a1.toNatClampNeg ∧ l5 = cU9 κ a0 l4.toNatClampNeg a1.toNatClampNeg) ∧ s0.toInt = (aT9 m9 l6.toNatClampNeg : Int)) → w_So_eliminate_51 C (zn κ) Q (fun (l0' : Nat) (l1' : Int32) (l2' : Int32) (l3' : Nat) (l4' : Int32) (τ : zS) => ∃ k < n12, (fun (n : Nat) (l0 : Nat) (l1 : Int32) (l2 : Int32) (l3 : Nat) (l4 : Int32) (τ : zS) => n = (a2.toInt - l4.toInt).toNat ∧ (a0 = l0 ∧ a1 = l1 ∧ a2 = l2 ∧ elJ9 ρ κ τ a0 M9 m9 a1.toNatClampNeg q9 l4.toNatClampNeg (a1.toNatClampNeg + 1) ∧ (a1.toInt < l4.toInt ∧ l4.toInt ≤ a2.toInt) ∧ l3 = cU9 κ a0 a1.toNatClampNeg a1.toNatClampNeg)) k l0' l1' l2' l3' l4' τ) (fun (l0' : Nat) (l1' : Int32) (l2' : Int32) (l3' : Nat) (l4' : Int32) (l5' : Nat) (l6' : Int32) (τ : zS) => ∃ k < n32, (fun (n : Nat) (l0 : Nat) (l1 : Int32) (l2 : Int32) (l3 : Nat) (l4 : Int32) (l5 : Nat) (l6 : Int32) (τ : zS) => n = (a2.toInt + 1 - l6.toInt).toNat ∧ (a0 = l0 ∧ a1 = l1 ∧ a2 = l2 ∧ elJ9 ρ κ τ a0 M9 m9 a1.toNatClampNeg q9 l4.toNatClampNeg l6.toNatClampNeg ∧ (a1.toInt < l4.toInt ∧ l4.toInt < a2.toInt ∧ x12_4 = l4) ∧ (a1.toInt < l6.toInt ∧ l6.toInt ≤ a2.toInt + 1) ∧ l3 = cU9 κ a0 a1.toNatClampNeg a1.toNatClampNeg ∧ l5 = cU9 κ a0 l4.toNatClampNeg a1.toNatClampNeg)) k l0' l1' l2' l3' l4' l5' l6' τ) l0 l1 l2 l3 l4 l5 l6 s0 τ := by
      rintro _ _ _ y51_3 y51_4 y51_5 y51_6 y51_s0 τ51 W51 T51_0 T51_1 T51_2 ⟨rfl, rfl, rfl, j51⟩
      unfold w_So_eliminate_51
      intro T56
      obtain ⟨⟨⟨Z2, N2, S2⟩, K2⟩, ⟨r1, r2, er⟩, ⟨c1, c2, ec⟩, ⟨f3, f5⟩, f7⟩ := j51
      subst er
      subst ec
      have hat := aT9_c (m := m9) (col := x32_6.toNatClampNeg) (by omega)
      have U := (so_rw9 W Ta0 Z2).2.2.2
      have ks := cnk (x := y51_s0) (by omega)
      have e7 : y51_s0.toNatClampNeg = aT9 m9 x32_6.toNatClampNeg := by omega
      refine So_cell_c2 W51 T56  ?_ (fun r57 q59 => ?_)
      · rw [e7]
        exact ⟨K2.1, ⟨by omega, by omega⟩, ⟨by omega, by omega⟩, (K2.2 _ _ (by omega) (by omega)).1⟩
      intro W60
      intro M61
      intro T62
      intro T63
      refine So_cell_c2 W60 T63  ?_ (fun r64 q66 => ?_)
      · rw [e7]
        exact ⟨K2.1, ⟨p1.1, by omega⟩, ⟨by omega, by omega⟩, (K2.2 _ _ (by omega) (by omega)).1⟩
      intro W67
      intro M68
      intro T69
      rw [e7, U] at q59 q66
      have k2 := K2.2 x12_4.toNatClampNeg a1.toNatClampNeg (by omega) (Or.inl (by omega))
      have k3 := K2.2 a1.toNatClampNeg (aT9 m9 x32_6.toNatClampNeg) (by omega) (by omega)
      have g2 := cl_g9 N2 K2 (i := x12_4.toNatClampNeg) (j := a1.toNatClampNeg) (by omega) (Or.inl (by omega))
      have g3 := cl_g9 N2 K2 (i := a1.toNatClampNeg) (j := aT9 m9 x32_6.toNatClampNeg) (by omega) (by omega)
      rw [U] at k2 k3 g2 g3
      rw [eN9_o (by omega)] at k2 k3
      rw [← f5] at k2 g2
      rw [← q66] at k3 g3
      refine ⟨fun c70 => ?_, fun c70 => ?_⟩
      · skip
        refine hj93 _ _ _ _ _ _ _ _ _ _ _ _ W67 ?_ ?_ ?_ ?_ ?_ ?_
        · assumption  -- t44
        · assumption  -- t45
        · assumption  -- t46
        · assumption  -- t47
        · assumption  -- t48
        · refine ⟨rfl, rfl, rfl, ⟨⟨Z2, N2, S2⟩, K2⟩, ⟨r1, r2, rfl⟩, ⟨c1, c2, rfl⟩, ⟨f3, f5⟩, f7, ⟨q59, q66⟩, fun _ => ?_⟩
          rw [lei, t0i] at c70
          have z := nu_00 g2.2.2.1 c70
          rw [k2.2.2] at z
          rw [z, Nat.zero_mul]
      · skip
        refine ⟨fun c71 => ?_, fun c71 => ?_⟩
        · skip
          refine hj93 _ _ _ _ _ _ _ _ _ _ _ _ W67 ?_ ?_ ?_ ?_ ?_ ?_
          · assumption  -- t50
          · assumption  -- t51
          · assumption  -- t52
          · assumption  -- t53
          · assumption  -- t54
          · refine ⟨rfl, rfl, rfl, ⟨⟨Z2, N2, S2⟩, K2⟩, ⟨r1, r2, rfl⟩, ⟨c1, c2, rfl⟩, ⟨f3, f5⟩, f7, ⟨q59, q66⟩, fun _ => ?_⟩
            rw [lei, t0i] at c71
            have z := nu_00 g3.2.2.1 c71
            rw [k3.2.2] at z
            rw [z, Nat.mul_zero]
        · skip
          refine hj93 _ _ _ _ _ _ _ _ _ _ _ _ W67 ?_ ?_ ?_ ?_ ?_ ?_
          · assumption  -- t56
          · assumption  -- t57
          · assumption  -- t58
          · assumption  -- t59
          · assumption  -- t60
          · exact ⟨rfl, rfl, rfl, ⟨⟨Z2, N2, S2⟩, K2⟩, ⟨r1, r2, rfl⟩, ⟨c1, c2, rfl⟩, ⟨f3, f5⟩, f7, ⟨q59, q66⟩, fun z => absurd z (by decide)⟩  -- k61
    refine ⟨fun c72 => ?_, fun c72 => ?_⟩
    · skip
      intro x73 hx73
      refine ⟨_, ?_, rfl, ?_⟩
      · rw [lti] at c72
        have iy := cn1 (x := x12_4) (by omega) (by omega)
        rw [hn12, hx73, iy.2]; omega
      · rw [lti] at c72
        have iy := cn1 (x := x12_4) (by omega) (by omega)
        obtain ⟨⟨Z2, N2, S2⟩, K2⟩ := J2
        refine ⟨rfl, rfl, rfl, ⟨⟨Z2, N2, S2⟩, ?_⟩, ⟨by rw [hx73, iy.2]; omega, by rw [hx73, iy.2]; omega⟩, e3⟩
        have e : x32_6.toNatClampNeg = m9 + 1 := by omega
        rw [e, eN9_r hm (by omega) (by omega)] at K2
        rw [hx73, iy.1]
        exact K2
    · skip
      refine ⟨fun c74 => ?_, fun c74 => ?_⟩
      · skip
        refine hj51 _ _ _ _ _ _ _ _ _ W32 ?_ ?_ ?_ ?_
        · assumption  -- t64
        · assumption  -- t65
        · assumption  -- t66
        · rw [lti] at c72
          rw [lei] at c74
          refine ⟨rfl, rfl, rfl, J2, ⟨l41, l42, rfl⟩, ⟨l6.1, by omega, rfl⟩, ⟨e3, e5⟩, ?_⟩
          unfold aT9
          rw [if_pos (by omega)]
          rfl
      · skip
        refine hj51 _ _ _ _ _ _ _ _ _ W32 ?_ ?_ ?_ ?_
        · assumption  -- t68
        · assumption  -- t69
        · assumption  -- t70
        · rw [lti] at c72
          rw [lei] at c74
          refine ⟨rfl, rfl, rfl, J2, ⟨l41, l42, rfl⟩, ⟨l6.1, by omega, rfl⟩, ⟨e3, e5⟩, ?_⟩
          unfold aT9
          rw [if_neg (by omega)]
          exact kc.symm

end
section
set_option maxHeartbeats 1600000
/-! the class: Solver's putBack -/
def gE9 (r : Nat) : Nat := 6 * (31 - r) + 23 * (496 - r * (r + 1) / 2)
theorem gE9_s : ∀ r, r < 31 → gE9 r = gE9 (r + 1) + (6 + 23 * (r + 1)) := by decide
theorem gE9_0 : gE9 0 = 11594 := by decide
theorem pb_b9 {S E r k : Nat} (hk : k ≤ 31) (hr : r < 31) (h : S ≤ E + k * (8000000 ^ (r + 1) * (E * 2 ^ gE9 (r + 1)))) : S ≤ E * 2 ^ gE9 r := by
  have e : 2 ^ gE9 r = 2 ^ gE9 (r + 1) * (2 ^ 6 * 2 ^ (23 * (r + 1))) := by rw [gE9_s r hr, Nat.pow_add, Nat.pow_add]
  have d : 8000000 ^ (r + 1) ≤ 2 ^ (23 * (r + 1)) := by
    rw [Nat.pow_mul]
    exact Nat.pow_le_pow_left (by decide) _
  have p1 : 0 < 8000000 ^ (r + 1) := Nat.pow_pos (by decide)
  have p2 : 0 < 2 ^ gE9 (r + 1) := Nat.pow_pos (by decide)
  generalize 8000000 ^ (r + 1) = A at *
  generalize 2 ^ gE9 (r + 1) = B at *
  generalize 2 ^ (23 * (r + 1)) = C at *
  have t : E ≤ A * (E * B) := by
    rw [← Nat.mul_assoc, Nat.mul_comm A E, Nat.mul_assoc]
    exact Nat.le_mul_of_pos_right _ (Nat.mul_pos p1 p2)
  have t2 : k * (A * (E * B)) ≤ 31 * (A * (E * B)) := Nat.mul_le_mul_right _ hk
  have t3 : A * (E * B) ≤ C * (E * B) := Nat.mul_le_mul_right _ d
  have e2 : E * (B * (2 ^ 6 * C)) = 64 * (C * (E * B)) := by
    rw [show (2 : Nat) ^ 6 = 64 from rfl]
    simp only [Nat.mul_assoc, Nat.mul_comm, Nat.mul_left_comm]
  rw [e, e2]
  omega
theorem gE9_m {E r : Nat} (h : r < 31) : E * 2 ^ gE9 (r + 1) ≤ E * 2 ^ gE9 r := Nat.mul_le_mul_left _ (Nat.pow_le_pow_right (by decide) (by rw [gE9_s r h]; omega))
theorem gE9_z {r : Nat} (h : r ≤ 31) : gE9 r ≤ gE9 0 := by
  unfold gE9
  have a : 6 * (31 - r) ≤ 6 * (31 - 0) := by omega
  have b : 23 * (496 - r * (r + 1) / 2) ≤ 23 * (496 - 0 * (0 + 1) / 2) := by omega
  omega
theorem dm_9 {x : Int32} (h : 0 ≤ x.toInt) : (x + -1).toInt = x.toInt - 1 := by
  have tm : (-1 : Int32).toInt = -1 := rfl
  have hi := ihi x
  have q := add_i (x := x) (y := -1) (by rw [tm]; omega) (by rw [tm]; omega)
  rw [tm] at q
  omega
theorem So_putBack_c {C : zC} {n0 : Nat} {a0 : Nat} {a1 : Int32} {a2 : Nat} {κ : zS} {Q : zS → Prop} (W : zW C n0 κ) (Ta0 : zT κ a0 = 12) (Ta2 : zT κ a2 = 8) (ρ : Nat → Nat) (M9 : Nat → Nat → Nat) (m9 E9 : Nat) (hp : (nmI ρ κ ∧ soI ρ κ a0) ∧ clI9 ρ κ a0 m9 M9 ∧ (1 ≤ m9 ∧ m9 ≤ 32 ∧ a1.toInt = (m9 : Int)) ∧ a2 = cU9 κ a0 (m9 - 1) (m9 - 1) ∧ (∀ r c, r < m9 → r ≤ c → c < m9 → M9 r c ≤ 8000000 ^ (r + 1)) ∧ (∀ r, r < m9 → M9 r 32 * 8000000 ^ 32 ≤ E9) ∧ E9 * 2 ^ gE9 0 < pB9 1960) (h : ∀ (κ' : zS), ((zF (soF ρ elR9 (zR κ soCalc a0)) κ κ' ∧ nmI ρ κ' ∧ soI ρ κ' a0) ∧ ∃ M' : Nat → Nat → Nat, clI9 ρ κ' a0 m9 M' ∧ (∀ i j, j ≠ 32 → M' i j = M9 i j) ∧ ∀ i, i < m9 → M' i 32 < pB9 1960) → Q κ') : zRun C 4 mSo_putBack [.ref a0, .int a1, .ref a2] κ (oV Q noX) := by
  refine So_putBack_run W Ta0 Ta2 ?_
  replace W := W.lo (Nat.le_trans W.1.2.1 W.1.2.2) (Nat.le_refl (zn κ))
  unfold w_So_putBack_0
  obtain ⟨⟨N0, S0⟩, K0, ⟨m1, hm, m2⟩, ha, b1, b2, b3⟩ := hp
  have h7 := S0.1.2.2.2.2.1
  have h6 := S0.1.2.2.2.1
  have t32 : (32 : Int32).toNatClampNeg = 32 := by decide
  have t2 : (2 : Int32).toInt = 2 := rfl
  have tm : (-1 : Int32).toInt = -1 := rfl
  have pD : 0 < 8000000 ^ 32 := Nat.pow_pos (by decide)
  have bE : ∀ r, r < m9 → M9 r 32 ≤ E9 := fun r hr => Nat.le_trans (Nat.le_mul_of_pos_right _ pD) (b2 r hr)
  have cA : M9 (m9 - 1) (m9 - 1) ≤ 8000000 ^ 32 := Nat.le_trans (b1 _ _ (by omega) (Nat.le_refl _) (by omega)) (Nat.pow_le_pow_right (by decide) (by omega))
  intro x1 hx1
  have hx : x1.toInt = a1.toInt - 2 := by
    have q := sub_i (x := a1) (y := 2) (by rw [t2]; omega) (by rw [t2]; omega)
    rw [t2] at q
    rw [hx1]
    exact q
  unfold w_So_putBack_4
  refine ⟨fun n l0 l1 l2 l3 τ => n = (l3.toInt + 1).toNat ∧ (a0 = l0 ∧ a1 = l1 ∧ a2 = l2 ∧ (zF (soF ρ elR9 (zR κ soCalc a0)) κ τ ∧ nmI ρ τ ∧ soI ρ τ a0) ∧ (-1 ≤ l3.toInt ∧ l3.toInt + 1 < m9) ∧ ∃ M' : Nat → Nat → Nat, clI9 ρ τ a0 m9 M' ∧ (∀ i j, j ≠ 32 → M' i j = M9 i j) ∧ (∀ i : Nat, (i : Int) ≤ l3.toInt → M' i 32 = M9 i 32) ∧ ∀ i : Nat, l3.toInt < (i : Int) → i < m9 → M' i 32 ≤ E9 * 2 ^ gE9 (l3.toInt + 1).toNat), ⟨_, rfl, ?_⟩, ?_⟩
  · refine ⟨rfl, rfl, rfl, ⟨zF.rf, N0, S0⟩, ⟨by omega, by omega⟩, M9, K0, fun _ _ _ => rfl, fun _ _ => rfl, fun i h1 h2 => ?_⟩
    exact Nat.le_trans (bE i h2) (Nat.le_mul_of_pos_right _ (Nat.pow_pos (by decide)))
  rintro n4 _ _ _ x4_3 κ4 W4 T4_0 T4_1 ⟨hn4, rfl, rfl, rfl, i4⟩
  obtain ⟨⟨Z1, N1, S1⟩, l1, M1, K1, e1, e2, e3⟩ := i4
  refine ⟨fun c2 => ?_, fun c2 => ?_⟩
  · skip
    refine h _ ?_
    · rw [lti, t0i] at c2
      refine ⟨⟨Z1, N1, S1⟩, M1, K1, e1, fun i hi => ?_⟩
      have q := e3 i (by omega) hi
      rw [show (x4_3.toInt + 1).toNat = 0 by omega] at q
      exact Nat.lt_of_le_of_lt q b3
  · skip
    intro T3
    rw [lti, t0i] at c2
    have c2' : 0 ≤ x4_3.toInt := by omega
    have kr := cnk (x := x4_3) (by omega)
    have er : (x4_3.toInt + 1).toNat = x4_3.toNatClampNeg + 1 := by omega
    have U1 := (so_rw9 W Ta0 Z1).2.2.2
    refine So_cell_c2 W4 T3  ?_ (fun r4 q6 => ?_)
    · rw [t32]
      exact ⟨K1.1, ⟨by omega, by omega⟩, ⟨by decide, by decide⟩, (K1.2 _ _ (by omega) (Or.inr rfl)).1⟩
    intro W7
    intro M8
    intro T9
    intro T10
    intro T11
    intro T12
    rw [t32, U1] at q6
    have es1 : zR κ4 soSum a0 = (zR κ soSum a0) := (soF_r9 Z1 (by decide)).1
    have ec1 : zR κ4 soCalc a0 = (zR κ soCalc a0) := (soF_r9 Z1 (by decide)).1
    have kA := K1.2 (m9 - 1) (m9 - 1) (by omega) (Or.inl (by omega))
    have gA := cl_g9 N1 K1 (i := m9 - 1) (j := m9 - 1) (by omega) (Or.inl (by omega))
    have kR := K1.2 x4_3.toNatClampNeg 32 (by omega) (Or.inr rfl)
    have gR := cl_g9 N1 K1 (i := x4_3.toNatClampNeg) (j := 32) (by omega) (Or.inr rfl)
    rw [U1, ← ha, e1 _ _ (by omega)] at kA
    rw [U1, ← ha] at gA
    rw [U1, ← q6, e2 _ (by omega)] at kR
    rw [U1, ← q6] at gR
    have gs1 := nm_g N1 (w := (zR κ soSum a0)) h7 (Or.inl ⟨by decide, by decide⟩) (by decide)
    have xA := nuK_lt gA.2.2.1 (k := 24) (by rw [kA.2.2]; exact Nat.lt_of_le_of_lt cA (dp_9 (by decide)))
    have xE : E9 < pB9 1960 := Nat.lt_of_le_of_lt (Nat.le_mul_of_pos_right _ (Nat.pow_pos (by decide))) b3
    have xR := nuK_lt gR.2.2.1 (k := 1960) (by rw [kR.2.2]; exact Nat.lt_of_le_of_lt (bE _ (by omega)) xE)
    refine Nu_product_c W7 T10 T11 T12 6500 30000000 30000000 ?_ (fun κ_13 q14 => ?_)
    · rw [es1]
      exact ⟨gs1.2.2, ⟨gA.2.2.1, gR.2.2.1⟩, ⟨ro_n h7 kA.2.1 (by omega), ro_n h7 kR.2.1 (by omega)⟩, by omega, by decide⟩
    intro W15
    intro M16
    intro x17 hx17
    rw [es1, kA.2.2, kR.2.2] at q14
    obtain ⟨F1, I1, V1⟩ := q14
    have Zf1 : zF (soF ρ (fun r => r = 7) (zR κ soCalc a0)) κ4 κ_13 := soF_1 h7 F1
    have N13 : nmI ρ κ_13 := nm_1 W4 N1 F1 (by rw [h7]; exact I1)
    have S13 : soI ρ κ_13 a0 := so_1 W4 T4_0 S1 F1
    have K13 := cl_f9 W4 T4_0 N1 Zf1 (fun r h z => by omega) K1
    have Z13 : zF (soF ρ elR9 (zR κ soCalc a0)) κ κ_13 := Z1.tr (soF_m (fun r z => Or.inl (by omega)) Zf1)
    have ix := cn1 (x := x4_3) (by omega) (by omega)
    unfold w_So_putBack_32
    refine ⟨fun n l0 l1 l2 l3 l4 l5 τ => n = (a1.toInt - l5.toInt).toNat ∧ (a0 = l0 ∧ a1 = l1 ∧ a2 = l2 ∧ (zF (soF ρ elR9 (zR κ soCalc a0)) κ τ ∧ nmI ρ τ ∧ soI ρ τ a0) ∧ x4_3 = l3 ∧ (l3.toInt < l5.toInt ∧ l5.toInt ≤ a1.toInt) ∧ clI9 ρ τ a0 m9 M1 ∧ l4 = cU9 κ a0 l3.toNatClampNeg 32 ∧ nuN τ (zR κ soSum a0) ≤ E9 + (l5.toInt - l3.toInt - 1).toNat * (8000000 ^ (l3.toNatClampNeg + 1) * (E9 * 2 ^ gE9 (l3.toNatClampNeg + 1)))), ⟨_, rfl, ?_⟩, ?_⟩
    · refine ⟨rfl, rfl, rfl, ⟨Z13, N13, S13⟩, rfl, ⟨by rw [hx17, ix.2]; omega, by rw [hx17, ix.2]; omega⟩, K13, q6, ?_⟩
      refine Nat.le_trans ?_ (Nat.le_add_right _ _)
      rw [V1, Nat.mul_comm]
      exact Nat.le_trans (Nat.mul_le_mul_left _ cA) (b2 _ (by omega))
    rintro n32 _ _ _ x32_3 x32_4 x32_5 κ32 W32 T32_0 T32_1 T32_2 ⟨hn32, rfl, rfl, rfl, i32⟩
    obtain ⟨⟨Z2, N2, S2⟩, el, l5, K2, f4, VS⟩ := i32
    subst el
    have kc := cnk (x := x32_5) (by omega)
    have U2 := (so_rw9 W Ta0 Z2).2.2.2
    have es2 : zR κ32 soSum a0 = (zR κ soSum a0) := (soF_r9 Z2 (by decide)).1
    have et2 : zR κ32 soTerm a0 = (zR κ soTerm a0) := (soF_r9 Z2 (by decide)).1
    have ec2 : zR κ32 soCalc a0 = (zR κ soCalc a0) := (soF_r9 Z2 (by decide)).1
    have bS := pb_b9 (by omega) (by omega) VS
    have lS : nuN κ32 (zR κ soSum a0) < pB9 1960 := Nat.lt_of_le_of_lt (Nat.le_trans bS (Nat.mul_le_mul_left _ (Nat.pow_le_pow_right (by decide) (gE9_z (by omega))))) b3
    have gs2 := nm_g N2 (w := (zR κ soSum a0)) h7 (Or.inl ⟨by decide, by decide⟩) (by decide)
    have kS := nuK_lt gs2.1 lS
    have k32 := K2.2 x4_3.toNatClampNeg 32 (by omega) (Or.inr rfl)
    have g32 := cl_g9 N2 K2 (i := x4_3.toNatClampNeg) (j := 32) (by omega) (Or.inr rfl)
    rw [U2, ← f4] at k32 g32
    refine ⟨fun c18 => ?_, fun c18 => ?_⟩
    · skip
      intro T19
      refine So_cell_c2 W32 T19  ?_ (fun r20 q22 => ?_)
      · rw [lei] at c18
        exact ⟨K2.1, ⟨by omega, by omega⟩, ⟨by omega, by omega⟩, (K2.2 _ _ (by omega) (Or.inl (by omega))).1⟩
      intro W23
      intro M24
      intro T25
      intro T26
      intro T27
      intro T28
      rw [U2] at q22
      have kp := K2.2 x4_3.toNatClampNeg x4_3.toNatClampNeg (by omega) (Or.inl (by omega))
      have gp := cl_g9 N2 K2 (i := x4_3.toNatClampNeg) (j := x4_3.toNatClampNeg) (by omega) (Or.inl (by omega))
      rw [U2, ← q22] at kp gp
      have ci := so_ca N2 S2
      unfold caI caN caK at ci
      have o1 := (caS_n (so_o S2 (w := zR κ32 soSum a0) S2.1.2.2.2.2.1 (by decide))).1
      have o2 := (caS_n (so_o S2 kp.2.1 (by omega))).1
      refine Ca_divide_c W23 T26 T27 T28 6500 ?_ (fun κ_29 q30 => ?_)
      · rw [es2] at o1 ⊢
        exact ⟨⟨ci.2.1.1, ci.2.1.2.1, ci.2.1.2.2.1⟩, ⟨gs2.2.1, gp.2.2.1⟩, ci.1.1, o1, o2, by omega, by decide⟩
      have D := nm_d (a := a0) W32 T32_0 N2 S2 q30
      have Zd0 : zF (soF ρ (fun r => r = 10) (zR κ32 soCalc a0)) κ32 κ_29 := soF_p (fun b z => S2.2.2.1 b ((show b = _ ∨ b = _ ∨ b = _ from z).elim Or.inl (fun z => z.elim (fun y => Or.inr (Or.inl y)) (fun y => Or.inr (Or.inr (Or.inl y)))))) q30.1
      rw [es2] at q30
      obtain ⟨DZ, ⟨DQ, DV⟩, _, _⟩ := q30
      have K29 := cl_f9 W32 T32_0 N2 Zd0 (fun r h z => by omega) K2
      have eU := (so_rw9 W32 T32_0 Zd0).2.2.2 x4_3.toNatClampNeg 32
      rw [U2, ← f4] at eU
      have T29 : zT κ_29 a0 = 12 := Zd0.t T32_0 (by decide)
      have g29 := cl_g9 D.1 K29 (i := x4_3.toNatClampNeg) (j := 32) (by omega) (Or.inr rfl)
      have ec29 : zR κ_29 soCalc a0 = zR κ32 soCalc a0 := (soF_r9 Zd0 (by decide)).1
      have eq29 : zR κ_29 caQuotient (zR κ_29 soCalc a0) = zR κ32 caQuotient (zR κ32 soCalc a0) := by rw [ec29, (soF_r9 Zd0 (f := caQuotient) (by decide)).1]
      have lQ : nuN κ_29 (zR κ32 caQuotient (zR κ32 soCalc a0)) ≤ nuN κ32 (zR κ soSum a0) := by rw [DV]; exact Nat.div_le_self _ _
      have kQ := nuK_lt DQ (k := 1960) (Nat.lt_of_le_of_lt lQ lS)
      have rq := S2.2.2.1 (zR κ32 caQuotient (zR κ32 soCalc a0)) (Or.inl rfl)
      have cp : capR (1000000 + (33 * x4_3.toNatClampNeg + 32)) = 3000 := by rw [cap_c9 (by omega) (Nat.le_refl _)]; rfl
      rw [eU, cp] at g29
      intro W31
      intro M32
      intro T33
      intro T34
      refine Nu_copy_c W31 T33 T34 3000 6500 ?_ (fun κ_35 q36 => ?_)
      · rw [eq29]
        exact ⟨g29.2.1.1.2.1, DQ.1, ro_n k32.2.1 rq (by omega), by omega, by decide⟩
      intro W37
      intro M38
      intro x39 hx39
      rw [eq29] at q36
      obtain ⟨Fc, Bc, Vc, Kc, Zc⟩ := q36
      rw [← eU] at Fc Bc Vc Zc
      have w := cl_w9 W31 T29 D.1 D.2 hm (i0 := x4_3.toNatClampNeg) (j0 := 32) (by omega) (Or.inr rfl) K29 Fc (by rw [cp]; exact ⟨Bc, Zc DQ.2⟩) Vc
      rw [ec29, ec2] at w
      have hx : x39.toInt = x4_3.toInt - 1 := by rw [hx39]; exact dm_9 c2'
      refine ⟨_, ?_, rfl, ?_⟩
      · rw [hn4, hx]; omega  -- d9
      · rw [ec2] at Zd0
        refine ⟨rfl, rfl, rfl, ⟨(Z2.tr (soF_m (fun r z => Or.inl (by omega)) Zd0)).tr w.1.1, w.1.2⟩, ⟨by omega, by omega⟩, _, w.2, fun i j hj => ?_, fun i hi => ?_, fun i h1 h2 => ?_⟩
        · rw [if_neg (by omega)]
          exact e1 i j hj
        · rw [if_neg (by omega)]
          exact e2 i (by omega)
        · have eg : (x39.toInt + 1).toNat = x4_3.toNatClampNeg := by omega
          rw [eg]
          by_cases z : i = x4_3.toNatClampNeg
          · rw [if_pos ⟨z, rfl⟩]
            exact Nat.le_trans (by rw [← ec2]; exact lQ) bS
          · rw [if_neg (by omega)]
            have q := e3 i (by omega) h2
            rw [er] at q
            exact Nat.le_trans q (gE9_m (by omega))
    · skip
      intro T40
      rw [lei] at c18
      have iy := cn1 (x := x32_5) (by omega) (by omega)
      refine So_cell_c2 W32 T40  ?_ (fun r41 q43 => ?_)
      · exact ⟨K2.1, ⟨by omega, by omega⟩, ⟨by omega, by omega⟩, (K2.2 _ _ (by omega) (Or.inl (by omega))).1⟩  -- p11
      intro W44
      intro M45
      intro T46
      refine ⟨fun c47 => ?_, fun c47 => ?_⟩
      · skip
        intro x48 hx48
        refine ⟨_, ?_, rfl, ?_⟩
        · rw [hn32, hx48, iy.2]; omega  -- d12
        · refine ⟨rfl, rfl, rfl, ⟨Z2, N2, S2⟩, rfl, ⟨by rw [hx48, iy.2]; omega, by rw [hx48, iy.2]; omega⟩, K2, f4, ?_⟩
          exact Nat.le_trans VS (Nat.add_le_add_left (Nat.mul_le_mul_right _ (by rw [hx48, iy.2]; omega)) _)
      · skip
        intro T49
        refine So_cell_c2 W44 T49  ?_ (fun r50 q52 => ?_)
        · exact ⟨K2.1, ⟨by omega, by omega⟩, ⟨by omega, by omega⟩, (K2.2 _ _ (by omega) (Or.inl (by omega))).1⟩  -- p14
        intro W53
        intro M54
        intro T55
        intro T56
        refine So_cell_c2 W53 T56  ?_ (fun r57 q59 => ?_)
        · rw [t32]
          exact ⟨K2.1, ⟨by omega, by omega⟩, ⟨by decide, by decide⟩, (K2.2 _ _ (by omega) (Or.inr rfl)).1⟩
        intro W60
        intro M61
        intro T62
        intro T63
        intro T64
        intro T65
        rw [U2] at q52
        rw [t32, U2] at q59
        have ka := K2.2 x4_3.toNatClampNeg x32_5.toNatClampNeg (by omega) (Or.inl (by omega))
        have ga := cl_g9 N2 K2 (i := x4_3.toNatClampNeg) (j := x32_5.toNatClampNeg) (by omega) (Or.inl (by omega))
        have kb := K2.2 x32_5.toNatClampNeg 32 (by omega) (Or.inr rfl)
        have gb := cl_g9 N2 K2 (i := x32_5.toNatClampNeg) (j := 32) (by omega) (Or.inr rfl)
        rw [U2, ← q52, e1 _ _ (by omega)] at ka
        rw [U2, ← q52] at ga
        rw [U2, ← q59] at kb gb
        have va := b1 x4_3.toNatClampNeg x32_5.toNatClampNeg (by omega) (by omega) (by omega)
        have vb := e3 x32_5.toNatClampNeg (by omega) (by omega)
        rw [er] at vb
        have vb2 : M1 x32_5.toNatClampNeg 32 < pB9 1960 := Nat.lt_of_le_of_lt (Nat.le_trans vb (Nat.mul_le_mul_left _ (Nat.pow_le_pow_right (by decide) (gE9_z (by omega))))) b3
        have va2 : M9 x4_3.toNatClampNeg x32_5.toNatClampNeg < pB9 24 := Nat.lt_of_le_of_lt va (dp_9 (by omega))
        have xa := nuK_lt ga.2.2.1 (k := 24) (by rw [ka.2.2]; exact va2)
        have xb := nuK_lt gb.2.2.1 (k := 1960) (by rw [kb.2.2]; exact vb2)
        have gt2 := nm_g N2 (w := (zR κ soTerm a0)) h6 (Or.inl ⟨by decide, by decide⟩) (by decide)
        refine Nu_product_c W60 T63 T64 T65 6500 30000000 30000000 ?_ (fun κ_66 q67 => ?_)
        · rw [et2]
          exact ⟨gt2.2.2, ⟨ga.2.2.1, gb.2.2.1⟩, ⟨ro_n h6 ka.2.1 (by omega), ro_n h6 kb.2.1 (by omega)⟩, by omega, by decide⟩
        rw [et2, ka.2.2, kb.2.2] at q67
        obtain ⟨F2, I2, V2⟩ := q67
        have Zf2 : zF (soF ρ (fun r => r = 6) (zR κ soCalc a0)) κ32 κ_66 := soF_1 h6 F2
        have N66 : nmI ρ κ_66 := nm_1 W32 N2 F2 (by rw [h6]; exact I2)
        have S66 : soI ρ κ_66 a0 := so_1 W32 T32_0 S2 F2
        have K66 := cl_f9 W32 T32_0 N2 Zf2 (fun r h z => by omega) K2
        have Z66 : zF (soF ρ elR9 (zR κ soCalc a0)) κ κ_66 := Z2.tr (soF_m (fun r z => Or.inl (by omega)) Zf2)
        have T66 : zT κ_66 a0 = 12 := F2.t T32_0 (by decide)
        have es66 : zR κ_66 soSum a0 = (zR κ soSum a0) := (soF_r9 Z66 (by decide)).1
        have et66 : zR κ_66 soTerm a0 = (zR κ soTerm a0) := (soF_r9 Z66 (by decide)).1
        have ns := soF_B (c := 6500) (w := (zR κ soSum a0)) W32 (by rw [← es2]; exact ty_soSum W32 T32_0) Zf2 (by rw [h7]; decide)
        have vt : M9 x4_3.toNatClampNeg x32_5.toNatClampNeg * M1 x32_5.toNatClampNeg 32 < pB9 24 * pB9 1960 := Nat.mul_lt_mul'' va2 vb2
        rw [← pB9_a] at vt
        have x66 := nuK_lt I2 (k := 1984) (by rw [V2]; exact vt)
        intro W68
        intro M69
        intro T70
        intro T71
        refine Nu_plus_c W68 T70 T71 6500 30000000 ?_ (fun κ_72 q73 => ?_)
        · rw [es66, et66, ns.2.2]
          exact ⟨ns.1 gs2.1, nuI_mono (by decide) I2, ro_n h7 h6 (by decide), ⟨by omega, by omega⟩, by decide⟩
        intro W74
        intro M75
        intro x76 hx76
        refine ⟨_, ?_, rfl, ?_⟩
        · rw [hn32, hx76, iy.2]; omega  -- d18
        · rw [es66, et66, ns.2.1, V2] at q73
          obtain ⟨F3, I3, V3⟩ := q73
          have Zf3 : zF (soF ρ (fun r => r = 7) (zR κ soCalc a0)) κ_66 κ_72 := soF_1 h7 F3
          refine ⟨rfl, rfl, rfl, ⟨Z66.tr (soF_m (fun r z => Or.inl (by omega)) Zf3), nm_1 W68 N66 F3 (by rw [h7]; exact I3), so_1 W68 T66 S66 F3⟩, rfl, ⟨by rw [hx76, iy.2]; omega, by rw [hx76, iy.2]; omega⟩, cl_f9 W68 T66 N66 Zf3 (fun r h z => by omega) K66, f4, ?_⟩
          have en : (x76.toInt - x4_3.toInt - 1).toNat = (x32_5.toInt - x4_3.toInt - 1).toNat + 1 := by rw [hx76, iy.2]; omega
          rw [V3, en, Nat.add_mul, Nat.one_mul, ← Nat.add_assoc]
          exact Nat.add_le_add VS (Nat.mul_le_mul va vb)

end
