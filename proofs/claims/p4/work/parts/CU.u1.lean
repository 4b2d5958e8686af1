set_option maxHeartbeats 1600000
/-! the class: numbers and fractions that are made -/
theorem pot_x9 {C : zC} {n0 : Nat} {w : Nat → Nat → Nat} {κ κ6 : zS} (W : zW C n0 κ) (hT : ∀ b, b < zn κ → zT κ6 b = zT κ b) (hN : ∀ b, b < zn κ → zN κ6 b = zN κ b) (hR : ∀ f b, b < zn κ → zR κ6 f b = zR κ f b) : zSum (zn κ) (po w κ6) = pot w κ := by
  refine zSum_eq (fun b hb => ?_)
  unfold po
  rw [hT b hb]
  congr 2
  refine List.map_congr_left (fun g hg => ?_)
  obtain ⟨g1, p, g2, g3⟩ := arF_zr hg
  have h3 := W.r g2 g1.symm
  rw [hR g b hb, hN _ (W.2.1 _ (by omega)).2]
theorem arF_8 : arF 8 = [800] := by decide +kernel
theorem arF_11 : arF 11 = [] := by decide +kernel
/-- how many cells of a type there are; how many places of a row are filled -/
def nT9 (t : Nat) (κ : zS) : Nat := zSum (zn κ) (fun b => if zT κ b = t then 1 else 0)
def nn9 (κ : zS) (x : Nat) : Nat := zSum (zN κ x) (fun i => if zQ κ x i = none then 0 else 1)
theorem zSum_le9 {f g : Nat → Nat} : ∀ {n : Nat}, (∀ i, i < n → f i ≤ g i) → zSum n f ≤ zSum n g
  | 0, _ => Nat.le_refl _
  | n + 1, h => by
    show zSum n f + f n ≤ zSum n g + g n
    have a := zSum_le9 (fun i hi => h i (Nat.lt_succ_of_lt hi))
    have b := h n (Nat.lt_succ_self n)
    omega
theorem zSum_z9 {f : Nat → Nat} {m : Nat} : ∀ {n : Nat}, m ≤ n → (∀ i, m ≤ i → i < n → f i = 0) → zSum n f = zSum m f
  | 0, h, _ => by
    have e : m = 0 := by omega
    rw [e]
  | n + 1, h, z => by
    by_cases e : m = n + 1
    · rw [e]
    · show zSum n f + f n = zSum m f
      rw [z n (by omega) (Nat.lt_succ_self n), zSum_z9 (n := n) (by omega) (fun i h1 h2 => z i h1 (Nat.lt_succ_of_lt h2))]
      rfl
theorem nT_09 {t : Nat} {κ τ : zS} (hn : zn τ = zn κ) (hT : ∀ b, b < zn κ → zT τ b = zT κ b) : nT9 t τ = nT9 t κ := by
  unfold nT9
  rw [hn]
  exact zSum_eq (fun b hb => by rw [hT b hb])
theorem nT_19 {t : Nat} {κ τ : zS} (hn : zn τ = zn κ + 1) (hT : ∀ b, b < zn κ → zT τ b = zT κ b) : nT9 t τ = nT9 t κ + (if zT τ (zn κ) = t then 1 else 0) := by
  unfold nT9
  rw [hn]
  show zSum (zn κ) _ + _ = _
  rw [zSum_eq (f := fun b => if zT τ b = t then 1 else 0) (g := fun b => if zT κ b = t then 1 else 0) (fun b hb => by rw [hT b hb])]
theorem nT_29 {t : Nat} {κ τ : zS} (hn : zn τ = zn κ + 2) (hT : ∀ b, b < zn κ → zT τ b = zT κ b) : nT9 t τ = nT9 t κ + (if zT τ (zn κ) = t then 1 else 0) + (if zT τ (zn κ + 1) = t then 1 else 0) := by
  unfold nT9
  rw [hn]
  show zSum (zn κ) _ + _ + _ = _
  rw [zSum_eq (f := fun b => if zT τ b = t then 1 else 0) (g := fun b => if zT κ b = t then 1 else 0) (fun b hb => by rw [hT b hb])]
/-- one cell's type differs -/
theorem nT_d9 {t a : Nat} {κ τ : zS} (hn : zn τ = zn κ) (ha : a < zn κ) (hT : ∀ b, b ≠ a → zT τ b = zT κ b) : nT9 t τ + (if zT κ a = t then 1 else 0) = nT9 t κ + (if zT τ a = t then 1 else 0) := by
  unfold nT9
  rw [hn]
  exact zSum_one (f := fun b => if zT κ b = t then 1 else 0) (g := fun b => if zT τ b = t then 1 else 0) ha (fun b _ h => by
    show (if zT τ b = t then 1 else 0) = if zT κ b = t then 1 else 0
    rw [hT b h])
/-- a step that makes no object -/
theorem nT_z9 {C : zC} {n0 t : Nat} {F : Nat → Nat → Prop} {κ τ : zS} (W : zW C n0 κ) (Z : zF F κ τ) (h : ∀ b, zn κ ≤ b → ¬ F 0 b) (ht : 3 ≤ t ∧ t < 20) : nT9 t τ ≤ nT9 t κ := by
  have key : ∀ b, zT τ b = t → zT κ b = t := fun b e => by
    rcases Z.2.2.2.1.2 b t ht.1 ht.2 e with q | q
    · exact q
    · exact absurd q.2.1 (h b q.2.2)
  unfold nT9
  rw [zSum_z9 (m := zn κ) Z.2.2.2.2.2.2 (fun b h1 h2 => if_neg (fun e => by
    have l := (W.2.1 b (by rw [key b e]; omega)).2
    omega))]
  refine zSum_le9 (fun b _ => ?_)
  show (if zT τ b = t then 1 else 0) ≤ if zT κ b = t then 1 else 0
  by_cases e : zT τ b = t
  · rw [if_pos e, if_pos (key b e)]
    exact Nat.le_refl _
  · rw [if_neg e]
    exact Nat.zero_le _
theorem nn_s9 {κ τ : zS} {x y : Nat} (hN : zN τ y = zN κ x) (hQ : zQ τ y = zQ κ x) : nn9 τ y = nn9 κ x := by
  unfold nn9
  rw [hN, hQ]
/-- an empty place is filled -/
theorem nn_u9 {κ τ : zS} {x y i u : Nat} (hN : zN τ y = zN κ x) (hi : i < zN κ x) (h0 : zQ κ x i = none) (hQ : zQ τ y = va_up (zQ κ x) i (some u)) : nn9 τ y = nn9 κ x + 1 := by
  unfold nn9
  rw [hN]
  have q := zSum_one (f := fun j => if zQ κ x j = none then 0 else 1) (g := fun j => if zQ τ y j = none then 0 else 1) hi (fun j _ hj => by
    show (if zQ τ y j = none then 0 else 1) = if zQ κ x j = none then 0 else 1
    rw [hQ]
    unfold va_up
    rw [if_neg hj])
  have e1 : (if zQ κ x i = none then 0 else 1 : Nat) = 0 := if_pos h0
  have e2 : (if zQ τ y i = none then 0 else 1 : Nat) = 1 := by
    refine if_neg ?_
    rw [hQ]
    unfold va_up
    rw [if_pos rfl]
    exact fun z => by cases z
  rw [e1, e2] at q
  omega
def zV9 (κ : zS) (s : Nat) : Nat := nn9 κ (zR κ soVisits s) + nn9 κ (zR κ soWorths s)
/-- numbers and fractions that are made go into empty places of the Solver's rows -/
def zK9 (κ τ : zS) (s : Nat) : Prop := nT9 8 τ + (nn9 κ (zR κ soCells s) + 2 * zV9 κ s) ≤ nT9 8 κ + (nn9 τ (zR τ soCells s) + 2 * zV9 τ s) ∧ nT9 11 τ + zV9 κ s ≤ nT9 11 κ + zV9 τ s
theorem zK9.rf {κ : zS} {s : Nat} : zK9 κ κ s := ⟨Nat.le_refl _, Nat.le_refl _⟩
theorem zK9.tr {κ τ σ : zS} {s : Nat} (h : zK9 κ τ s) (g : zK9 τ σ s) : zK9 κ σ s := by
  obtain ⟨a, b⟩ := h
  obtain ⟨c, d⟩ := g
  exact ⟨by omega, by omega⟩
theorem zV_z9 {C : zC} {n0 s : Nat} {F : Nat → Nat → Prop} {κ τ : zS} (W : zW C n0 κ) (Ta : zT κ s = 12) (Z : zF F κ τ) (hv : ¬ F soVisits s) (hw : ¬ F soWorths s) : zV9 τ s = zV9 κ s := by
  unfold zV9
  rw [nn_s9 (τ := τ) (κ := κ) (y := zR τ soVisits s) (x := zR κ soVisits s) (by rw [Z.r hv]; exact Z.l (c := 24) (ty_soVisits W Ta)) (Z.row W (f := soVisits) (t := 25) (by decide +kernel) (by decide) Ta hv).2.2, nn_s9 (τ := τ) (κ := κ) (y := zR τ soWorths s) (x := zR κ soWorths s) (by rw [Z.r hw]; exact Z.l (c := 24) (ty_soWorths W Ta)) (Z.row W (f := soWorths) (t := 25) (by decide +kernel) (by decide) Ta hw).2.2]
theorem nC_z9 {C : zC} {n0 s : Nat} {F : Nat → Nat → Prop} {κ τ : zS} (W : zW C n0 κ) (Ta : zT κ s = 12) (Z : zF F κ τ) (hc : ¬ F soCells s) : nn9 τ (zR τ soCells s) = nn9 κ (zR κ soCells s) :=
  nn_s9 (τ := τ) (κ := κ) (y := zR τ soCells s) (x := zR κ soCells s) (by rw [Z.r hc]; exact Z.l (c := 23) (ty_soCells W Ta)) (Z.row W (f := soCells) (t := 24) (by decide +kernel) (by decide) Ta hc).2.2
theorem zK_g9 {C : zC} {n0 s : Nat} {F : Nat → Nat → Prop} {κ τ : zS} (W : zW C n0 κ) (Ta : zT κ s = 12) (Z : zF F κ τ) (h : ∀ b, zn κ ≤ b → ¬ F 0 b) (hc : nn9 κ (zR κ soCells s) ≤ nn9 τ (zR τ soCells s)) (hv : ¬ F soVisits s) (hw : ¬ F soWorths s) : zK9 κ τ s := by
  have e := zV_z9 W Ta Z hv hw
  have n8 := nT_z9 W Z h (t := 8) (by decide)
  have n11 := nT_z9 W Z h (t := 11) (by decide)
  unfold zK9
  rw [e]
  exact ⟨by omega, by omega⟩
theorem zK_z9 {C : zC} {n0 s : Nat} {F : Nat → Nat → Prop} {κ τ : zS} (W : zW C n0 κ) (Ta : zT κ s = 12) (Z : zF F κ τ) (h : ∀ b, zn κ ≤ b → ¬ F 0 b) (hc : ¬ F soCells s) (hv : ¬ F soVisits s) (hw : ¬ F soWorths s) : zK9 κ τ s := zK_g9 W Ta Z h (Nat.le_of_eq (nC_z9 W Ta Z hc).symm) hv hw
theorem mk_Nu9 {C : zC} {n0 n : Nat} {κ κ1 κ4 κ6 : zS} (W : zW C n0 κ) (e1 : κ1 = noo κ 8) (e4 : κ4 = uo (na κ1 20 n) nuLimbs (zn κ) (zn κ1)) (e6 : κ6 = nff κ4 (zn κ)) : zF (fun _ b => zn κ ≤ b) κ κ6 ∧ (zT κ6 (zn κ) = 8 ∧ zR κ6 nuLimbs (zn κ) = zn κ + 1 ∧ zN κ6 (zn κ + 1) = n ∧ zI κ6 nuLength (zn κ) = 0 ∧ zn κ6 = zn κ + 2 ∧ zT κ6 (zn κ + 1) = 20 ∧ zO κ6 (zn κ + 1) = (nuLimbs, zn κ)) ∧ ∀ b, b < zn κ → zT κ6 b = zT κ b := by
  subst e1
  subst e4
  subst e6
  have n1 : zn (noo κ 8) = zn κ + 1 := rfl
  have hT : ∀ b, b < zn κ → zT (nff (uo (na (noo κ 8) 20 n) nuLimbs (zn κ) (zn (noo κ 8))) (zn κ)) b = zT κ b := fun b hb => by
    show (if b = zn κ then _ else if b = zn κ + 1 then 20 else if b = zn κ then 48 else κ.1 b) = κ.1 b
    rw [if_neg (by omega), if_neg (by omega), if_neg (by omega)]
  have hT0 : zT (nff (uo (na (noo κ 8) 20 n) nuLimbs (zn κ) (zn (noo κ 8))) (zn κ)) (zn κ) = 8 := by
    show (if zn κ = zn κ then (if zn κ = zn κ + 1 then 20 else if zn κ = zn κ then 48 else κ.1 (zn κ)) - 40 else _) = 8
    rw [if_pos rfl, if_neg (by omega), if_pos rfl]
  have hT1 : zT (nff (uo (na (noo κ 8) 20 n) nuLimbs (zn κ) (zn (noo κ 8))) (zn κ)) (zn κ + 1) = 20 := by
    show (if zn κ + 1 = zn κ then _ else if zn κ + 1 = zn κ + 1 then 20 else _) = 20
    rw [if_neg (by omega), if_pos rfl]
  have hN : ∀ b, b < zn κ → zN (nff (uo (na (noo κ 8) 20 n) nuLimbs (zn κ) (zn (noo κ 8))) (zn κ)) b = zN κ b := fun b hb => by
    show (if b = zn κ + 1 then n else if b = zn κ then 0 else κ.2.1 b) = κ.2.1 b
    rw [if_neg (by omega), if_neg (by omega)]
  have hN1 : zN (nff (uo (na (noo κ 8) 20 n) nuLimbs (zn κ) (zn (noo κ 8))) (zn κ)) (zn κ + 1) = n := by
    show (if zn κ + 1 = zn κ + 1 then n else _) = n
    rw [if_pos rfl]
  have hI : ∀ f b, b < zn κ → zI (nff (uo (na (noo κ 8) 20 n) nuLimbs (zn κ) (zn (noo κ 8))) (zn κ)) f b = zI κ f b := fun f b hb => by
    show (if b = zn κ then 0 else κ.2.2.1 f b) = κ.2.2.1 f b
    rw [if_neg (by omega)]
  have hR : ∀ f b, b < zn κ → zR (nff (uo (na (noo κ 8) 20 n) nuLimbs (zn κ) (zn (noo κ 8))) (zn κ)) f b = zR κ f b := fun f b hb => by
    show (if f = nuLimbs ∧ b = zn κ then _ else if b = zn κ then 0 else κ.2.2.2.1 f b) = κ.2.2.2.1 f b
    rw [if_neg (by omega), if_neg (by omega)]
  have hR0 : zR (nff (uo (na (noo κ 8) 20 n) nuLimbs (zn κ) (zn (noo κ 8))) (zn κ)) nuLimbs (zn κ) = zn κ + 1 := if_pos ⟨rfl, rfl⟩
  have hI0 : zI (nff (uo (na (noo κ 8) 20 n) nuLimbs (zn κ) (zn (noo κ 8))) (zn κ)) nuLength (zn κ) = 0 := if_pos rfl
  have lt : ∀ x, zT κ x ≠ 0 → x < zn κ := fun x h => (W.2.1 x h).2
  have rows : ∀ x, x < zn κ → zA (nff (uo (na (noo κ 8) 20 n) nuLimbs (zn κ) (zn (noo κ 8))) (zn κ)) x = zA κ x ∧ zJ (nff (uo (na (noo κ 8) 20 n) nuLimbs (zn κ) (zn (noo κ 8))) (zn κ)) x = zJ κ x ∧ zQ (nff (uo (na (noo κ 8) 20 n) nuLimbs (zn κ) (zn (noo κ 8))) (zn κ)) x = zQ κ x ∧ zO (nff (uo (na (noo κ 8) 20 n) nuLimbs (zn κ) (zn (noo κ 8))) (zn κ)) x = zO κ x := fun x hx => by
    have a : x ≠ zn κ + 1 := by omega
    exact ⟨if_neg a, if_neg a, if_neg a, (if_neg a).trans (if_neg a)⟩
  have pt : ∀ w : Nat → Nat → Nat, w 0 8 = 0 → w 0 20 = 0 → pot w (nff (uo (na (noo κ 8) 20 n) nuLimbs (zn κ) (zn (noo κ 8))) (zn κ)) = pot w κ + w 800 n := fun w w8 w20 => by
    have p0 := pot_x9 (w := w) W hT hN hR
    have q0 : po w (nff (uo (na (noo κ 8) 20 n) nuLimbs (zn κ) (zn (noo κ 8))) (zn κ)) (zn κ) = w 800 n := by
      unfold po
      rw [hT0, arF_8, w8, List.map_cons, List.map_nil, List.sum_cons, List.sum_nil]
      show w 800 (zN _ (zR _ nuLimbs (zn κ))) + 0 + 0 = _
      rw [hR0, hN1]
      rfl
    have q1 : po w (nff (uo (na (noo κ 8) 20 n) nuLimbs (zn κ) (zn (noo κ 8))) (zn κ)) (zn κ + 1) = 0 := by
      unfold po
      rw [hT1, arF_no (Or.inl (by decide)), w20]
      rfl
    show zSum (zn κ) (po w _) + po w _ (zn κ) + po w _ (zn κ + 1) = _
    rw [p0, q0, q1]
    rfl
  refine ⟨⟨fun f b h => ⟨hI f b (by omega), hR f b (by omega)⟩, fun x hx _ => rows x (lt x hx), fun x hx _ => (rows x (lt x hx)).2.2.2, ⟨⟨⟨?_, ?_⟩, fun b hb e => (hT b hb).trans e⟩, fun b t9 h3 h20 e => ?_⟩, fun a c _ h => ?_, fun a h => ?_, ?_⟩, ⟨hT0, hR0, hN1, hI0, rfl, hT1, if_pos rfl⟩, hT⟩
  · rw [pt wS rfl rfl]
    have e : wS 800 n = 3 * n + 2 := rfl
    rw [e]
    show zs κ + 2 + n + _ ≤ _
    omega
  · rw [pt wC rfl rfl]
    have e : wC 800 n = 2 * n + 8 := rfl
    rw [e]
    show 4 * (zc κ + 1 + 1) + _ ≤ _
    omega
  · by_cases z1 : b < zn κ
    · rw [hT b z1] at e
      exact Or.inl e
    · by_cases z2 : b = zn κ
      · rw [z2, hT0] at e
        have l : zn κ ≤ b := by omega
        exact Or.inr ⟨Or.inl e.symm, l, l⟩
      · by_cases z3 : b = zn κ + 1
        · rw [z3, hT1] at e
          omega
        · have q : zT (nff (uo (na (noo κ 8) 20 n) nuLimbs (zn κ) (zn (noo κ 8))) (zn κ)) b = zT κ b := by
            show (if b = zn κ then _ else if b = zn κ + 1 then 20 else if b = zn κ then 48 else κ.1 b) = κ.1 b
            rw [if_neg z2, if_neg z3, if_neg z2]
          rw [q] at e
          exact Or.inl e
  · rw [hT a (lt a (by omega))]; exact h
  · exact ⟨by rw [hT a (lt a h)]; exact h, hN a (lt a h)⟩
  · show zn κ ≤ zn κ + 1 + 1
    omega
/-- a fraction that is made -/
theorem mk_Ra9 {C : zC} {n0 : Nat} {κ κ1 κ5 κ6 : zS} (W : zW C n0 κ) (W1 : zW C n0 κ1) (W5 : zW C n0 κ5) (e1 : κ1 = noo κ 11) (Z : zF (fun _ b => zn κ ≤ b) κ1 κ5) (T5 : zT κ5 (zn κ) = 51) (e6 : κ6 = nff κ5 (zn κ)) : zF (fun _ b => zn κ ≤ b) κ κ6 ∧ zT κ6 (zn κ) = 11 ∧ ∀ b, b ≠ zn κ → zT κ6 b = zT κ5 b := by
  have n1 : zn κ1 = zn κ + 1 := by rw [e1]; rfl
  have t1 : ∀ b, b < zn κ → zT κ1 b = zT κ b := fun b hb => by rw [e1]; exact if_neg (by omega)
  have m1 : ∀ b, b < zn κ → zN κ1 b = zN κ b := fun b hb => by rw [e1]; exact if_neg (by omega)
  have i1 : ∀ f b, b < zn κ → zI κ1 f b = zI κ f b := fun f b hb => by rw [e1]; exact if_neg (by omega)
  have r1 : ∀ f b, b < zn κ → zR κ1 f b = zR κ f b := fun f b hb => by rw [e1]; exact if_neg (by omega)
  have t0 : zT κ1 (zn κ) = 51 := by rw [e1]; exact if_pos rfl
  have lt : ∀ x, zT κ x ≠ 0 → x < zn κ := fun x h => (W.2.1 x h).2
  have o1 : zA κ1 = zA κ ∧ zJ κ1 = zJ κ ∧ zQ κ1 = zQ κ ∧ zO κ1 = zO κ := by rw [e1]; exact ⟨rfl, rfl, rfl, rfl⟩
  have t6 : ∀ b, b ≠ zn κ → zT κ6 b = zT κ5 b := fun b hb => by rw [e6]; exact if_neg hb
  have t60 : zT κ6 (zn κ) = 11 := by
    have q : zT κ6 (zn κ) = zT κ5 (zn κ) - 40 := by rw [e6]; exact if_pos rfl
    rw [q, T5]
  have x6 : κ6.2 = κ5.2 := by rw [e6]; rfl
  have p1 : ∀ w : Nat → Nat → Nat, w 0 51 = 0 → pot w κ1 = pot w κ := fun w hw => by
    have p0 := pot_x9 (w := w) W t1 m1 r1
    unfold pot at p0 ⊢
    rw [n1]
    show zSum (zn κ) (po w κ1) + po w κ1 (zn κ) = _
    rw [p0]
    have q : po w κ1 (zn κ) = 0 := by
      unfold po
      rw [t0, arF_no (Or.inl (by decide)), hw]
      rfl
    rw [q]
    rfl
  have l5 : zn κ < zn κ5 := (W5.2.1 (zn κ) (by rw [T5]; decide)).2
  have p6 : ∀ w : Nat → Nat → Nat, w 0 51 = 0 → pot w κ6 = pot w κ5 + w 0 11 := fun w hw => by
    have z := zSum_one (f := po w κ5) (g := po w κ6) (a := zn κ) (n := zn κ5) l5 (fun b _ hb => by
      unfold po
      rw [t6 b hb, show zN κ6 = zN κ5 by rw [e6]; rfl, show zR κ6 = zR κ5 by rw [e6]; rfl])
    have q5 : po w κ5 (zn κ) = 0 := by
      unfold po
      rw [T5, arF_no (Or.inl (by decide)), hw]
      rfl
    have q6 : po w κ6 (zn κ) = w 0 11 := by
      unfold po
      rw [t60, arF_11]
      exact Nat.zero_add _
    rw [q5, q6] at z
    unfold pot
    rw [show zn κ6 = zn κ5 by rw [e6]; rfl]
    exact z
  obtain ⟨Z1, Z2, Z3, ⟨⟨⟨Z4, Z5⟩, Zz⟩, Zt⟩, Z6, Z7, Z8⟩ := Z
  refine ⟨⟨fun f b h => ?_, fun x hx h => ?_, fun x hx h => ?_, ⟨⟨⟨?_, ?_⟩, fun b hb e => (t6 b (Nat.ne_of_lt hb)).trans (Zz b (by omega) ((t1 b hb).trans e))⟩, fun b t9 h3 h20 e => ?_⟩, fun a c hc h => ?_, fun a h => ?_, ?_⟩, t60, t6⟩
  · have q := Z1 f b h
    rw [i1 f b (by omega), r1 f b (by omega)] at q
    rw [show zI κ6 = zI κ5 by rw [e6]; rfl, show zR κ6 = zR κ5 by rw [e6]; rfl]
    exact q
  · have q := Z2 x (by rw [t1 x (lt x hx)]; exact hx) (by rw [o1.2.2.2]; exact h)
    rw [o1.1, o1.2.1, o1.2.2.1, o1.2.2.2] at q
    rw [show zA κ6 = zA κ5 by rw [e6]; rfl, show zJ κ6 = zJ κ5 by rw [e6]; rfl, show zQ κ6 = zQ κ5 by rw [e6]; rfl, show zO κ6 = zO κ5 by rw [e6]; rfl]
    exact q
  · have q := Z3 x (by rw [t1 x (lt x hx)]; exact hx) (by rw [o1.2.2.2]; exact h)
    rw [o1.2.2.2] at q
    rw [show zO κ6 = zO κ5 by rw [e6]; rfl]
    exact q
  · rw [p1 wS rfl] at Z4
    rw [p6 wS rfl, show zs κ6 = zs κ5 by rw [e6]; rfl, show wS 0 11 = 3 from rfl]
    have s1 : zs κ1 = zs κ + 3 := by rw [e1]; rfl
    omega
  · rw [p1 wC rfl] at Z5
    rw [p6 wC rfl, show zc κ6 = zc κ5 by rw [e6]; rfl, show wC 0 11 = 4 from rfl]
    have s1 : zc κ1 = zc κ + 1 := by rw [e1]; rfl
    omega
  · by_cases z : b = zn κ
    · rw [z, t60] at e
      have l : zn κ ≤ b := by omega
      exact Or.inr ⟨Or.inr e.symm, l, l⟩
    · rw [t6 b z] at e
      rcases Zt b t9 h3 h20 e with q | ⟨q1, q2, q3⟩
      · have w : zT κ1 b = zT κ b := by rw [e1]; exact if_neg z
        rw [w] at q
        exact Or.inl q
      · exact Or.inr ⟨q1, q2, by omega⟩
  · have a1 := lt a (by omega)
    rw [t6 a (by omega)]
    exact Z6 a c hc (by rw [t1 a a1]; exact h)
  · have a1 := lt a h
    rw [t6 a (by omega), show zN κ6 = zN κ5 by rw [e6]; rfl]
    have q := Z7 a (by rw [t1 a a1]; exact h)
    rw [m1 a a1] at q
    exact q
  · rw [show zn κ6 = zn κ5 by rw [e6]; rfl]
    omega
theorem Nu_init_c {C : zC} {n0 : Nat} {a0 : Nat} {a1 : Int32} {κ : zS} {Q : zS → Prop} (W : zW C n0 κ) (Ta0 : zT κ a0 = 48)  (hp : a1.toInt ≤ 10000) (h : ∀ (κ' : zS), (κ' = uo (na κ 20 (if a1 < (2 : Int32) then (2 : Int32) else a1).toNatClampNeg) nuLimbs a0 (zn κ)) → Q κ') : zRun C 1 mNu_init [.ref a0, .int a1] κ (oV Q noX) := by
  refine Nu_init_run W Ta0 ?_
  replace W := W.lo (Nat.le_trans W.1.2.1 W.1.2.2) (Nat.le_refl (zn κ))
  unfold w_Nu_init_0
  refine ⟨?_, ?_⟩
  · unfold nsz
    have t2 : (2 : Int32).toInt = 2 := rfl
    split
    · decide
    · rename_i c
      rw [lti] at c
      have k := cnk (x := a1) (by omega)
      exact ⟨by rw [lei, t0i]; omega, by omega⟩
  intro κ_1 hκ_1
  intro W2
  refine ⟨?_, ?_⟩
  · rw [hκ_1]; exact if_pos rfl  -- b2
  intro κ_3 hκ_3
  intro W4
  refine h _ ?_
  · rw [hκ_3, hκ_1]  -- q3

theorem zRT_8 : ∀ q ∈ zRT, q.1 / 100 = 8 → q = (800, 20) := by decide +kernel
theorem zRT_11 : ∀ q ∈ zRT, q.1 / 100 = 11 → q = (1100, 8) ∨ q = (1101, 8) := by decide +kernel
theorem zZT_n : ∀ f ∈ zZT, f / 100 ≠ 8 ∧ f / 100 ≠ 11 := by decide +kernel
theorem zOk_8 {κ : zS} {w : Nat} (h : zT κ (zR κ nuLimbs w) = 20) (o : zO κ (zR κ nuLimbs w) = (nuLimbs, w)) : zOk κ w 8 := by
  refine ⟨fun f t hf h8 => ?_, fun f hf h8 => absurd h8 (zZT_n f hf).1⟩
  have q := zRT_8 (f, t) (d_lk hf) h8
  have q1 : f = 800 := congrArg Prod.fst q
  have q2 : t = 20 := congrArg Prod.snd q
  subst q1
  subst q2
  exact ⟨h, fun _ => o⟩
theorem zOk_11 {κ : zS} {w : Nat} (h : zT κ (zR κ raTop w) = 8) (h2 : zT κ (zR κ raBottom w) = 8) : zOk κ w 11 := by
  refine ⟨fun f t hf h11 => ?_, fun f hf h8 => absurd h8 (zZT_n f hf).2⟩
  rcases zRT_11 (f, t) (d_lk hf) h11 with q | q
  · have q1 : f = 1100 := congrArg Prod.fst q
    have q2 : t = 8 := congrArg Prod.snd q
    subst q1
    subst q2
    exact ⟨h, fun z => absurd z (by decide)⟩
  · have q1 : f = 1101 := congrArg Prod.fst q
    have q2 : t = 8 := congrArg Prod.snd q
    subst q1
    subst q2
    exact ⟨h2, fun z => absurd z (by decide)⟩
/-- a new number holds 0 -/
theorem nu_new9 {κ : zS} {w n : Nat} (h1 : zN κ (zR κ nuLimbs w) = n) (h2 : zI κ nuLength w = 0) (h3 : 2 ≤ n) : nuI κ w n ∧ nuN κ w = 0 := by
  have e : (zI κ nuLength w).toInt = 0 := by rw [h2]; rfl
  refine ⟨⟨⟨⟨by rw [e]; exact Int.le_refl _, by rw [e]; exact Int.natCast_nonneg _⟩, ⟨by rw [h1]; exact h3, by rw [h1]; exact Nat.le_refl _⟩, fun i hi => by rw [e] at hi; omega⟩, fun z => by rw [e] at z; omega⟩, ?_⟩
  unfold nuN
  rw [h2]
  rfl
theorem mx_9 {x : Int32} (h : x.toInt ≤ 10000) : 2 ≤ (if x < (2 : Int32) then (2 : Int32) else x).toNatClampNeg ∧ ((if x < (2 : Int32) then (2 : Int32) else x).toNatClampNeg ≤ 2 ∨ ((if x < (2 : Int32) then (2 : Int32) else x).toNatClampNeg : Int) ≤ x.toInt) := by
  have t2 : (2 : Int32).toInt = 2 := rfl
  split
  · exact ⟨by decide, Or.inl (by decide)⟩
  · rename_i c
    rw [lti] at c
    have k := cnk (x := x) (by omega)
    exact ⟨by omega, Or.inr (by omega)⟩
