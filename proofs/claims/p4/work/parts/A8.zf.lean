set_option maxHeartbeats 1600000
/-! what a method of the class may change: fields by object; rows by whose they are; and what it makes, against what its rows' lengths allow -/
theorem ex_some {e : Option Nat} {P : Nat → Prop} (h : ∃ u, e = some u) (g : ∀ u, e = some u → P u) : ∃ u, e = some u ∧ P u := by
  obtain ⟨u, hu⟩ := h
  exact ⟨u, hu, g u hu⟩
def zSum : Nat → (Nat → Nat) → Nat
  | 0, _ => 0
  | n + 1, f => zSum n f + f n
theorem zSum_eq {f g : Nat → Nat} : ∀ {n : Nat}, (∀ i, i < n → f i = g i) → zSum n f = zSum n g
  | 0, _ => rfl
  | n + 1, h => by
    show zSum n f + f n = zSum n g + g n
    rw [zSum_eq (fun i hi => h i (Nat.lt_succ_of_lt hi)), h n (Nat.lt_succ_self n)]
/-- one place differs -/
theorem zSum_one {f g : Nat → Nat} {a : Nat} : ∀ {n : Nat}, a < n → (∀ i, i < n → i ≠ a → g i = f i) → zSum n g + f a = zSum n f + g a
  | 0, h, _ => absurd h (Nat.not_lt_zero _)
  | n + 1, h, e => by
    show zSum n g + g n + f a = zSum n f + f n + g a
    by_cases z : a = n
    · subst z
      rw [zSum_eq (f := g) (g := f) (fun i hi => e i (Nat.lt_succ_of_lt hi) (Nat.ne_of_lt hi))]
      omega
    · have := zSum_one (f := f) (g := g) (n := n) (a := a) (by omega) (fun i hi hne => e i (Nat.lt_succ_of_lt hi) hne)
      have h2 := e n (Nat.lt_succ_self n) (fun q => z q.symm)
      omega
/-- the fields of a type that hold rows -/
def arF (t : Nat) : List Nat := (zRT.filter fun q => decide (q.1 / 100 = t) && decide (20 ≤ q.2)).map fun q => q.1
theorem arF_mem {t f : Nat} (h : f ∈ arF t) : f / 100 = t ∧ ∃ q, (f, q) ∈ zRT ∧ 20 ≤ q := by
  obtain ⟨q, h1, rfl⟩ := List.mem_map.mp h
  have h2 := List.mem_filter.mp h1
  have h3 := h2.2
  simp only [Bool.and_eq_true, decide_eq_true_eq] at h3
  exact ⟨h3.1, q.2, h2.1, h3.2⟩
theorem zRT_lk : ∀ q ∈ zRT, zr q.1 = some q.2 := by decide +kernel
theorem arF_zr {t f : Nat} (h : f ∈ arF t) : f / 100 = t ∧ ∃ q, zr f = some q ∧ 20 ≤ q := by
  obtain ⟨h1, q, h2, h3⟩ := arF_mem h
  exact ⟨h1, q, zRT_lk _ h2, h3⟩
theorem arF_in {f q : Nat} (h : zr f = some q) (hq : 20 ≤ q) : f ∈ arF (f / 100) := by
  refine List.mem_map.mpr ⟨(f, q), List.mem_filter.mpr ⟨d_lk h, ?_⟩, rfl⟩
  simp [hq]
theorem arF_no {t : Nat} (h : 20 ≤ t ∨ t < 3) : arF t = [] := by
  cases e : arF t with
  | nil => rfl
  | cons f l =>
    obtain ⟨h1, q, h2, -⟩ := arF_zr (t := t) (f := f) (by rw [e]; exact List.mem_cons_self)
    have := zr_cls h2
    omega
theorem arF_nd : ∀ t, t < 20 → (arF t).Nodup := by decide +kernel
/-- what the rows of a cell allow -/
def po (w : Nat → Nat → Nat) (κ : zS) (a : Nat) : Nat := ((arF (zT κ a)).map fun f => w f (zN κ (zR κ f a))).sum + w 0 (zT κ a)
def pot (w : Nat → Nat → Nat) (κ : zS) : Nat := zSum (zn κ) (po w κ)
theorem pot_eq {w : Nat → Nat → Nat} {κ κ' : zS} (hT : zT κ' = zT κ) (hN : zN κ' = zN κ) (hn : zn κ' = zn κ) (hR : ∀ f a, (∃ q, zr f = some q ∧ 20 ≤ q) → zR κ' f a = zR κ f a) : pot w κ' = pot w κ := by
  unfold pot
  rw [hn]
  refine zSum_eq (fun a _ => ?_)
  unfold po
  rw [hT, hN]
  congr 2
  exact List.map_congr_left (fun f hf => by rw [hR f a (arF_zr hf).2])
/-- slots and (four times) cells that a row's length pays for -/
def cap9 (f : Nat) : Nat := if f = 312 ∨ f = 313 ∨ f = 314 ∨ f = 1402 ∨ f = 1404 ∨ f = 1405 ∨ f = 912 then 20000 else if f = 1205 ∨ f = 1206 then 1000 else 0
def wS (f n : Nat) : Nat := if f = 0 then (if n = 11 then 3 else 0) else if f = 605 then 3 * n + (if n = 142000 ∨ n = 35000 ∨ n = 9000 then n else 0) else if f = 800 then 3 * n + 2 else 2 * n + (if n = cap9 f then n else 0)
def wC (f n : Nat) : Nat := if f = 0 then (if n = 11 then 4 else 0) else if f = 605 then 2 * n + (if n = 142000 ∨ n = 35000 ∨ n = 9000 then 8 else 0) else if f = 800 then 2 * n + 8 else 2 * n + (if n = cap9 f then 8 else 0)
def zRm (κ κ' : zS) : Prop := zs κ' + pot wS κ ≤ zs κ + pot wS κ' ∧ 4 * zc κ' + pot wC κ ≤ 4 * zc κ + pot wC κ'
theorem zRm.rf {κ : zS} : zRm κ κ := ⟨Nat.le_refl _, Nat.le_refl _⟩
theorem zRm.tr {κ κ1 κ2 : zS} (h : zRm κ κ1) (g : zRm κ1 κ2) : zRm κ κ2 := by
  obtain ⟨a, b⟩ := h
  obtain ⟨c, d⟩ := g
  exact ⟨by omega, by omega⟩
theorem zRm.of {κ κ' : zS} (hT : zT κ' = zT κ) (hN : zN κ' = zN κ) (hn : zn κ' = zn κ) (hc : zc κ' = zc κ) (hs : zs κ' = zs κ) (hR : ∀ f a, (∃ q, zr f = some q ∧ 20 ≤ q) → zR κ' f a = zR κ f a) : zRm κ κ' := by
  unfold zRm
  rw [pot_eq hT hN hn hR, pot_eq hT hN hn hR, hc, hs]
  exact ⟨Nat.le_refl _, Nat.le_refl _⟩
/-- the room, and: what is made lies behind all that was there; beside rows it is numbers and fractions, where the frame lets cells be made -/
def zRn (F : Nat → Nat → Prop) (κ κ' : zS) : Prop := (zRm κ κ' ∧ ∀ b, b < zn κ → zT κ b = 0 → zT κ' b = 0) ∧ ∀ b t, 3 ≤ t → t < 20 → zT κ' b = t → zT κ b = t ∨ ((t = 8 ∨ t = 11) ∧ F 0 b ∧ zn κ ≤ b)
theorem zRn.of {F : Nat → Nat → Prop} {κ κ' : zS} (hT : zT κ' = zT κ) (hN : zN κ' = zN κ) (hn : zn κ' = zn κ) (hc : zc κ' = zc κ) (hs : zs κ' = zs κ) (hR : ∀ f a, (∃ q, zr f = some q ∧ 20 ≤ q) → zR κ' f a = zR κ f a) : zRn F κ κ' := ⟨⟨zRm.of hT hN hn hc hs hR, fun b _ e => by rw [hT]; exact e⟩, fun b t _ _ e => Or.inl (by rw [← hT]; exact e)⟩
/-- only fields with F differ, only rows of such fields, and the room is kept -/
def zF (F : Nat → Nat → Prop) (κ κ' : zS) : Prop := (∀ f a, ¬ F f a → zI κ' f a = zI κ f a ∧ zR κ' f a = zR κ f a) ∧ (∀ x, zT κ x ≠ 0 → ¬ F (zO κ x).1 (zO κ x).2 → zA κ' x = zA κ x ∧ zJ κ' x = zJ κ x ∧ zQ κ' x = zQ κ x ∧ zO κ' x = zO κ x) ∧ (∀ x, zT κ x ≠ 0 → zO κ x ≠ (0, 0) → zO κ' x = zO κ x) ∧ zRn F κ κ' ∧ zM 0 κ κ'
theorem zF.rf {F : Nat → Nat → Prop} {κ : zS} : zF F κ κ := ⟨fun _ _ _ => ⟨rfl, rfl⟩, fun _ _ _ => ⟨rfl, rfl, rfl, rfl⟩, fun _ _ _ => rfl, ⟨⟨zRm.rf, fun _ _ e => e⟩, fun _ _ _ _ e => Or.inl e⟩, zM.rf⟩
theorem zF.tr {F : Nat → Nat → Prop} {κ κ1 κ2 : zS} (h : zF F κ κ1) (g : zF F κ1 κ2) : zF F κ κ2 := by
  have m := h.2.2.2.2
  refine ⟨fun f a z => ⟨(g.1 f a z).1.trans (h.1 f a z).1, (g.1 f a z).2.trans (h.1 f a z).2⟩, fun x e z => ?_, fun x e z => ?_, ⟨⟨h.2.2.2.1.1.1.tr g.2.2.2.1.1.1, fun b hb e => g.2.2.2.1.1.2 b (Nat.lt_of_lt_of_le hb m.2.2) (h.2.2.2.1.1.2 b hb e)⟩, fun b t h3 h20 e => ?_⟩, m.tr g.2.2.2.2⟩
  · obtain ⟨a1, a2, a3, a4⟩ := h.2.1 x e z
    obtain ⟨b1, b2, b3, b4⟩ := g.2.1 x (m.2.1 x e).1 (by rw [a4]; exact z)
    exact ⟨b1.trans a1, b2.trans a2, b3.trans a3, b4.trans a4⟩
  · have a := h.2.2.1 x e z
    exact (g.2.2.1 x (m.2.1 x e).1 (by rw [a]; exact z)).trans a
  · rcases g.2.2.2.1.2 b t h3 h20 e with q | q
    · exact h.2.2.2.1.2 b t h3 h20 q
    · exact Or.inr ⟨q.1, q.2.1, Nat.le_trans m.2.2 q.2.2⟩
theorem zF.mono {F G : Nat → Nat → Prop} {κ κ' : zS} (h : zF F κ κ') (hs : ∀ f a, F f a → G f a) : zF G κ κ' := ⟨fun f a z => h.1 f a (fun q => z (hs f a q)), fun x e z => h.2.1 x e (fun q => z (hs _ _ q)), h.2.2.1, ⟨h.2.2.2.1.1, fun b t h3 h20 e => (h.2.2.2.1.2 b t h3 h20 e).imp id (fun q => ⟨q.1, hs _ _ q.2.1, q.2.2⟩)⟩, h.2.2.2.2⟩
section ZF
variable {F : Nat → Nat → Prop} {κ κ' : zS} {f a : Nat}
theorem zF.t {c : Nat} (h : zF F κ κ') (e : zT κ a = c + 1) (hc : c + 1 < 40) : zT κ' a = c + 1 := h.2.2.2.2.1 a c (Or.inr hc) e
theorem zF.l (h : zF F κ κ') {c : Nat} (e : zT κ a = c + 1) : zN κ' a = zN κ a := (h.2.2.2.2.2.1 a (by omega)).2
theorem zF.i (h : zF F κ κ') (z : ¬ F f a) : zI κ' f a = zI κ f a := (h.1 f a z).1
theorem zF.r (h : zF F κ κ') (z : ¬ F f a) : zR κ' f a = zR κ f a := (h.1 f a z).2
/-- the row of a field that isn't in F -/
theorem zF.row {C : zC} {n0 t : Nat} (h : zF F κ κ') (W : zW C n0 κ) (hr : zr f = some t) (ht : 20 ≤ t) (hT : zT κ a = f / 100) (z : ¬ F f a) : zA κ' (zR κ' f a) = zA κ (zR κ f a) ∧ zJ κ' (zR κ' f a) = zJ κ (zR κ f a) ∧ zQ κ' (zR κ' f a) = zQ κ (zR κ f a) := by
  have o := W.o hr ht hT
  have e := W.r hr hT
  have g := h.2.1 (zR κ f a) (by omega) (by rw [o]; exact z)
  rw [h.r z]
  exact ⟨g.1, g.2.1, g.2.2.1⟩
theorem zF_ui {x : Int32} (hF : F f a) : zF F κ (ui κ f a x) := by
  refine ⟨fun g b z => ⟨if_neg (fun e => z (by rw [e.1, e.2]; exact hF)), rfl⟩, fun _ _ _ => ⟨rfl, rfl, rfl, rfl⟩, fun _ _ _ => rfl, zRn.of rfl rfl rfl rfl rfl (fun _ _ _ => rfl), zM.of rfl rfl rfl⟩
theorem zF_ur {v t : Nat} (hF : F f a) (hr : zr f = some t) (ht : t < 20) : zF F κ (ur κ f a v) := by
  refine ⟨fun g b z => ⟨rfl, if_neg (fun e => z (by rw [e.1, e.2]; exact hF))⟩, fun _ _ _ => ⟨rfl, rfl, rfl, rfl⟩, fun _ _ _ => rfl, zRn.of rfl rfl rfl rfl rfl (fun g b z => if_neg (fun e => ?_)), zM.of rfl rfl rfl⟩
  obtain ⟨q, h1, h2⟩ := z
  rw [e.1, hr] at h1
  cases h1
  omega
theorem zF_ua {r i : Nat} {x : Int32} (hF : F (zO κ r).1 (zO κ r).2) : zF F κ (ua κ r i x) := by
  refine ⟨fun _ _ _ => ⟨rfl, rfl⟩, fun y _ z => ⟨if_neg (fun e => z (by rw [e]; exact hF)), rfl, rfl, rfl⟩, fun _ _ _ => rfl, zRn.of rfl rfl rfl rfl rfl (fun _ _ _ => rfl), zM.of rfl rfl rfl⟩
theorem zF_uj {r i : Nat} {x : Int64} (hF : F (zO κ r).1 (zO κ r).2) : zF F κ (uj κ r i x) := by
  refine ⟨fun _ _ _ => ⟨rfl, rfl⟩, fun y _ z => ⟨rfl, if_neg (fun e => z (by rw [e]; exact hF)), rfl, rfl⟩, fun _ _ _ => rfl, zRn.of rfl rfl rfl rfl rfl (fun _ _ _ => rfl), zM.of rfl rfl rfl⟩
theorem zF_uq {r i : Nat} {x : Option Nat} (hF : F (zO κ r).1 (zO κ r).2) : zF F κ (uq κ r i x) := by
  refine ⟨fun _ _ _ => ⟨rfl, rfl⟩, fun y _ z => ⟨rfl, rfl, if_neg (fun e => z (by rw [e]; exact hF)), rfl⟩, fun _ _ _ => rfl, zRn.of rfl rfl rfl rfl rfl (fun _ _ _ => rfl), zM.of rfl rfl rfl⟩
theorem zF_uc {s r sp dp n : Nat} (hF : F (zO κ r).1 (zO κ r).2) : zF F κ (uc κ s r sp dp n) := by
  refine ⟨fun _ _ _ => ⟨rfl, rfl⟩, fun y _ z => ⟨if_neg (fun e => z (by rw [e]; exact hF)), rfl, rfl, rfl⟩, fun _ _ _ => rfl, zRn.of rfl rfl rfl rfl rfl (fun _ _ _ => rfl), zM.of rfl rfl rfl⟩
end ZF
/-- a field gets a new row: what that costs -/
theorem po_uo {C : zC} {n0 t n f a q : Nat} {w : Nat → Nat → Nat} {κ κ2 : zS} (W : zW C n0 κ) (hr : zr f = some q) (hq : 20 ≤ q) (hT : zT κ a = f / 100) (hw : w 0 t = 0) (ht : 20 ≤ t) (hw0 : ∀ c, 20 ≤ c → w 0 c = 0) (e1 : ∀ b, b ≠ zn κ → zT κ2 b = zT κ b) (e2 : zT κ2 (zn κ) = t) (e3 : ∀ b, b ≠ zn κ → zN κ2 b = zN κ b) (e4 : zN κ2 (zn κ) = n) (e5 : ∀ g b, ¬ (g = f ∧ b = a) → zR κ2 g b = zR κ g b) (e6 : zR κ2 f a = zn κ) (e7 : zn κ2 = zn κ + 1) : pot w κ2 + w f (zN κ (zR κ f a)) = pot w κ + w f n := by
  have hfr := W.fr
  have cl := zr_cls hr
  have ha : a ≠ zn κ := fun e => by rw [e, hfr] at hT; omega
  have hlt : a < zn κ := (W.2.1 a (by omega)).2
  have pw : po w κ2 (zn κ) = 0 := by
    unfold po
    rw [e2, arF_no (Or.inl ht)]
    show 0 + w 0 t = 0
    rw [hw]
  have pb : ∀ b, b < zn κ → b ≠ a → po w κ2 b = po w κ b := by
    intro b hb hne
    unfold po
    rw [e1 b (Nat.ne_of_lt hb)]
    congr 2
    refine List.map_congr_left (fun g hg => ?_)
    obtain ⟨g1, p, g2, g3⟩ := arF_zr hg
    have h3 := W.r g2 g1.symm
    rw [e5 g b (fun e => hne e.2), e3 _ (fun e => by rw [e, hfr] at h3; omega)]
  have pa : po w κ2 a + w f (zN κ (zR κ f a)) = po w κ a + w f n := by
    have hnd := arF_nd (f / 100) (by omega)
    have hin := arF_in hr hq
    have key : ∀ l : List Nat, l.Nodup → (∀ g ∈ l, g ∈ arF (f / 100)) → f ∈ l → (l.map fun g => w g (zN κ2 (zR κ2 g a))).sum + w f (zN κ (zR κ f a)) = (l.map fun g => w g (zN κ (zR κ g a))).sum + w f n := by
      intro l
      induction l with
      | nil => intro _ _ h; cases h
      | cons g l ih =>
        intro nd hs hf
        rw [List.nodup_cons] at nd
        have rest : ∀ g ∈ l, g ≠ f → w g (zN κ2 (zR κ2 g a)) = w g (zN κ (zR κ g a)) := by
          intro g hg hne
          obtain ⟨g1, p, g2, g3⟩ := arF_zr (hs g (List.mem_cons_of_mem _ hg))
          have h3 := W.r g2 (hT.trans g1.symm)
          rw [e5 g a (fun e => hne e.1), e3 _ (fun e => by rw [e, hfr] at h3; omega)]
        by_cases hg : g = f
        · subst hg
          have e9 : (l.map fun g => w g (zN κ2 (zR κ2 g a))) = l.map fun g => w g (zN κ (zR κ g a)) := List.map_congr_left (fun x hx => rest x hx (fun z => nd.1 (by rw [← z]; exact hx)))
          rw [List.map_cons, List.map_cons, List.sum_cons, List.sum_cons, e9, e6, e4]
          omega
        · have hf2 : f ∈ l := by
            rcases List.mem_cons.mp hf with z | z
            · exact absurd z.symm hg
            · exact z
          have := ih nd.2 (fun x hx => hs x (List.mem_cons_of_mem _ hx)) hf2
          obtain ⟨g1, p, g2, g3⟩ := arF_zr (hs g List.mem_cons_self)
          have h3 := W.r g2 (hT.trans g1.symm)
          have eg : w g (zN κ2 (zR κ2 g a)) = w g (zN κ (zR κ g a)) := by rw [e5 g a (fun e => hg e.1), e3 _ (fun e => by rw [e, hfr] at h3; omega)]
          rw [List.map_cons, List.map_cons, List.sum_cons, List.sum_cons, eg]
          omega
    unfold po
    rw [e1 a ha, hT]
    have := key _ hnd (fun _ h => h) hin
    omega
  unfold pot
  rw [e7]
  show zSum (zn κ) (po w κ2) + po w κ2 (zn κ) + _ = _
  rw [pw]
  have := zSum_one (f := po w κ) (g := po w κ2) hlt pb
  omega
/-- a row that has been made, perhaps filled, becomes a field's -/
theorem zF_uo {C : zC} {n0 t n f a q : Nat} {F : Nat → Nat → Prop} {κ κ1 κ2 : zS} (W : zW C n0 κ) (hr : zr f = some q) (hq : 20 ≤ q) (hT : zT κ a = f / 100) (ht : 20 ≤ t) (hF : F f a) (h1 : zT κ1 = zT (na κ t n) ∧ zN κ1 = zN (na κ t n) ∧ zI κ1 = zI κ ∧ zR κ1 = zR κ ∧ (∀ b, b ≠ zn κ → zA κ1 b = zA κ b ∧ zJ κ1 b = zJ κ b ∧ zQ κ1 b = zQ κ b ∧ zO κ1 b = zO κ b) ∧ zn κ1 = zn κ + 1 ∧ zc κ1 = zc κ + 1 ∧ zs κ1 = zs κ + n) (h2 : κ2 = uo κ1 f a (zn κ)) (cS : n + wS f (zN κ (zR κ f a)) ≤ wS f n) (cC : 4 + wC f (zN κ (zR κ f a)) ≤ wC f n) : zF F κ κ2 := by
  obtain ⟨k1, k2, k3, k4, k5, k6, k7, k8⟩ := h1
  subst h2
  have hfr := W.fr
  have ne : ∀ b, zT κ b ≠ 0 → b ≠ zn κ := fun b h e => by rw [e, hfr] at h; exact h rfl
  have e1 : ∀ b, b ≠ zn κ → zT (uo κ1 f a (zn κ)) b = zT κ b := fun b hb => by show zT κ1 b = _; rw [k1]; exact if_neg hb
  have e2 : zT (uo κ1 f a (zn κ)) (zn κ) = t := by show zT κ1 _ = _; rw [k1]; exact if_pos rfl
  have e3 : ∀ b, b ≠ zn κ → zN (uo κ1 f a (zn κ)) b = zN κ b := fun b hb => by show zN κ1 b = _; rw [k2]; exact if_neg hb
  have e4 : zN (uo κ1 f a (zn κ)) (zn κ) = n := by show zN κ1 _ = _; rw [k2]; exact if_pos rfl
  have e5 : ∀ g b, ¬ (g = f ∧ b = a) → zR (uo κ1 f a (zn κ)) g b = zR κ g b := fun g b h => (if_neg h).trans (by show zR κ1 g b = _; rw [k4])
  have e6 : zR (uo κ1 f a (zn κ)) f a = zn κ := if_pos ⟨rfl, rfl⟩
  have w0 : ∀ c, 20 ≤ c → wS 0 c = 0 ∧ wC 0 c = 0 := fun c hc => ⟨by unfold wS; rw [if_pos rfl, if_neg (by omega)], by unfold wC; rw [if_pos rfl, if_neg (by omega)]⟩
  have pS := po_uo (w := wS) W hr hq hT (w0 t ht).1 ht (fun c hc => (w0 c hc).1) e1 e2 e3 e4 e5 e6 k6
  have pC := po_uo (w := wC) W hr hq hT (w0 t ht).2 ht (fun c hc => (w0 c hc).2) e1 e2 e3 e4 e5 e6 k6
  refine ⟨fun g b z => ⟨by show zI κ1 g b = _; rw [k3], e5 g b (fun e => z (by rw [e.1, e.2]; exact hF))⟩, fun x hx z => ?_, fun x hx z => ?_, ⟨⟨⟨?_, ?_⟩, fun b hb e => (e1 b (Nat.ne_of_lt hb)).trans e⟩, fun b t9 h3 h20 e => ?_⟩, fun x c _ e => ?_, fun x e => ?_, ?_⟩
  · obtain ⟨a1, a2, a3, a4⟩ := k5 x (ne x hx)
    exact ⟨a1, a2, a3, (if_neg (ne x hx)).trans a4⟩
  · exact (if_neg (ne x hx)).trans (k5 x (ne x hx)).2.2.2
  · show zs κ1 + _ ≤ _
    rw [k8]
    omega
  · show 4 * zc κ1 + _ ≤ _
    rw [k7]
    omega
  · by_cases z : b = zn κ
    · rw [z, e2] at e
      omega
    · rw [e1 b z] at e
      exact Or.inl e
  · exact (e1 x (ne x (by omega))).trans e
  · exact ⟨by rw [e1 x (ne x e)]; exact e, e3 x (ne x e)⟩
  · show zn κ ≤ zn κ1
    omega
theorem na_h {κ κ1 : zS} {t n : Nat} (e : κ1 = na κ t n) : zT κ1 = zT (na κ t n) ∧ zN κ1 = zN (na κ t n) ∧ zI κ1 = zI κ ∧ zR κ1 = zR κ ∧ (∀ b, b ≠ zn κ → zA κ1 b = zA κ b ∧ zJ κ1 b = zJ κ b ∧ zQ κ1 b = zQ κ b ∧ zO κ1 b = zO κ b) ∧ zn κ1 = zn κ + 1 ∧ zc κ1 = zc κ + 1 ∧ zs κ1 = zs κ + n := by
  subst e
  exact ⟨rfl, rfl, rfl, rfl, fun b hb => ⟨if_neg hb, if_neg hb, if_neg hb, if_neg hb⟩, rfl, rfl, rfl⟩
theorem wS_le {f n : Nat} (h0 : f ≠ 0) (h1 : f ≠ 605) (h2 : f ≠ 800) : 2 * n ≤ wS f n ∧ wS f n ≤ 3 * n := by
  unfold wS
  rw [if_neg h0, if_neg h1, if_neg h2]
  split <;> omega
theorem wC_le {f n : Nat} (h0 : f ≠ 0) (h1 : f ≠ 605) (h2 : f ≠ 800) : 2 * n ≤ wC f n ∧ wC f n ≤ 2 * n + 8 := by
  unfold wC
  rw [if_neg h0, if_neg h1, if_neg h2]
  split <;> omega
/-- rows of fields -/
abbrev zrow (κ : zS) (f a : Nat) : Nat → Int32 := zA κ (zR κ f a)
abbrev zrlen (κ : zS) (f a : Nat) : Nat := zN κ (zR κ f a)
theorem inb_z {i : Int32} {n : Nat} (h0 : 0 ≤ i) (h : i.toNatClampNeg < n) : inb i n := by
  rintro (z | z)
  · exact absurd (Int32.lt_of_lt_of_le z h0) (by grind)
  · omega
