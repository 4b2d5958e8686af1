section
set_option maxHeartbeats 1600000
/-! what a method of the class may change: fields by object; rows by whose they are; and what it makes, against what its rows' lengths allow -/
theorem ex_some {e : Option Nat} {P : Nat → Prop} (h : ∃ u, e = some u) (g : ∀ u, e = some u → P u) : ∃ u, e = some u ∧ P u := by
  obtain ⟨u, hu⟩ := h
  exact ⟨u, hu, g u hu⟩
def zSum : Nat → (Nat → Nat) → Nat
  | 0, _ => 0
  | n + 1, f => zSum n f + f n
theorem zSum_eq {f g : Nat → Nat} : ∀ {n : Nat}, (∀ i, i < n → f i = g i) → zSum n f = zSum n g
  | 0, _ => rfl
  | n + 1, h => by
    show zSum n f + f n = zSum n g + g n
    rw [zSum_eq (fun i hi => h i (Nat.lt_succ_of_lt hi)), h n (Nat.lt_succ_self n)]
/-- one place differs -/
theorem zSum_one {f g : Nat → Nat} {a : Nat} : ∀ {n : Nat}, a < n → (∀ i, i < n → i ≠ a → g i = f i) → zSum n g + f a = zSum n f + g a
  | 0, h, _ => absurd h (Nat.not_lt_zero _)
  | n + 1, h, e => by
    show zSum n g + g n + f a = zSum n f + f n + g a
    by_cases z : a = n
    · subst z
      rw [zSum_eq (f := g) (g := f) (fun i hi => e i (Nat.lt_succ_of_lt hi) (Nat.ne_of_lt hi))]
      omega
    · have := zSum_one (f := f) (g := g) (n := n) (a := a) (by omega) (fun i hi hne => e i (Nat.lt_succ_of_lt hi) hne)
      have h2 := e n (Nat.lt_succ_self n) (fun q => z q.symm)
      omega
/-- the fields of a type that hold rows -/
def arF (t : Nat) : List Nat := (zRT.filter fun q => decide (q.1 / 100 = t) && decide (20 ≤ q.2)).map fun q => q.1
theorem arF_mem {t f : Nat} (h : f ∈ arF t) : f / 100 = t ∧ ∃ q, (f, q) ∈ zRT ∧ 20 ≤ q := by
  obtain ⟨q, h1, rfl⟩ := List.mem_map.mp h
  have h2 := List.mem_filter.mp h1
  have h3 := h2.2
  simp only [Bool.and_eq_true, decide_eq_true_eq] at h3
  exact ⟨h3.1, q.2, h2.1, h3.2⟩
theorem zRT_lk : ∀ q ∈ zRT, zr q.1 = some q.2 := by decide +kernel
theorem arF_zr {t f : Nat} (h : f ∈ arF t) : f / 100 = t ∧ ∃ q, zr f = some q ∧ 20 ≤ q := by
  obtain ⟨h1, q, h2, h3⟩ := arF_mem h
  exact ⟨h1, q, zRT_lk _ h2, h3⟩
theorem arF_in {f q : Nat} (h : zr f = some q) (hq : 20 ≤ q) : f ∈ arF (f / 100) := by
  refine List.mem_map.mpr ⟨(f, q), List.mem_filter.mpr ⟨d_lk h, ?_⟩, rfl⟩
  simp [hq]
theorem arF_no {t : Nat} (h : 20 ≤ t ∨ t < 3) : arF t = [] := by
  cases e : arF t with
  | nil => rfl
  | cons f l =>
    obtain ⟨h1, q, h2, -⟩ := arF_zr (t := t) (f := f) (by rw [e]; exact List.mem_cons_self)
    have := zr_cls h2
    omega
theorem arF_nd : ∀ t, t < 20 → (arF t).Nodup := by decide +kernel
/-- what the rows of a cell allow -/
def po (w : Nat → Nat → Nat) (κ : zS) (a : Nat) : Nat := ((arF (zT κ a)).map fun f => w f (zN κ (zR κ f a))).sum + w 0 (zT κ a)
def pot (w : Nat → Nat → Nat) (κ : zS) : Nat := zSum (zn κ) (po w κ)
theorem pot_eq {w : Nat → Nat → Nat} {κ κ' : zS} (hT : zT κ' = zT κ) (hN : zN κ' = zN κ) (hn : zn κ' = zn κ) (hR : ∀ f a, (∃ q, zr f = some q ∧ 20 ≤ q) → zR κ' f a = zR κ f a) : pot w κ' = pot w κ := by
  unfold pot
  rw [hn]
  refine zSum_eq (fun a _ => ?_)
  unfold po
  rw [hT, hN]
  congr 2
  exact List.map_congr_left (fun f hf => by rw [hR f a (arF_zr hf).2])
/-- slots and (four times) cells that a row's length pays for -/
def cap9 (f : Nat) : Nat := if f = 312 ∨ f = 313 ∨ f = 314 ∨ f = 1402 ∨ f = 1404 ∨ f = 1405 ∨ f = 912 then 20000 else if f = 1205 ∨ f = 1206 then 1000 else 0
def wS (f n : Nat) : Nat := if f = 0 then (if n = 11 then 3 else 0) else if f = 605 then 3 * n + (if n = 142000 ∨ n = 35000 ∨ n = 9000 then n else 0) else if f = 800 then 3 * n + 2 else 2 * n + (if n = cap9 f then n else 0)
def wC (f n : Nat) : Nat := if f = 0 then (if n = 11 then 4 else 0) else if f = 605 then 2 * n + (if n = 142000 ∨ n = 35000 ∨ n = 9000 then 8 else 0) else if f = 800 then 2 * n + 8 else 2 * n + (if n = cap9 f then 8 else 0)
def zRm (κ κ' : zS) : Prop := zs κ' + pot wS κ ≤ zs κ + pot wS κ' ∧ 4 * zc κ' + pot wC κ ≤ 4 * zc κ + pot wC κ'
theorem zRm.rf {κ : zS} : zRm κ κ := ⟨Nat.le_refl _, Nat.le_refl _⟩
theorem zRm.tr {κ κ1 κ2 : zS} (h : zRm κ κ1) (g : zRm κ1 κ2) : zRm κ κ2 := by
  obtain ⟨a, b⟩ := h
  obtain ⟨c, d⟩ := g
  exact ⟨by omega, by omega⟩
theorem zRm.of {κ κ' : zS} (hT : zT κ' = zT κ) (hN : zN κ' = zN κ) (hn : zn κ' = zn κ) (hc : zc κ' = zc κ) (hs : zs κ' = zs κ) (hR : ∀ f a, (∃ q, zr f = some q ∧ 20 ≤ q) → zR κ' f a = zR κ f a) : zRm κ κ' := by
  unfold zRm
  rw [pot_eq hT hN hn hR, pot_eq hT hN hn hR, hc, hs]
  exact ⟨Nat.le_refl _, Nat.le_refl _⟩
/-- the room, and: what is made lies behind all that was there; beside rows it is numbers and fractions, where the frame lets cells be made -/
def zRn (F : Nat → Nat → Prop) (κ κ' : zS) : Prop := (zRm κ κ' ∧ ∀ b, b < zn κ → zT κ b = 0 → zT κ' b = 0) ∧ ∀ b t, 3 ≤ t → t < 20 → zT κ' b = t → zT κ b = t ∨ ((t = 8 ∨ t = 11) ∧ F 0 b ∧ zn κ ≤ b)
theorem zRn.of {F : Nat → Nat → Prop} {κ κ' : zS} (hT : zT κ' = zT κ) (hN : zN κ' = zN κ) (hn : zn κ' = zn κ) (hc : zc κ' = zc κ) (hs : zs κ' = zs κ) (hR : ∀ f a, (∃ q, zr f = some q ∧ 20 ≤ q) → zR κ' f a = zR κ f a) : zRn F κ κ' := ⟨⟨zRm.of hT hN hn hc hs hR, fun b _ e => by rw [hT]; exact e⟩, fun b t _ _ e => Or.inl (by rw [← hT]; exact e)⟩
/-- only fields with F differ, only rows of such fields, and the room is kept -/
def zF (F : Nat → Nat → Prop) (κ κ' : zS) : Prop := (∀ f a, ¬ F f a → zI κ' f a = zI κ f a ∧ zR κ' f a = zR κ f a) ∧ (∀ x, zT κ x ≠ 0 → ¬ F (zO κ x).1 (zO κ x).2 → zA κ' x = zA κ x ∧ zJ κ' x = zJ κ x ∧ zQ κ' x = zQ κ x ∧ zO κ' x = zO κ x) ∧ (∀ x, zT κ x ≠ 0 → zO κ x ≠ (0, 0) → zO κ' x = zO κ x) ∧ zRn F κ κ' ∧ zM 0 κ κ'
theorem zF.rf {F : Nat → Nat → Prop} {κ : zS} : zF F κ κ := ⟨fun _ _ _ => ⟨rfl, rfl⟩, fun _ _ _ => ⟨rfl, rfl, rfl, rfl⟩, fun _ _ _ => rfl, ⟨⟨zRm.rf, fun _ _ e => e⟩, fun _ _ _ _ e => Or.inl e⟩, zM.rf⟩
theorem zF.tr {F : Nat → Nat → Prop} {κ κ1 κ2 : zS} (h : zF F κ κ1) (g : zF F κ1 κ2) : zF F κ κ2 := by
  have m := h.2.2.2.2
  refine ⟨fun f a z => ⟨(g.1 f a z).1.trans (h.1 f a z).1, (g.1 f a z).2.trans (h.1 f a z).2⟩, fun x e z => ?_, fun x e z => ?_, ⟨⟨h.2.2.2.1.1.1.tr g.2.2.2.1.1.1, fun b hb e => g.2.2.2.1.1.2 b (Nat.lt_of_lt_of_le hb m.2.2) (h.2.2.2.1.1.2 b hb e)⟩, fun b t h3 h20 e => ?_⟩, m.tr g.2.2.2.2⟩
  · obtain ⟨a1, a2, a3, a4⟩ := h.2.1 x e z
    obtain ⟨b1, b2, b3, b4⟩ := g.2.1 x (m.2.1 x e).1 (by rw [a4]; exact z)
    exact ⟨b1.trans a1, b2.trans a2, b3.trans a3, b4.trans a4⟩
  · have a := h.2.2.1 x e z
    exact (g.2.2.1 x (m.2.1 x e).1 (by rw [a]; exact z)).trans a
  · rcases g.2.2.2.1.2 b t h3 h20 e with q | q
    · exact h.2.2.2.1.2 b t h3 h20 q
    · exact Or.inr ⟨q.1, q.2.1, Nat.le_trans m.2.2 q.2.2⟩
theorem zF.mono {F G : Nat → Nat → Prop} {κ κ' : zS} (h : zF F κ κ') (hs : ∀ f a, F f a → G f a) : zF G κ κ' := ⟨fun f a z => h.1 f a (fun q => z (hs f a q)), fun x e z => h.2.1 x e (fun q => z (hs _ _ q)), h.2.2.1, ⟨h.2.2.2.1.1, fun b t h3 h20 e => (h.2.2.2.1.2 b t h3 h20 e).imp id (fun q => ⟨q.1, hs _ _ q.2.1, q.2.2⟩)⟩, h.2.2.2.2⟩
section ZF
variable {F : Nat → Nat → Prop} {κ κ' : zS} {f a : Nat}
theorem zF.t {c : Nat} (h : zF F κ κ') (e : zT κ a = c + 1) (hc : c + 1 < 40) : zT κ' a = c + 1 := h.2.2.2.2.1 a c (Or.inr hc) e
theorem zF.l (h : zF F κ κ') {c : Nat} (e : zT κ a = c + 1) : zN κ' a = zN κ a := (h.2.2.2.2.2.1 a (by omega)).2
theorem zF.i (h : zF F κ κ') (z : ¬ F f a) : zI κ' f a = zI κ f a := (h.1 f a z).1
theorem zF.r (h : zF F κ κ') (z : ¬ F f a) : zR κ' f a = zR κ f a := (h.1 f a z).2
/-- the row of a field that isn't in F -/
theorem zF.row {C : zC} {n0 t : Nat} (h : zF F κ κ') (W : zW C n0 κ) (hr : zr f = some t) (ht : 20 ≤ t) (hT : zT κ a = f / 100) (z : ¬ F f a) : zA κ' (zR κ' f a) = zA κ (zR κ f a) ∧ zJ κ' (zR κ' f a) = zJ κ (zR κ f a) ∧ zQ κ' (zR κ' f a) = zQ κ (zR κ f a) := by
  have o := W.o hr ht hT
  have e := W.r hr hT
  have g := h.2.1 (zR κ f a) (by omega) (by rw [o]; exact z)
  rw [h.r z]
  exact ⟨g.1, g.2.1, g.2.2.1⟩
theorem zF_ui {x : Int32} (hF : F f a) : zF F κ (ui κ f a x) := by
  refine ⟨fun g b z => ⟨if_neg (fun e => z (by rw [e.1, e.2]; exact hF)), rfl⟩, fun _ _ _ => ⟨rfl, rfl, rfl, rfl⟩, fun _ _ _ => rfl, zRn.of rfl rfl rfl rfl rfl (fun _ _ _ => rfl), zM.of rfl rfl rfl⟩
theorem zF_ur {v t : Nat} (hF : F f a) (hr : zr f = some t) (ht : t < 20) : zF F κ (ur κ f a v) := by
  refine ⟨fun g b z => ⟨rfl, if_neg (fun e => z (by rw [e.1, e.2]; exact hF))⟩, fun _ _ _ => ⟨rfl, rfl, rfl, rfl⟩, fun _ _ _ => rfl, zRn.of rfl rfl rfl rfl rfl (fun g b z => if_neg (fun e => ?_)), zM.of rfl rfl rfl⟩
  obtain ⟨q, h1, h2⟩ := z
  rw [e.1, hr] at h1
  cases h1
  omega
theorem zF_ua {r i : Nat} {x : Int32} (hF : F (zO κ r).1 (zO κ r).2) : zF F κ (ua κ r i x) := by
  refine ⟨fun _ _ _ => ⟨rfl, rfl⟩, fun y _ z => ⟨if_neg (fun e => z (by rw [e]; exact hF)), rfl, rfl, rfl⟩, fun _ _ _ => rfl, zRn.of rfl rfl rfl rfl rfl (fun _ _ _ => rfl), zM.of rfl rfl rfl⟩
theorem zF_uj {r i : Nat} {x : Int64} (hF : F (zO κ r).1 (zO κ r).2) : zF F κ (uj κ r i x) := by
  refine ⟨fun _ _ _ => ⟨rfl, rfl⟩, fun y _ z => ⟨rfl, if_neg (fun e => z (by rw [e]; exact hF)), rfl, rfl⟩, fun _ _ _ => rfl, zRn.of rfl rfl rfl rfl rfl (fun _ _ _ => rfl), zM.of rfl rfl rfl⟩
theorem zF_uq {r i : Nat} {x : Option Nat} (hF : F (zO κ r).1 (zO κ r).2) : zF F κ (uq κ r i x) := by
  refine ⟨fun _ _ _ => ⟨rfl, rfl⟩, fun y _ z => ⟨rfl, rfl, if_neg (fun e => z (by rw [e]; exact hF)), rfl⟩, fun _ _ _ => rfl, zRn.of rfl rfl rfl rfl rfl (fun _ _ _ => rfl), zM.of rfl rfl rfl⟩
theorem zF_uc {s r sp dp n : Nat} (hF : F (zO κ r).1 (zO κ r).2) : zF F κ (uc κ s r sp dp n) := by
  refine ⟨fun _ _ _ => ⟨rfl, rfl⟩, fun y _ z => ⟨if_neg (fun e => z (by rw [e]; exact hF)), rfl, rfl, rfl⟩, fun _ _ _ => rfl, zRn.of rfl rfl rfl rfl rfl (fun _ _ _ => rfl), zM.of rfl rfl rfl⟩
end ZF
/-- a field gets a new row: what that costs -/
theorem po_uo {C : zC} {n0 t n f a q : Nat} {w : Nat → Nat → Nat} {κ κ2 : zS} (W : zW C n0 κ) (hr : zr f = some q) (hq : 20 ≤ q) (hT : zT κ a = f / 100) (hw : w 0 t = 0) (ht : 20 ≤ t) (hw0 : ∀ c, 20 ≤ c → w 0 c = 0) (e1 : ∀ b, b ≠ zn κ → zT κ2 b = zT κ b) (e2 : zT κ2 (zn κ) = t) (e3 : ∀ b, b ≠ zn κ → zN κ2 b = zN κ b) (e4 : zN κ2 (zn κ) = n) (e5 : ∀ g b, ¬ (g = f ∧ b = a) → zR κ2 g b = zR κ g b) (e6 : zR κ2 f a = zn κ) (e7 : zn κ2 = zn κ + 1) : pot w κ2 + w f (zN κ (zR κ f a)) = pot w κ + w f n := by
  have hfr := W.fr
  have cl := zr_cls hr
  have ha : a ≠ zn κ := fun e => by rw [e, hfr] at hT; omega
  have hlt : a < zn κ := (W.2.1 a (by omega)).2
  have pw : po w κ2 (zn κ) = 0 := by
    unfold po
    rw [e2, arF_no (Or.inl ht)]
    show 0 + w 0 t = 0
    rw [hw]
  have pb : ∀ b, b < zn κ → b ≠ a → po w κ2 b = po w κ b := by
    intro b hb hne
    unfold po
    rw [e1 b (Nat.ne_of_lt hb)]
    congr 2
    refine List.map_congr_left (fun g hg => ?_)
    obtain ⟨g1, p, g2, g3⟩ := arF_zr hg
    have h3 := W.r g2 g1.symm
    rw [e5 g b (fun e => hne e.2), e3 _ (fun e => by rw [e, hfr] at h3; omega)]
  have pa : po w κ2 a + w f (zN κ (zR κ f a)) = po w κ a + w f n := by
    have hnd := arF_nd (f / 100) (by omega)
    have hin := arF_in hr hq
    have key : ∀ l : List Nat, l.Nodup → (∀ g ∈ l, g ∈ arF (f / 100)) → f ∈ l → (l.map fun g => w g (zN κ2 (zR κ2 g a))).sum + w f (zN κ (zR κ f a)) = (l.map fun g => w g (zN κ (zR κ g a))).sum + w f n := by
      intro l
      induction l with
      | nil => intro _ _ h; cases h
      | cons g l ih =>
        intro nd hs hf
        rw [List.nodup_cons] at nd
        have rest : ∀ g ∈ l, g ≠ f → w g (zN κ2 (zR κ2 g a)) = w g (zN κ (zR κ g a)) := by
          intro g hg hne
          obtain ⟨g1, p, g2, g3⟩ := arF_zr (hs g (List.mem_cons_of_mem _ hg))
          have h3 := W.r g2 (hT.trans g1.symm)
          rw [e5 g a (fun e => hne e.1), e3 _ (fun e => by rw [e, hfr] at h3; omega)]
        by_cases hg : g = f
        · subst hg
          have e9 : (l.map fun g => w g (zN κ2 (zR κ2 g a))) = l.map fun g => w g (zN κ (zR κ g a)) := List.map_congr_left (fun x hx => rest x hx (fun z => nd.1 (by rw [← z]; exact hx)))
          rw [List.map_cons, List.map_cons, List.sum_cons, List.sum_cons, e9, e6, e4]
          omega
        · have hf2 : f ∈ l := by
            rcases List.mem_cons.mp hf with z | z
            · exact absurd z.symm hg
            · exact z
          have := ih nd.2 (fun x hx => hs x (List.mem_cons_of_mem _ hx)) hf2
          obtain ⟨g1, p, g2, g3⟩ := arF_zr (hs g List.mem_cons_self)
          have h3 := W.r g2 (hT.trans g1.symm)
          have eg : w g (zN κ2 (zR κ2 g a)) = w g (zN κ (zR κ g a)) := by rw [e5 g a (fun e => hg e.1), e3 _ (fun e => by rw [e, hfr] at h3; omega)]
          rw [List.map_cons, List.map_cons, List.sum_cons, List.sum_cons, eg]
          omega
    unfold po
    rw [e1 a ha, hT]
    have := key _ hnd (fun _ h => h) hin
    omega
  unfold pot
  rw [e7]
  show zSum (zn κ) (po w κ2) + po w κ2 (zn κ) + _ = _
  rw [pw]
  have := zSum_one (f := po w κ) (g := po w κ2) hlt pb
  omega
/-- a row that has been made, perhaps filled, becomes a field's -/
theorem zF_uo {C : zC} {n0 t n f a q : Nat} {F : Nat → Nat → Prop} {κ κ1 κ2 : zS} (W : zW C n0 κ) (hr : zr f = some q) (hq : 20 ≤ q) (hT : zT κ a = f / 100) (ht : 20 ≤ t) (hF : F f a) (h1 : zT κ1 = zT (na κ t n) ∧ zN κ1 = zN (na κ t n) ∧ zI κ1 = zI κ ∧ zR κ1 = zR κ ∧ (∀ b, b ≠ zn κ → zA κ1 b = zA κ b ∧ zJ κ1 b = zJ κ b ∧ zQ κ1 b = zQ κ b ∧ zO κ1 b = zO κ b) ∧ zn κ1 = zn κ + 1 ∧ zc κ1 = zc κ + 1 ∧ zs κ1 = zs κ + n) (h2 : κ2 = uo κ1 f a (zn κ)) (cS : n + wS f (zN κ (zR κ f a)) ≤ wS f n) (cC : 4 + wC f (zN κ (zR κ f a)) ≤ wC f n) : zF F κ κ2 := by
  obtain ⟨k1, k2, k3, k4, k5, k6, k7, k8⟩ := h1
  subst h2
  have hfr := W.fr
  have ne : ∀ b, zT κ b ≠ 0 → b ≠ zn κ := fun b h e => by rw [e, hfr] at h; exact h rfl
  have e1 : ∀ b, b ≠ zn κ → zT (uo κ1 f a (zn κ)) b = zT κ b := fun b hb => by show zT κ1 b = _; rw [k1]; exact if_neg hb
  have e2 : zT (uo κ1 f a (zn κ)) (zn κ) = t := by show zT κ1 _ = _; rw [k1]; exact if_pos rfl
  have e3 : ∀ b, b ≠ zn κ → zN (uo κ1 f a (zn κ)) b = zN κ b := fun b hb => by show zN κ1 b = _; rw [k2]; exact if_neg hb
  have e4 : zN (uo κ1 f a (zn κ)) (zn κ) = n := by show zN κ1 _ = _; rw [k2]; exact if_pos rfl
  have e5 : ∀ g b, ¬ (g = f ∧ b = a) → zR (uo κ1 f a (zn κ)) g b = zR κ g b := fun g b h => (if_neg h).trans (by show zR κ1 g b = _; rw [k4])
  have e6 : zR (uo κ1 f a (zn κ)) f a = zn κ := if_pos ⟨rfl, rfl⟩
  have w0 : ∀ c, 20 ≤ c → wS 0 c = 0 ∧ wC 0 c = 0 := fun c hc => ⟨by unfold wS; rw [if_pos rfl, if_neg (by omega)], by unfold wC; rw [if_pos rfl, if_neg (by omega)]⟩
  have pS := po_uo (w := wS) W hr hq hT (w0 t ht).1 ht (fun c hc => (w0 c hc).1) e1 e2 e3 e4 e5 e6 k6
  have pC := po_uo (w := wC) W hr hq hT (w0 t ht).2 ht (fun c hc => (w0 c hc).2) e1 e2 e3 e4 e5 e6 k6
  refine ⟨fun g b z => ⟨by show zI κ1 g b = _; rw [k3], e5 g b (fun e => z (by rw [e.1, e.2]; exact hF))⟩, fun x hx z => ?_, fun x hx z => ?_, ⟨⟨⟨?_, ?_⟩, fun b hb e => (e1 b (Nat.ne_of_lt hb)).trans e⟩, fun b t9 h3 h20 e => ?_⟩, fun x c _ e => ?_, fun x e => ?_, ?_⟩
  · obtain ⟨a1, a2, a3, a4⟩ := k5 x (ne x hx)
    exact ⟨a1, a2, a3, (if_neg (ne x hx)).trans a4⟩
  · exact (if_neg (ne x hx)).trans (k5 x (ne x hx)).2.2.2
  · show zs κ1 + _ ≤ _
    rw [k8]
    omega
  · show 4 * zc κ1 + _ ≤ _
    rw [k7]
    omega
  · by_cases z : b = zn κ
    · rw [z, e2] at e
      omega
    · rw [e1 b z] at e
      exact Or.inl e
  · exact (e1 x (ne x (by omega))).trans e
  · exact ⟨by rw [e1 x (ne x e)]; exact e, e3 x (ne x e)⟩
  · show zn κ ≤ zn κ1
    omega
theorem na_h {κ κ1 : zS} {t n : Nat} (e : κ1 = na κ t n) : zT κ1 = zT (na κ t n) ∧ zN κ1 = zN (na κ t n) ∧ zI κ1 = zI κ ∧ zR κ1 = zR κ ∧ (∀ b, b ≠ zn κ → zA κ1 b = zA κ b ∧ zJ κ1 b = zJ κ b ∧ zQ κ1 b = zQ κ b ∧ zO κ1 b = zO κ b) ∧ zn κ1 = zn κ + 1 ∧ zc κ1 = zc κ + 1 ∧ zs κ1 = zs κ + n := by
  subst e
  exact ⟨rfl, rfl, rfl, rfl, fun b hb => ⟨if_neg hb, if_neg hb, if_neg hb, if_neg hb⟩, rfl, rfl, rfl⟩
theorem wS_le {f n : Nat} (h0 : f ≠ 0) (h1 : f ≠ 605) (h2 : f ≠ 800) : 2 * n ≤ wS f n ∧ wS f n ≤ 3 * n := by
  unfold wS
  rw [if_neg h0, if_neg h1, if_neg h2]
  split <;> omega
theorem wC_le {f n : Nat} (h0 : f ≠ 0) (h1 : f ≠ 605) (h2 : f ≠ 800) : 2 * n ≤ wC f n ∧ wC f n ≤ 2 * n + 8 := by
  unfold wC
  rw [if_neg h0, if_neg h1, if_neg h2]
  split <;> omega
/-- rows of fields -/
abbrev zrow (κ : zS) (f a : Nat) : Nat → Int32 := zA κ (zR κ f a)
abbrev zrlen (κ : zS) (f a : Nat) : Nat := zN κ (zR κ f a)
theorem inb_z {i : Int32} {n : Nat} (h0 : 0 ≤ i) (h : i.toNatClampNeg < n) : inb i n := by
  rintro (z | z)
  · exact absurd (Int32.lt_of_lt_of_le z h0) (by grind)
  · omega

end
section
set_option maxHeartbeats 1600000
/-! the class: rows of java.util.Arrays -/
theorem ofn_i {n : Nat} (h : n ≤ 67108864) : (Int32.ofNat n).toInt = n := Int32.toInt_ofNat_of_lt (Nat.lt_of_le_of_lt h (by decide))
theorem ofn_0 {n : Nat} (h : n ≤ 67108864) : 0 ≤ Int32.ofNat n := Int32.le_iff_toInt_le.mpr (by rw [ofn_i h]; exact Int.natCast_nonneg n)
theorem ofn_c {n : Nat} (h : n ≤ 67108864) : (Int32.ofNat n).toNatClampNeg = n := by
  show (Int32.ofNat n).toInt.toNat = n
  rw [ofn_i h]
  rfl
theorem cn_i {x : Int32} (h : 0 ≤ x) : x.toInt = x.toNatClampNeg := by
  have h1 : (0 : Int32).toInt ≤ x.toInt := Int32.le_iff_toInt_le.mp h
  have e : (0 : Int32).toInt = 0 := rfl
  show x.toInt = ((x.toInt.toNat : Nat) : Int)
  rw [e] at h1
  omega
theorem le_ofn {x : Int32} {n : Nat} (h : n ≤ 67108864) (h0 : 0 ≤ x) : x ≤ Int32.ofNat n ↔ x.toNatClampNeg ≤ n := by
  rw [Int32.le_iff_toInt_le, ofn_i h, cn_i h0]
  omega
theorem ofn_le {x : Int32} {n : Nat} (h : n ≤ 67108864) (h0 : 0 ≤ x) : Int32.ofNat n ≤ x ↔ n ≤ x.toNatClampNeg := by
  rw [Int32.le_iff_toInt_le, ofn_i h, cn_i h0]
  omega
theorem le_cn {x y : Int32} (h0 : 0 ≤ x) (h1 : 0 ≤ y) : x ≤ y ↔ x.toNatClampNeg ≤ y.toNatClampNeg := by
  rw [Int32.le_iff_toInt_le, cn_i h0, cn_i h1]
  omega
theorem lt_cn {x y : Int32} (h0 : 0 ≤ x) (h1 : 0 ≤ y) : x < y ↔ x.toNatClampNeg < y.toNatClampNeg := by
  rw [Int32.lt_iff_toInt_lt, cn_i h0, cn_i h1]
  omega
theorem n_lt {x y : Int32} (h : ¬ x ≤ y) : y < x := by grind
theorem n_le {x y : Int32} (h : ¬ x < y) : y ≤ x := by grind
theorem zW.n {C : zC} {n0 : Nat} {κ : zS} {a c : Nat} (W : zW C n0 κ) (h : zT κ a = c + 1) : zN κ a ≤ 67108864 := (W.2.1 a (by omega)).1.2
/-- a row that has been copied -/
def cpR (κ κ' : zS) (s t n : Nat) : Prop := (zT κ' = zT (na κ t n) ∧ zN κ' = zN (na κ t n) ∧ zI κ' = zI κ ∧ zR κ' = zR κ ∧ (∀ b, b ≠ zn κ → zA κ' b = zA κ b ∧ zJ κ' b = zJ κ b ∧ zQ κ' b = zQ κ b ∧ zO κ' b = zO κ b) ∧ zn κ' = zn κ + 1 ∧ zc κ' = zc κ + 1 ∧ zs κ' = zs κ + n) ∧ zO κ' (zn κ) = (0, 0) ∧ (∀ i, i < n → i < zN κ s → zA κ' (zn κ) i = zA κ s i) ∧ ∀ i, zN κ s ≤ i → zA κ' (zn κ) i = 0
theorem mn_c {x : Int32} {n : Nat} (h : n ≤ 67108864) (h0 : 0 ≤ x) : 0 ≤ (if x < Int32.ofNat n then x else Int32.ofNat n) ∧ (if x < Int32.ofNat n then x else Int32.ofNat n).toNatClampNeg = min x.toNatClampNeg n := by
  have e := lt_cn h0 (ofn_0 h)
  rw [ofn_c h] at e
  by_cases z : x < Int32.ofNat n
  · rw [if_pos z]
    have := e.mp z
    exact ⟨h0, by omega⟩
  · rw [if_neg z, ofn_c h]
    have : ¬ x.toNatClampNeg < n := fun q => z (e.mpr q)
    exact ⟨ofn_0 h, by omega⟩
theorem cpR_of {C : zC} {n0 : Nat} {κ : zS} {s t n m : Nat} (W : zW C n0 κ) (hs : zT κ s ≠ 0) (hm : m = min n (zN κ s)) : cpR κ (uc (na κ t n) s (zn κ) 0 0 m) s t n := by
  have hf := W.fr
  have hne : s ≠ zn κ := fun e => by rw [e, hf] at hs; exact hs rfl
  have ea : zA (uc (na κ t n) s (zn κ) 0 0 m) (zn κ) = va_cpy (zA κ s) (fun _ => 0) 0 0 m := by
    show (if zn κ = zn κ then va_cpy (zA (na κ t n) s) (zA (na κ t n) (zn κ)) 0 0 m else _) = _
    rw [if_pos rfl]
    have e1 : zA (na κ t n) s = zA κ s := if_neg hne
    have e2 : zA (na κ t n) (zn κ) = fun _ => 0 := if_pos rfl
    rw [e1, e2]
  refine ⟨⟨rfl, rfl, rfl, rfl, fun b hb => ⟨(if_neg hb).trans (if_neg hb), if_neg hb, if_neg hb, if_neg hb⟩, rfl, rfl, rfl⟩, if_pos rfl, fun i h1 h2 => ?_, fun i h1 => ?_⟩
  · rw [ea]
    show (if 0 ≤ i ∧ i < 0 + m then zA κ s (0 + (i - 0)) else 0) = _
    rw [if_pos ⟨Nat.zero_le _, by omega⟩]
    congr 1
    omega
  · rw [ea]
    show (if 0 ≤ i ∧ i < 0 + m then zA κ s (0 + (i - 0)) else 0) = _
    rw [if_neg (by omega)]
/-- a row filled from a place to a place -/
def uff (κ : zS) (r i j : Nat) (x : Int32) : zS := (κ.1, κ.2.1, κ.2.2.1, κ.2.2.2.1, fun b => if b = r then (fun k => if i ≤ k ∧ k < j then x else κ.2.2.2.2.1 r k) else κ.2.2.2.2.1 b, κ.2.2.2.2.2)
theorem uf_0 {κ : zS} {r i : Nat} {x : Int32} : uff κ r i i x = κ := by
  have e : (fun b => if b = r then (fun k => if i ≤ k ∧ k < i then x else zA κ r k) else zA κ b) = zA κ := by
    funext b
    by_cases z : b = r
    · rw [if_pos z, z]
      funext k
      rw [if_neg (by omega)]
    · rw [if_neg z]
  show (κ.1, κ.2.1, κ.2.2.1, κ.2.2.2.1, (fun b => if b = r then (fun k => if i ≤ k ∧ k < i then x else zA κ r k) else zA κ b), κ.2.2.2.2.2) = κ
  rw [e]
theorem uf_s {κ : zS} {r i j : Nat} {x : Int32} (h : i ≤ j) : ua (uff κ r i j x) r j x = uff κ r i (j + 1) x := by
  have e : (fun b => if b = r then upd ((fun b => if b = r then (fun k => if i ≤ k ∧ k < j then x else zA κ r k) else zA κ b) r) j x else (fun b => if b = r then (fun k => if i ≤ k ∧ k < j then x else zA κ r k) else zA κ b) b) = fun b => if b = r then (fun k => if i ≤ k ∧ k < j + 1 then x else zA κ r k) else zA κ b := by
    funext b
    by_cases z : b = r
    · rw [if_pos z, if_pos z]
      funext k
      show (if k = j then x else (if r = r then (fun k => if i ≤ k ∧ k < j then x else zA κ r k) else zA κ r) k) = _
      rw [if_pos rfl]
      by_cases q : k = j
      · rw [if_pos q, if_pos (by omega)]
      · rw [if_neg q]
        by_cases q2 : i ≤ k ∧ k < j
        · rw [if_pos q2, if_pos (by omega)]
        · rw [if_neg q2, if_neg (by omega)]
    · rw [if_neg z, if_neg z]
      exact if_neg z
  exact congrArg (fun g => ((κ.1, κ.2.1, κ.2.2.1, κ.2.2.2.1, g, κ.2.2.2.2.2) : zS)) e
theorem zF_uf {F : Nat → Nat → Prop} {κ : zS} {r i j : Nat} {x : Int32} (hF : F (zO κ r).1 (zO κ r).2) : zF F κ (uff κ r i j x) :=
  ⟨fun _ _ _ => ⟨rfl, rfl⟩, fun y _ z => ⟨if_neg (fun e => z (by rw [e]; exact hF)), rfl, rfl, rfl⟩, fun _ _ _ => rfl, zRn.of rfl rfl rfl rfl rfl (fun _ _ _ => rfl), zM.of rfl rfl rfl⟩
theorem dn_c {x y : Int32} (h0 : 0 ≤ x) (h : x < y) : 0 ≤ y - (x + 1) ∧ y - (x + 1) < y - x ∧ (x + 1).toNatClampNeg = x.toNatClampNeg + 1 ∧ 0 ≤ x + 1 ∧ x + 1 ≤ y ∧ x ≤ x + 1 := by
  refine ⟨by grind, by grind, ?_, by grind, by grind, by grind⟩
  have a : 0 ≤ x + 1 := by grind
  have e := cn_i a
  have e2 := cn_i h0
  have e3 : (x + 1).toInt = x.toInt + 1 := by
    have h1 : x.toInt < y.toInt := Int32.lt_iff_toInt_lt.mp h
    have h2 := Int32.toInt_lt y
    have h3 := Int32.le_toInt x
    rw [Int32.toInt_add]
    have e4 : (1 : Int32).toInt = 1 := rfl
    rw [e4]
    exact Int.bmod_eq_of_le (by omega) (by omega)
  omega
theorem Ar_copyOf_c {C : zC} {n0 : Nat} {a0 : Nat} {a1 : Int32} {κ : zS} {Q : Nat → zS → Prop} (W : zW C n0 κ) (Ta0 : zT κ a0 = 20)  (hp : nsz a1 ∧ a1 ≠ Int32.ofNat (zN κ a0)) (h : ∀ (v : Nat) (κ' : zS), (v = zn κ ∧ cpR κ κ' a0 20 a1.toNatClampNeg) → Q v κ') : zRun C 1 mAr_copyOf [.ref a0, .int a1] κ (oR 20 Q noX) := by
  refine Ar_copyOf_run W Ta0 ?_
  replace W := W.lo (Nat.le_trans W.1.2.1 W.1.2.2) (Nat.le_refl (zn κ))
  unfold w_Ar_copyOf_0
  obtain ⟨hn, hne⟩ := hp
  have m := mn_c (W.n Ta0) hn.1
  have e0 : zN (na κ 20 a1.toNatClampNeg) a0 = zN κ a0 := if_neg (W.nw Ta0)
  have e1 : zN (na κ 20 a1.toNatClampNeg) (zn κ) = a1.toNatClampNeg := if_pos rfl
  have z0 : (0 : Int32).toNatClampNeg = 0 := rfl
  refine ⟨fun c1 => ?_, fun c1 => ?_⟩
  · skip
    refine ⟨?_, ?_⟩
    · exact hn  -- b1
    intro κ_2 hκ_2
    intro W3
    intro x4 hx4
    refine ⟨?_, ?_⟩
    · rw [hx4, hκ_2]
      unfold cpo
      rw [e0, e1, z0, m.2]
      exact ⟨by decide, by decide, m.1, by omega, by omega⟩
    intro κ_5 hκ_5
    intro W6
    refine h _ _ ?_
    · refine ⟨hx4, ?_⟩
      rw [hκ_5, hx4, hκ_2, e0, z0]
      exact cpR_of W (by omega) m.2
  · skip
    exfalso
    · exact hne c1  -- f4

theorem Ar_copyOfB_c {C : zC} {n0 : Nat} {a0 : Nat} {a1 : Int32} {κ : zS} {Q : Nat → zS → Prop} (W : zW C n0 κ) (Ta0 : zT κ a0 = 21)  (hp : nsz a1 ∧ a1 ≠ Int32.ofNat (zN κ a0)) (h : ∀ (v : Nat) (κ' : zS), (v = zn κ ∧ cpR κ κ' a0 21 a1.toNatClampNeg) → Q v κ') : zRun C 1 mAr_copyOfB [.ref a0, .int a1] κ (oR 21 Q noX) := by
  refine Ar_copyOfB_run W Ta0 ?_
  replace W := W.lo (Nat.le_trans W.1.2.1 W.1.2.2) (Nat.le_refl (zn κ))
  unfold w_Ar_copyOfB_0
  obtain ⟨hn, hne⟩ := hp
  have m := mn_c (W.n Ta0) hn.1
  have e0 : zN (na κ 21 a1.toNatClampNeg) a0 = zN κ a0 := if_neg (W.nw Ta0)
  have e1 : zN (na κ 21 a1.toNatClampNeg) (zn κ) = a1.toNatClampNeg := if_pos rfl
  have z0 : (0 : Int32).toNatClampNeg = 0 := rfl
  refine ⟨fun c1 => ?_, fun c1 => ?_⟩
  · skip
    refine ⟨?_, ?_⟩
    · exact hn  -- b1
    intro κ_2 hκ_2
    intro W3
    intro x4 hx4
    refine ⟨?_, ?_⟩
    · rw [hx4, hκ_2]
      unfold cpo
      rw [e0, e1, z0, m.2]
      exact ⟨by decide, by decide, m.1, by omega, by omega⟩
    intro κ_5 hκ_5
    intro W6
    refine h _ _ ?_
    · refine ⟨hx4, ?_⟩
      rw [hκ_5, hx4, hκ_2, e0, z0]
      exact cpR_of W (by omega) m.2
  · skip
    exfalso
    · exact hne c1  -- f4

theorem Ar_fill_c {C : zC} {n0 : Nat} {a0 : Nat} {a1 : Int32} {κ : zS} {Q : zS → Prop} (W : zW C n0 κ) (Ta0 : zT κ a0 = 20)  (h : ∀ (κ' : zS), (κ' = uff κ a0 0 (zN κ a0) a1) → Q κ') : zRun C 0 mAr_fill [.ref a0, .int a1] κ (oV Q noX) := by
  refine Ar_fill_run W Ta0 ?_
  replace W := W.lo (Nat.le_trans W.1.2.1 W.1.2.2) (Nat.le_refl (zn κ))
  unfold w_Ar_fill_0
  have hN := W.n Ta0
  intro x1 hx1
  unfold w_Ar_fill_5
  refine ⟨fun n l0 l1 l2 l3 τ => n = (l3 - l2).toNatClampNeg ∧ (a0 = l0 ∧ a1 = l1 ∧ l3 = Int32.ofNat (zN κ a0) ∧ 0 ≤ l2 ∧ l2 ≤ l3 ∧ τ = uff κ a0 0 l2.toNatClampNeg a1), ⟨_, rfl, ?_⟩, ?_⟩
  · exact ⟨rfl, rfl, hx1, by decide, by rw [hx1]; exact ofn_0 hN, uf_0.symm⟩  -- j1
  rintro n5 _ _ x5_2 x5_3 κ5 W5 T5_0 ⟨hn5, rfl, rfl, i5⟩
  obtain ⟨i3, j0, j1, ie⟩ := i5
  refine ⟨fun c2 => ?_, fun c2 => ?_⟩
  · skip
    refine h _ ?_
    · have e : x5_2 = x5_3 := Int32.le_antisymm j1 c2
      rw [ie, e, i3, ofn_c hN]
  · skip
    refine ⟨?_, ?_⟩
    · have l := n_lt c2
      have q := (lt_cn j0 (Int32.le_trans j0 j1)).mp l
      rw [i3, ofn_c hN] at q
      refine inb_z j0 ?_
      rw [ie]
      exact q
    intro κ_3 hκ_3
    intro W4
    intro x5 hx5
    refine ⟨_, cn_lt2 hn5 ?_ ?_, rfl, ?_⟩
    · rw [hx5]; exact (dn_c j0 (n_lt c2)).1  -- d4
    · rw [hx5]; exact (dn_c j0 (n_lt c2)).2.1  -- d5
    · have q := dn_c j0 (n_lt c2)
      refine ⟨rfl, rfl, i3, by rw [hx5]; exact q.2.2.2.1, by rw [hx5]; exact q.2.2.2.2.1, ?_⟩
      rw [hκ_3, ie, hx5, q.2.2.1]
      exact uf_s (Nat.zero_le _)

theorem Ar_rangeCheck_c {C : zC} {n0 : Nat} {a0 : Int32} {a1 : Int32} {a2 : Int32} {κ : zS} {Q : zS → Prop} (W : zW C n0 κ)   (hp : 0 ≤ a1 ∧ a1 ≤ a2 ∧ a2 ≤ a0) (h : ∀ (κ' : zS), (κ' = κ) → Q κ') : zRun C 0 mAr_rangeCheck [.int a0, .int a1, .int a2] κ (oV Q noX) := by
  refine Ar_rangeCheck_run W  ?_
  replace W := W.lo (Nat.le_trans W.1.2.1 W.1.2.2) (Nat.le_refl (zn κ))
  unfold w_Ar_rangeCheck_0
  refine ⟨fun c1 => ?_, fun c1 => ?_⟩
  · skip
    refine ⟨fun c2 => ?_, fun c2 => ?_⟩
    · skip
      refine ⟨fun c3 => ?_, fun c3 => ?_⟩
      · skip
        refine h _ ?_
        · rfl  -- q1
      · skip
        exfalso
        · exact c3 hp.2.2  -- f2
    · skip
      exfalso
      · exact c2 hp.1  -- f3
  · skip
    exfalso
    · exact c1 hp.2.1  -- f4

theorem Ar_fill4_c {C : zC} {n0 : Nat} {a0 : Nat} {a1 : Int32} {a2 : Int32} {a3 : Int32} {κ : zS} {Q : zS → Prop} (W : zW C n0 κ) (Ta0 : zT κ a0 = 20)  (hp : 0 ≤ a1 ∧ a1 ≤ a2 ∧ a2.toNatClampNeg ≤ zN κ a0) (h : ∀ (κ' : zS), (κ' = uff κ a0 a1.toNatClampNeg a2.toNatClampNeg a3) → Q κ') : zRun C 1 mAr_fill4 [.ref a0, .int a1, .int a2, .int a3] κ (oV Q noX) := by
  refine Ar_fill4_run W Ta0 ?_
  replace W := W.lo (Nat.le_trans W.1.2.1 W.1.2.2) (Nat.le_refl (zn κ))
  unfold w_Ar_fill4_0
  obtain ⟨p0, p1, p2⟩ := hp
  have hN := W.n Ta0
  refine Ar_rangeCheck_c W   ?_ (fun κ_1 q2 => ?_)
  · exact ⟨p0, p1, (le_ofn hN (Int32.le_trans p0 p1)).mpr p2⟩  -- p1
  intro W3
  intro M4
  unfold w_Ar_fill4_10
  refine ⟨fun n l0 l2 l3 l4 τ => n = (l2 - l4).toNatClampNeg ∧ (a0 = l0 ∧ a2 = l2 ∧ a3 = l3 ∧ a1 ≤ l4 ∧ l4 ≤ l2 ∧ τ = uff κ a0 a1.toNatClampNeg l4.toNatClampNeg a3), ⟨_, rfl, ?_⟩, ?_⟩
  · exact ⟨rfl, rfl, rfl, Int32.le_refl _, p1, by rw [q2]; exact uf_0.symm⟩  -- j2
  rintro n10 _ _ _ x10_4 κ10 W10 T10_0 ⟨hn10, rfl, rfl, rfl, i10⟩
  obtain ⟨j0, j1, ie⟩ := i10
  have k0 := Int32.le_trans p0 j0
  refine ⟨fun c5 => ?_, fun c5 => ?_⟩
  · skip
    refine h _ ?_
    · have e : x10_4 = a2 := Int32.le_antisymm j1 c5
      rw [ie, e]
  · skip
    refine ⟨?_, ?_⟩
    · have l := n_lt c5
      have q := (lt_cn k0 (Int32.le_trans k0 j1)).mp l
      refine inb_z k0 ?_
      rw [ie]
      exact Nat.lt_of_lt_of_le q p2
    intro κ_6 hκ_6
    intro W7
    intro x8 hx8
    refine ⟨_, cn_lt2 hn10 ?_ ?_, rfl, ?_⟩
    · rw [hx8]; exact (dn_c k0 (n_lt c5)).1  -- d5
    · rw [hx8]; exact (dn_c k0 (n_lt c5)).2.1  -- d6
    · have q := dn_c k0 (n_lt c5)
      refine ⟨rfl, rfl, rfl, by rw [hx8]; exact Int32.le_trans j0 q.2.2.2.2.2, by rw [hx8]; exact q.2.2.2.2.1, ?_⟩
      rw [hκ_6, ie, hx8, q.2.2.1]
      exact uf_s ((le_cn p0 k0).mp j0)

end
section
set_option maxHeartbeats 1600000
/-! the class: whole numbers of 32 bits as integers; rows of numbers kept once (Hoard) -/
theorem add_i {x y : Int32} (h1 : -2147483648 ≤ x.toInt + y.toInt) (h2 : x.toInt + y.toInt < 2147483648) : (x + y).toInt = x.toInt + y.toInt := by
  rw [Int32.toInt_add]; exact Int.bmod_eq_of_le (by omega) (by omega)
theorem sub_i {x y : Int32} (h1 : -2147483648 ≤ x.toInt - y.toInt) (h2 : x.toInt - y.toInt < 2147483648) : (x - y).toInt = x.toInt - y.toInt := by
  rw [Int32.toInt_sub]; exact Int.bmod_eq_of_le (by omega) (by omega)
theorem mul_i {x y : Int32} (h1 : -2147483648 ≤ x.toInt * y.toInt) (h2 : x.toInt * y.toInt < 2147483648) : (x * y).toInt = x.toInt * y.toInt := by
  rw [Int32.toInt_mul]; exact Int.bmod_eq_of_le (by omega) (by omega)
theorem lei {x y : Int32} : x ≤ y ↔ x.toInt ≤ y.toInt := Int32.le_iff_toInt_le
theorem lti {x y : Int32} : x < y ↔ x.toInt < y.toInt := Int32.lt_iff_toInt_lt
theorem t0i : (0 : Int32).toInt = 0 := rfl
theorem t1i : (1 : Int32).toInt = 1 := rfl
theorem t2i : (2 : Int32).toInt = 2 := rfl
theorem tmi : (-1 : Int32).toInt = -1 := rfl
theorem ilo (x : Int32) : -2147483648 ≤ x.toInt := Int32.le_toInt x
theorem ihi (x : Int32) : x.toInt < 2147483648 := Int32.toInt_lt x
theorem andi_i {x m : Int32} (h : 0 ≤ m.toInt) : 0 ≤ (x &&& m).toInt ∧ (x &&& m).toInt ≤ m.toInt := by
  have e1 : m.toInt = (m.toBitVec.toNat : Int) := BitVec.toInt_eq_toNat_of_lt (by
    have h9 : 0 ≤ m.toBitVec.toInt := h
    rw [BitVec.toInt_eq_toNat_cond] at h9
    have l := m.toBitVec.isLt
    split at h9
    · assumption
    · omega)
  have e2 : (x &&& m).toBitVec.toNat = x.toBitVec.toNat &&& m.toBitVec.toNat := by
    show (x.toBitVec &&& m.toBitVec).toNat = _
    exact BitVec.toNat_and _ _
  have l2 : (x &&& m).toBitVec.toNat ≤ m.toBitVec.toNat := by rw [e2]; exact Nat.and_le_right
  have hm : 2 * m.toBitVec.toNat < 2 ^ 32 := by
    have h9 := ihi m
    rw [e1] at h9
    omega
  have e3 : (x &&& m).toInt = ((x &&& m).toBitVec.toNat : Int) := BitVec.toInt_eq_toNat_of_lt (by omega)
  rw [e3, e1]
  omega
theorem cnk {x : Int32} (h : 0 ≤ x.toInt) : (x.toNatClampNeg : Int) = x.toInt := by
  show ((x.toInt.toNat : Nat) : Int) = x.toInt
  omega
/-- a store of rows that is in use -/
def hoA (κ : zS) (h M D S : Nat) : Prop := (zN κ (zR κ hoTable h)) = S ∧ (zN κ (zR κ hoStarts h)) = M + 1 ∧ (zA κ (zR κ hoStarts h) 0).toInt = 0 ∧ (∀ k, k < ((zI κ hoTotal h).toInt).toNat → (zA κ (zR κ hoStarts h) k).toInt ≤ (zA κ (zR κ hoStarts h) (k + 1)).toInt ∧ (zA κ (zR κ hoStarts h) (k + 1)).toInt ≤ (zA κ (zR κ hoStarts h) k).toInt + D) ∧ (zA κ (zR κ hoStarts h) ((zI κ hoTotal h).toInt).toNat).toInt ≤ (zN κ (zR κ hoPool h)) ∧ ∀ j, j < S → 0 ≤ (zA κ (zR κ hoTable h) j).toInt ∧ (zA κ (zR κ hoTable h) j).toInt ≤ (zI κ hoTotal h).toInt
def hoI (κ : zS) (h M D S : Nat) : Prop := ((zI κ hoMost h).toInt = M ∧ (zI κ hoWidest h).toInt = D ∧ (zI κ hoSlots h).toInt = S) ∧ (0 ≤ (zI κ hoTotal h).toInt ∧ (zI κ hoTotal h).toInt ≤ M) ∧ (16 ≤ (zN κ (zR κ hoPool h)) ∧ (zN κ (zR κ hoPool h)) ≤ M * D) ∧ (((zN κ (zR κ hoTable h)) = 0 ∧ (zN κ (zR κ hoStarts h)) = 1 ∧ (zI κ hoTotal h).toInt = 0) ∨ hoA κ h M D S)
def hoP (M D S : Nat) : Prop := (M = 1000 ∧ D = 142 ∧ S = 2048) ∨ (M = 1000 ∧ D = 35 ∧ S = 2048) ∨ (M = 3000 ∧ D = 3 ∧ S = 8192)
theorem hoP_b {M D S : Nat} (h : hoP M D S) : M ≤ 3000 ∧ D ≤ 142 ∧ 2048 ≤ S ∧ S ≤ 8192 ∧ M * D ≤ 142000 ∧ 1000 ≤ M := by
  rcases h with ⟨rfl, rfl, rfl⟩ | ⟨rfl, rfl, rfl⟩ | ⟨rfl, rfl, rfl⟩ <;> decide
theorem hoA_mono {κ : zS} {h M D S : Nat} (H : hoA κ h M D S) : ∀ j k, k ≤ j → j ≤ ((zI κ hoTotal h).toInt).toNat → (zA κ (zR κ hoStarts h) k).toInt ≤ (zA κ (zR κ hoStarts h) j).toInt := by
  intro j
  induction j with
  | zero => intro k hk _; rw [Nat.le_zero.mp hk]; exact Int.le_refl _
  | succ j ih =>
    intro k hk hj
    by_cases e : k = j + 1
    · rw [e]; exact Int.le_refl _
    · exact Int.le_trans (ih k (by omega) (by omega)) (H.2.2.2.1 j (by omega)).1
theorem hoA_0 {κ : zS} {h M D S k : Nat} (H : hoA κ h M D S) (hk : k ≤ ((zI κ hoTotal h).toInt).toNat) : 0 ≤ (zA κ (zR κ hoStarts h) k).toInt := by
  have := hoA_mono H k 0 (Nat.zero_le _) hk
  rw [H.2.2.1] at this
  exact this
theorem hoA_D {κ : zS} {h M D S : Nat} (H : hoA κ h M D S) : ∀ j, j ≤ ((zI κ hoTotal h).toInt).toNat → (zA κ (zR κ hoStarts h) j).toInt ≤ j * D := by
  intro j
  induction j with
  | zero => intro _; rw [H.2.2.1]; simp
  | succ j ih =>
    intro hj
    have a := ih (by omega)
    have b := (H.2.2.2.1 j (by omega)).2
    have e : ((j + 1 : Nat) : Int) * D = j * D + D := by rw [Int.natCast_add]; simp [Int.add_mul]
    omega
theorem hoA_t {κ : zS} {h M D S k : Nat} (H : hoA κ h M D S) (hk : k ≤ ((zI κ hoTotal h).toInt).toNat) : (zA κ (zR κ hoStarts h) k).toInt ≤ (zN κ (zR κ hoPool h)) := Int.le_trans (hoA_mono H _ k hk (Nat.le_refl _)) H.2.2.2.2.1
theorem hoI_A {κ : zS} {h M D S : Nat} (H : hoI κ h M D S) (z : 0 < (zI κ hoTotal h).toInt ∨ (zN κ (zR κ hoTable h)) ≠ 0) : hoA κ h M D S := by
  rcases H.2.2.2 with q | q
  · omega
  · exact q
/-- the same store -/
theorem hoI_f {κ κ' : zS} {h M D S : Nat} (H : hoI κ h M D S) (hi : ∀ f, f / 100 = 6 → zI κ' f h = zI κ f h) (hr : ∀ f, f = hoStarts ∨ f = hoTable ∨ f = hoPool → zR κ' f h = zR κ f h ∧ zA κ' (zR κ f h) = zA κ (zR κ f h) ∧ zN κ' (zR κ f h) = zN κ (zR κ f h)) : hoI κ' h M D S := by
  have s := hr hoStarts (Or.inl rfl)
  have t := hr hoTable (Or.inr (Or.inl rfl))
  have p := hr hoPool (Or.inr (Or.inr rfl))
  unfold hoI hoA
  unfold hoI hoA at H
  show (((zI κ' hoMost h).toInt = M ∧ (zI κ' hoWidest h).toInt = D ∧ (zI κ' hoSlots h).toInt = S) ∧ (0 ≤ (zI κ' hoTotal h).toInt ∧ (zI κ' hoTotal h).toInt ≤ M) ∧ (16 ≤ zN κ' (zR κ' hoPool h) ∧ zN κ' (zR κ' hoPool h) ≤ M * D) ∧ ((zN κ' (zR κ' hoTable h) = 0 ∧ zN κ' (zR κ' hoStarts h) = 1 ∧ (zI κ' hoTotal h).toInt = 0) ∨ (zN κ' (zR κ' hoTable h) = S ∧ zN κ' (zR κ' hoStarts h) = M + 1 ∧ (zA κ' (zR κ' hoStarts h) 0).toInt = 0 ∧ (∀ k, k < ((zI κ' hoTotal h).toInt).toNat → (zA κ' (zR κ' hoStarts h) k).toInt ≤ (zA κ' (zR κ' hoStarts h) (k + 1)).toInt ∧ (zA κ' (zR κ' hoStarts h) (k + 1)).toInt ≤ (zA κ' (zR κ' hoStarts h) k).toInt + D) ∧ (zA κ' (zR κ' hoStarts h) ((zI κ' hoTotal h).toInt).toNat).toInt ≤ zN κ' (zR κ' hoPool h) ∧ ∀ j, j < S → 0 ≤ (zA κ' (zR κ' hoTable h) j).toInt ∧ (zA κ' (zR κ' hoTable h) j).toInt ≤ (zI κ' hoTotal h).toInt)))
  rw [hi hoMost rfl, hi hoWidest rfl, hi hoSlots rfl, hi hoTotal rfl, s.1, t.1, p.1, s.2.1, t.2.1, s.2.2, t.2.2, p.2.2]
  exact H
theorem Ho_lengthOf_c {C : zC} {n0 : Nat} {a0 : Nat} {a1 : Int32} {κ : zS} {Q : Int32 → zS → Prop} (W : zW C n0 κ) (Ta0 : zT κ a0 = 6) (M D S : Nat) (hp : hoI κ a0 M D S ∧ hoP M D S) (h : ∀ (v : Int32), (0 ≤ v.toInt ∧ v.toInt ≤ D ∧ (0 < v.toInt → 0 ≤ a1.toInt ∧ a1.toInt < (zI κ hoTotal a0).toInt ∧ v.toInt = (zA κ (zR κ hoStarts a0) (a1.toNatClampNeg + 1)).toInt - (zA κ (zR κ hoStarts a0) a1.toNatClampNeg).toInt)) → Q v κ) : zRun C 0 mHo_lengthOf [.ref a0, .int a1] κ (oI Q noX) := by
  refine Ho_lengthOf_run W Ta0 ?_
  replace W := W.lo (Nat.le_trans W.1.2.1 W.1.2.2) (Nat.le_refl (zn κ))
  unfold w_Ho_lengthOf_0
  obtain ⟨H, P⟩ := hp
  have B := hoP_b P
  have z0 : 0 ≤ (0 : Int32).toInt ∧ (0 : Int32).toInt ≤ (D : Int) ∧ (0 < (0 : Int32).toInt → 0 ≤ a1.toInt ∧ a1.toInt < (zI κ hoTotal a0).toInt ∧ (0 : Int32).toInt = (zA κ (zR κ hoStarts a0) (a1.toNatClampNeg + 1)).toInt - (zA κ (zR κ hoStarts a0) a1.toNatClampNeg).toInt) := ⟨by decide, Int.natCast_nonneg D, fun h => absurd h (by decide)⟩
  refine ⟨fun c1 => ?_, fun c1 => ?_⟩
  · skip
    refine h _ ?_
    · exact z0  -- q1
  · skip
    refine ⟨fun c2 => ?_, fun c2 => ?_⟩
    · skip
      refine h _ ?_
      · exact z0  -- q2
    · skip
      have c0 : 0 ≤ a1.toInt := by rw [lti, t0i] at c1; omega
      have c3 : a1.toInt < (zI κ hoTotal a0).toInt := by rw [lei] at c2; omega
      have k9 := cnk c0
      have tM := H.2.1.2
      have A := hoI_A H (Or.inl (by omega))
      have e1 : (a1 + 1).toInt = a1.toInt + 1 := by rw [add_i (by rw [t1i]; omega) (by rw [t1i]; omega), t1i]
      have n1 : (a1 + 1).toNatClampNeg = a1.toNatClampNeg + 1 := by have := cnk (x := a1 + 1) (by omega); omega
      have sl : zN κ (zR κ hoStarts a0) = M + 1 := A.2.1
      refine ⟨?_, ?_⟩
      · rw [inb_iff, e1, sl]; omega  -- b3
      refine ⟨?_, ?_⟩
      · rw [inb_iff, sl]; omega  -- b4
      refine h _ ?_
      · rw [n1]
        have a := hoA_0 A (k := a1.toNatClampNeg) (by omega)
        have b := A.2.2.2.1 a1.toNatClampNeg (by omega)
        have t := hoA_t A (k := a1.toNatClampNeg + 1) (by omega)
        have p := H.2.2.1.2
        have e : (zA κ (zR κ hoStarts a0) (a1.toNatClampNeg + 1) - zA κ (zR κ hoStarts a0) a1.toNatClampNeg).toInt = (zA κ (zR κ hoStarts a0) (a1.toNatClampNeg + 1)).toInt - (zA κ (zR κ hoStarts a0) a1.toNatClampNeg).toInt := sub_i (by omega) (by omega)
        show 0 ≤ (zA κ (zR κ hoStarts a0) (a1.toNatClampNeg + 1) - zA κ (zR κ hoStarts a0) a1.toNatClampNeg).toInt ∧ _
        rw [e]
        exact ⟨by omega, by omega, fun _ => ⟨c0, c3, rfl⟩⟩

theorem Ho_part_c {C : zC} {n0 : Nat} {a0 : Nat} {a1 : Int32} {a2 : Int32} {κ : zS} {Q : Int32 → zS → Prop} (W : zW C n0 κ) (Ta0 : zT κ a0 = 6) (M D S : Nat) (hp : hoI κ a0 M D S ∧ hoP M D S) (h : ∀ (v : Int32), (True) → Q v κ) : zRun C 1 mHo_part [.ref a0, .int a1, .int a2] κ (oI Q noX) := by
  refine Ho_part_run W Ta0 ?_
  replace W := W.lo (Nat.le_trans W.1.2.1 W.1.2.2) (Nat.le_refl (zn κ))
  unfold w_Ho_part_0
  obtain ⟨H, P⟩ := hp
  have B := hoP_b P
  refine ⟨fun c1 => ?_, fun c1 => ?_⟩
  · skip
    refine h _ ?_
    · trivial  -- q1
  · skip
    intro T2
    refine Ho_lengthOf_c W T2 M D S ?_ (fun r3 q5 => ?_)
    · exact ⟨H, P⟩  -- p2
    intro W6
    intro M7
    refine ⟨fun c8 => ?_, fun c8 => ?_⟩
    · skip
      refine h _ ?_
      · trivial  -- q3
    · skip
      have c0 : 0 ≤ a2.toInt := by rw [lti, t0i] at c1; omega
      have c9 : a2.toInt < r3.toInt := by rw [lei] at c8; omega
      obtain ⟨k0, k1, ek⟩ := q5.2.2 (by omega)
      have k9 := cnk k0
      have tM := H.2.1.2
      have A := hoI_A H (Or.inl (by omega))
      have sl : zN κ (zR κ hoStarts a0) = M + 1 := A.2.1
      refine ⟨?_, ?_⟩
      · rw [inb_iff, sl]; omega  -- b4
      refine ⟨?_, ?_⟩
      · have a := hoA_0 A (k := a1.toNatClampNeg) (by omega)
        have t := hoA_t A (k := a1.toNatClampNeg + 1) (by omega)
        have p := H.2.2.1.2
        have e : (zA κ (zR κ hoStarts a0) a1.toNatClampNeg + a2).toInt = (zA κ (zR κ hoStarts a0) a1.toNatClampNeg).toInt + a2.toInt := add_i (by omega) (by omega)
        rw [inb_iff, e]
        have t2 : (zA κ (zR κ hoStarts a0) (a1.toNatClampNeg + 1)).toInt ≤ zN κ (zR κ hoPool a0) := t
        omega
      refine h _ ?_
      · trivial  -- q6

theorem Ho_isRow_c {C : zC} {n0 : Nat} {a0 : Nat} {a1 : Int32} {a2 : Nat} {a3 : Int32} {κ : zS} {Q : Int32 → zS → Prop} (W : zW C n0 κ) (Ta0 : zT κ a0 = 6) (Ta2 : zT κ a2 = 20) (M D S : Nat) (hp : hoA κ a0 M D S ∧ hoP M D S ∧ 0 ≤ (zI κ hoTotal a0).toInt ∧ (zI κ hoTotal a0).toInt ≤ M ∧ (zN κ (zR κ hoPool a0)) ≤ M * D ∧ 0 ≤ a1.toInt ∧ a1.toInt < (zI κ hoTotal a0).toInt ∧ a3.toInt ≤ zN κ a2) (h : ∀ (v : Int32), (nb v) → Q v κ) : zRun C 0 mHo_isRow [.ref a0, .int a1, .ref a2, .int a3] κ (oI Q noX) := by
  refine Ho_isRow_run W Ta0 Ta2 ?_
  replace W := W.lo (Nat.le_trans W.1.2.1 W.1.2.2) (Nat.le_refl (zn κ))
  unfold w_Ho_isRow_0
  obtain ⟨A, P, h0, h1, hpl, k0, k1, hl⟩ := hp
  have B := hoP_b P
  have k9 := cnk k0
  have sl : zN κ (zR κ hoStarts a0) = M + 1 := A.2.1
  have e1 : (a1 + 1).toInt = a1.toInt + 1 := by rw [add_i (by rw [t1i]; omega) (by rw [t1i]; omega), t1i]
  have n1 : (a1 + 1).toNatClampNeg = a1.toNatClampNeg + 1 := by have := cnk (x := a1 + 1) (by omega); omega
  have a := hoA_0 A (k := a1.toNatClampNeg) (by omega)
  have b := A.2.2.2.1 a1.toNatClampNeg (by omega)
  have t : (zA κ (zR κ hoStarts a0) (a1.toNatClampNeg + 1)).toInt ≤ zN κ (zR κ hoPool a0) := hoA_t A (k := a1.toNatClampNeg + 1) (by omega)
  have p : zN κ (zR κ hoPool a0) ≤ M * D := hpl
  refine ⟨?_, ?_⟩
  · rw [inb_iff, sl]; omega  -- b1
  intro x1 hx1
  refine ⟨?_, ?_⟩
  · rw [inb_iff, e1, sl]; omega  -- b2
  refine ⟨fun c2 => ?_, fun c2 => ?_⟩
  · skip
    unfold w_Ho_isRow_28
    refine ⟨fun n l0 l2 l3 l4 l5 τ => n = (l3 - l5).toNatClampNeg ∧ (κ = τ ∧ a0 = l0 ∧ a2 = l2 ∧ a3 = l3 ∧ 0 ≤ l5.toInt ∧ l4.toInt = (zA κ (zR κ hoStarts a0) a1.toNatClampNeg).toInt ∧ a3.toInt = (zA κ (zR κ hoStarts a0) (a1.toNatClampNeg + 1)).toInt - (zA κ (zR κ hoStarts a0) a1.toNatClampNeg).toInt ∧ l5.toInt ≤ a3.toInt), ⟨_, rfl, ?_⟩, ?_⟩
    · have e : (zA κ (zR κ hoStarts a0) (a1.toNatClampNeg + 1) - zA κ (zR κ hoStarts a0) a1.toNatClampNeg).toInt = (zA κ (zR κ hoStarts a0) (a1.toNatClampNeg + 1)).toInt - (zA κ (zR κ hoStarts a0) a1.toNatClampNeg).toInt := sub_i (by omega) (by omega)
      rw [n1, hx1] at c2
      have c3 : (zA κ (zR κ hoStarts a0) (a1.toNatClampNeg + 1) - zA κ (zR κ hoStarts a0) a1.toNatClampNeg).toInt = a3.toInt := congrArg Int32.toInt c2
      rw [e] at c3
      exact ⟨rfl, rfl, rfl, rfl, by decide, by rw [hx1], c3.symm, by rw [t0i]; omega⟩
    rintro n28 _ _ _ x28_4 x28_5 _ W28 T28_0 T28_1 ⟨hn28, rfl, rfl, rfl, rfl, i28⟩
    obtain ⟨m0, m1, m2, m3⟩ := i28
    refine ⟨fun c3 => ?_, fun c3 => ?_⟩
    · skip
      refine h _ ?_
      · exact nb_1  -- q4
    · skip
      have c9 : x28_5.toInt < a3.toInt := by rw [lei] at c3; omega
      refine ⟨?_, ?_⟩
      · have e : (x28_4 + x28_5).toInt = x28_4.toInt + x28_5.toInt := add_i (by omega) (by omega)
        rw [inb_iff, e]; omega
      refine ⟨?_, ?_⟩
      · rw [inb_iff]; omega  -- b6
      refine ⟨fun c4 => ?_, fun c4 => ?_⟩
      · skip
        intro x5 hx5
        refine ⟨_, cn_lt2 hn28 ?_ ?_, rfl, ?_⟩
        · rw [hx5, lei, t0i]
          have e : (x28_5 + 1).toInt = x28_5.toInt + 1 := by rw [add_i (by rw [t1i]; omega) (by rw [t1i]; omega), t1i]
          rw [sub_i (by rw [e]; omega) (by rw [e]; omega), e]; omega
        · rw [hx5, lti]
          have e : (x28_5 + 1).toInt = x28_5.toInt + 1 := by rw [add_i (by rw [t1i]; omega) (by rw [t1i]; omega), t1i]
          rw [sub_i (by rw [e]; omega) (by rw [e]; omega), e, sub_i (by omega) (by omega)]; omega
        · have e : (x28_5 + 1).toInt = x28_5.toInt + 1 := by rw [add_i (by rw [t1i]; omega) (by rw [t1i]; omega), t1i]
          exact ⟨rfl, rfl, rfl, rfl, by rw [hx5, e]; omega, m1, m2, by rw [hx5, e]; omega⟩
      · skip
        refine h _ ?_
        · exact nb_0  -- q10
  · skip
    refine h _ ?_
    · exact nb_0  -- q11

theorem Ho_slotOf_c {C : zC} {n0 : Nat} {a0 : Nat} {a1 : Nat} {a2 : Int32} {κ : zS} {Q : Int32 → zS → Prop} (W : zW C n0 κ) (Ta0 : zT κ a0 = 6) (Ta1 : zT κ a1 = 20) (M D S : Nat) (hp : hoA κ a0 M D S ∧ hoP M D S ∧ 0 ≤ (zI κ hoTotal a0).toInt ∧ (zI κ hoTotal a0).toInt ≤ M ∧ (zN κ (zR κ hoPool a0)) ≤ M * D ∧ a2.toInt ≤ zN κ a1) (h : ∀ (v : Int32), (0 ≤ v.toInt ∧ v.toInt < S) → Q v κ) : zRun C 1 mHo_slotOf [.ref a0, .ref a1, .int a2] κ (oI Q noX) := by
  refine Ho_slotOf_run W Ta0 Ta1 ?_
  replace W := W.lo (Nat.le_trans W.1.2.1 W.1.2.2) (Nat.le_refl (zn κ))
  unfold w_Ho_slotOf_0
  obtain ⟨A, P, h0, h1, hpl, hl⟩ := hp
  have B := hoP_b P
  have tl : zN κ (zR κ hoTable a0) = S := A.1
  have nN := W.n Ta1
  have eS : (Int32.ofNat S).toInt = S := ofn_i (by omega)
  have eM : (Int32.ofNat S - 1).toInt = S - 1 := by rw [sub_i (by rw [eS, t1i]; omega) (by rw [eS, t1i]; omega), eS, t1i]
  unfold w_Ho_slotOf_5
  refine ⟨fun n l0 l1 l2 l3 l4 τ => n = (a2.toInt - l4.toInt).toNat ∧ (κ = τ ∧ a0 = l0 ∧ a1 = l1 ∧ a2 = l2 ∧ 0 ≤ l4.toInt), ⟨_, rfl, ?_⟩, ?_⟩
  · exact ⟨rfl, rfl, rfl, rfl, by decide⟩  -- j1
  rintro n5 _ _ _ x5_3 x5_4 _ W5 T5_0 T5_1 ⟨hn5, rfl, rfl, rfl, rfl, i5⟩
  refine ⟨fun c1 => ?_, fun c1 => ?_⟩
  · skip
    intro x2 hx2
    unfold w_Ho_slotOf_48
    refine ⟨fun n l0 l1 l2 l4 l5 τ => n = ((S : Int) - l5.toInt).toNat ∧ (κ = τ ∧ a0 = l0 ∧ a1 = l1 ∧ a2 = l2 ∧ 0 ≤ l4.toInt ∧ l4.toInt < S ∧ 0 ≤ l5.toInt), ⟨_, rfl, ?_⟩, ?_⟩
    · rw [tl] at hx2
      have q := andi_i (x := x5_3) (m := Int32.ofNat S - 1) (by rw [eM]; omega)
      rw [eM] at q
      exact ⟨rfl, rfl, rfl, rfl, by rw [hx2]; exact q.1, by rw [hx2]; omega, by decide⟩
    rintro n48 _ _ _ x48_4 x48_5 _ W48 T48_0 T48_1 ⟨hn48, rfl, rfl, rfl, rfl, i48⟩
    obtain ⟨m0, m1, m2⟩ := i48
    refine ⟨fun c3 => ?_, fun c3 => ?_⟩
    · skip
      refine h _ ?_
      · exact ⟨m0, m1⟩  -- q3
    · skip
      have c9 : x48_5.toInt < S := by rw [lei, tl, eS] at c3; omega
      refine ⟨?_, ?_⟩
      · rw [inb_iff, tl]; exact ⟨m0, m1⟩  -- b4
      refine ⟨fun c4 => ?_, fun c4 => ?_⟩
      · skip
        refine h _ ?_
        · exact ⟨m0, m1⟩  -- q5
      · skip
        refine ⟨?_, ?_⟩
        · rw [inb_iff, tl]; exact ⟨m0, m1⟩  -- b6
        intro T5
        intro T6
        refine Ho_isRow_c W48 T5 T6 M D S ?_ (fun r7 q9 => ?_)
        · have z := A.2.2.2.2.2 x48_4.toNatClampNeg (by have := cnk m0; omega)
          have z2 : zA κ (zR κ hoTable a0) x48_4.toNatClampNeg ≠ 0 := c4
          have z3 : (zA κ (zR κ hoTable a0) x48_4.toNatClampNeg).toInt ≠ 0 := fun e => z2 (Int32.toInt_inj.mp e)
          have e : (zA κ (zR κ hoTable a0) x48_4.toNatClampNeg - 1).toInt = (zA κ (zR κ hoTable a0) x48_4.toNatClampNeg).toInt - 1 := by rw [sub_i (by rw [t1i]; omega) (by rw [t1i]; omega), t1i]
          exact ⟨A, P, h0, h1, hpl, by rw [e]; omega, by rw [e]; omega, hl⟩
        intro W10
        intro M11
        refine ⟨fun c12 => ?_, fun c12 => ?_⟩
        · skip
          intro x13 hx13
          intro x14 hx14
          refine ⟨_, ?_, rfl, ?_⟩
          · have e : (x48_5 + 1).toInt = x48_5.toInt + 1 := by rw [add_i (by rw [t1i]; omega) (by rw [t1i]; omega), t1i]
            rw [hn48, hx14, e]; omega
          · have e : (x48_5 + 1).toInt = x48_5.toInt + 1 := by rw [add_i (by rw [t1i]; omega) (by rw [t1i]; omega), t1i]
            rw [tl] at hx13
            have q := andi_i (x := x48_4 + 1) (m := Int32.ofNat S - 1) (by rw [eM]; omega)
            rw [eM] at q
            exact ⟨rfl, rfl, rfl, rfl, by rw [hx13]; exact q.1, by rw [hx13]; omega, by rw [hx14, e]; omega⟩
        · skip
          refine h _ ?_
          · exact ⟨m0, m1⟩  -- q10
  · skip
    have c9 : x5_4.toInt < a2.toInt := by rw [lei] at c1; omega
    refine ⟨?_, ?_⟩
    · rw [inb_iff]; omega  -- b11
    intro x15 hx15
    intro x16 hx16
    intro x17 hx17
    refine ⟨_, ?_, rfl, ?_⟩
    · have e : (x5_4 + 1).toInt = x5_4.toInt + 1 := by rw [add_i (by rw [t1i]; omega) (by rw [t1i]; have := ihi a2; omega), t1i]
      rw [hn5, hx17, e]; omega
    · have e : (x5_4 + 1).toInt = x5_4.toInt + 1 := by rw [add_i (by rw [t1i]; omega) (by rw [t1i]; have := ihi a2; omega), t1i]
      exact ⟨rfl, rfl, rfl, rfl, by rw [hx17, e]; omega⟩

theorem Ho_find_c {C : zC} {n0 : Nat} {a0 : Nat} {a1 : Nat} {a2 : Int32} {κ : zS} {Q : Int32 → zS → Prop} (W : zW C n0 κ) (Ta0 : zT κ a0 = 6) (Ta1 : zT κ a1 = 20) (M D S : Nat) (hp : hoI κ a0 M D S ∧ hoP M D S) (h : ∀ (v : Int32), (-1 ≤ v.toInt ∧ v.toInt < (zI κ hoTotal a0).toInt) → Q v κ) : zRun C 2 mHo_find [.ref a0, .ref a1, .int a2] κ (oI Q noX) := by
  refine Ho_find_run W Ta0 Ta1 ?_
  replace W := W.lo (Nat.le_trans W.1.2.1 W.1.2.2) (Nat.le_refl (zn κ))
  unfold w_Ho_find_0
  obtain ⟨H, P⟩ := hp
  have B := hoP_b P
  have tN := W.n (ty_hoTable W Ta0)
  have nN := W.n Ta1
  have z1 : -1 ≤ (-1 : Int32).toInt ∧ (-1 : Int32).toInt < (zI κ hoTotal a0).toInt := ⟨by decide, by rw [tmi]; have := H.2.1.1; omega⟩
  refine ⟨fun c1 => ?_, fun c1 => ?_⟩
  · skip
    refine h _ ?_
    · exact z1  -- q1
  · skip
    have A := hoI_A H (Or.inr (fun e => c1 (by have e9 : zN κ (zR κ hoTable a0) = 0 := e; rw [e9]; rfl)))
    refine ⟨fun c2 => ?_, fun c2 => ?_⟩
    · skip
      intro T3
      intro T4
      refine Ho_slotOf_c W T3 T4 M D S ?_ (fun r5 q7 => ?_)
      · exact ⟨A, P, H.2.1.1, H.2.1.2, H.2.2.1.2, by rw [lei, ofn_i nN] at c2; exact c2⟩  -- p2
      intro W8
      intro M9
      refine ⟨?_, ?_⟩
      · rw [inb_iff, show zN κ (zR κ hoTable a0) = S from A.1]; exact q7  -- b3
      refine h _ ?_
      · have z := A.2.2.2.2.2 r5.toNatClampNeg (by have := cnk q7.1; omega)
        have tM := H.2.1.2
        have e : (zA κ (zR κ hoTable a0) r5.toNatClampNeg - 1).toInt = (zA κ (zR κ hoTable a0) r5.toNatClampNeg).toInt - 1 := by rw [sub_i (by rw [t1i]; omega) (by rw [t1i]; omega), t1i]
        rw [e]
        omega
    · skip
      refine h _ ?_
      · exact z1  -- q5

end
section
set_option maxHeartbeats 1600000
/-! the class: Hoard's clear, copyTo -/
abbrev hoF (a0 : Nat) : Nat → Nat → Prop := fun f a => a = a0 ∧ (f = hoStarts ∨ f = hoTable ∨ f = hoPool ∨ f = hoTotal)
theorem hoF_n {a0 a f : Nat} (h : f = hoMost ∨ f = hoWidest ∨ f = hoSlots) : ¬ hoF a0 f a := by
  rintro ⟨-, q⟩
  rcases h with rfl | rfl | rfl <;> rcases q with q | q | q | q <;> exact absurd q (by decide)
theorem uo_ne {κ : zS} {f a r g b : Nat} (h : g ≠ f) : zR (uo κ f a r) g b = zR κ g b := if_neg (fun z => h z.1)
theorem Ho_clear_c {C : zC} {n0 : Nat} {a0 : Nat} {κ : zS} {Q : zS → Prop} (W : zW C n0 κ) (Ta0 : zT κ a0 = 6) (M D S : Nat) (hp : hoI κ a0 M D S ∧ hoP M D S) (h : ∀ (κ' : zS), (zF (hoF a0) κ κ' ∧ hoI κ' a0 M D S ∧ hoA κ' a0 M D S ∧ (zI κ' hoTotal a0).toInt = 0) → Q κ') : zRun C 1 mHo_clear [.ref a0] κ (oV Q noX) := by
  refine Ho_clear_run W Ta0 ?_
  replace W := W.lo (Nat.le_trans W.1.2.1 W.1.2.2) (Nat.le_refl (zn κ))
  unfold w_Ho_clear_0
  obtain ⟨H, P⟩ := hp
  have B := hoP_b P
  have hj30 : ∀ (l0 : Nat) (τ : zS), zW C (zn κ) τ → zT τ l0 = 6 → (a0 = l0 ∧ zF (hoF a0) κ τ ∧ (zN τ (zR τ hoTable a0)) = S ∧ (zN τ (zR τ hoStarts a0)) = M + 1 ∧ (zA τ (zR τ hoStarts a0) 0).toInt = 0 ∧ (zN τ (zR τ hoPool a0)) = (zN κ (zR κ hoPool a0))) → w_Ho_clear_30 C (zn κ) Q  l0 τ := by
    rintro _ τ30 W30 T30_0 ⟨rfl, j30⟩
    unfold w_Ho_clear_30
    intro T1
    refine Ar_fill_c W30 T1  (fun κ_2 q3 => ?_)
    intro W4
    intro M5
    intro κ_6 hκ_6
    intro W7
    refine h _ ?_
    · obtain ⟨F, tl, sl, s0, pl⟩ := j30
      have oT := ow_hoTable W30 T30_0
      have F2 : zF (hoF a0) τ30 κ_2 := by rw [q3]; exact zF_uf (by rw [oT]; exact ⟨rfl, Or.inr (Or.inl rfl)⟩)
      have F3 : zF (hoF a0) κ_2 κ_6 := by rw [hκ_6]; exact zF_ui ⟨rfl, Or.inr (Or.inr (Or.inr rfl))⟩
      have FF := (F.tr F2).tr F3
      have e6 : zI κ_6 hoTotal a0 = 0 := by rw [hκ_6]; exact if_pos ⟨rfl, rfl⟩
      have eR : zR κ_6 = zR τ30 := by rw [hκ_6, q3]; rfl
      have eN : zN κ_6 = zN τ30 := by rw [hκ_6, q3]; rfl
      have aT : zA κ_6 (zR τ30 hoTable a0) = fun k => if 0 ≤ k ∧ k < zN τ30 (zR τ30 hoTable a0) then 0 else zA τ30 (zR τ30 hoTable a0) k := by rw [hκ_6, q3]; exact if_pos rfl
      have ne : zR τ30 hoStarts a0 ≠ zR τ30 hoTable a0 := fun e => by
        have o1 := ow_hoStarts W30 T30_0
        rw [e, oT] at o1
        exact absurd (congrArg Prod.fst o1) (show ¬ (hoTable : Nat) = hoStarts by decide)
      have aS : zA κ_6 (zR τ30 hoStarts a0) = zA τ30 (zR τ30 hoStarts a0) := by rw [hκ_6, q3]; exact if_neg ne
      have t0 : (zI κ_6 hoTotal a0).toInt = 0 := by show (zI κ_6 hoTotal a0).toInt = 0; rw [e6]; rfl
      have s9 : (zA τ30 (zR τ30 hoStarts a0) 0).toInt = 0 := s0
      have t9 : zN τ30 (zR τ30 hoTable a0) = S := tl
      have A : hoA κ_6 a0 M D S := by
        refine ⟨?_, ?_, ?_, ?_, ?_, ?_⟩
        · show zN κ_6 (zR κ_6 hoTable a0) = S
          rw [eR, eN]; exact tl
        · show zN κ_6 (zR κ_6 hoStarts a0) = _
          rw [eR, eN]; exact sl
        · show (zA κ_6 (zR κ_6 hoStarts a0) 0).toInt = 0
          rw [eR, aS]; exact s0
        · intro k hk
          rw [t0] at hk
          exact absurd hk (Nat.not_lt_zero _)
        · rw [t0]
          show (zA κ_6 (zR κ_6 hoStarts a0) 0).toInt ≤ _
          rw [eR, aS, s9]; exact Int.natCast_nonneg _
        · intro j hj
          rw [t0]
          show 0 ≤ (zA κ_6 (zR κ_6 hoTable a0) j).toInt ∧ (zA κ_6 (zR κ_6 hoTable a0) j).toInt ≤ 0
          have e : zA κ_6 (zR κ_6 hoTable a0) j = 0 := by
            rw [eR, aT]
            exact if_pos ⟨Nat.zero_le _, by rw [t9]; exact hj⟩
          rw [e]
          decide
      refine ⟨FF, ⟨⟨?_, ?_, ?_⟩, ⟨by rw [t0]; decide, by rw [t0]; exact Int.natCast_nonneg _⟩, ?_, Or.inr A⟩, A, t0⟩
      · show (zI κ_6 hoMost a0).toInt = _
        rw [FF.i (hoF_n (Or.inl rfl))]; exact H.1.1
      · show (zI κ_6 hoWidest a0).toInt = _
        rw [FF.i (hoF_n (Or.inr (Or.inl rfl)))]; exact H.1.2.1
      · show (zI κ_6 hoSlots a0).toInt = _
        rw [FF.i (hoF_n (Or.inr (Or.inr rfl)))]; exact H.1.2.2
      · show 16 ≤ zN κ_6 (zR κ_6 hoPool a0) ∧ zN κ_6 (zR κ_6 hoPool a0) ≤ M * D
        rw [eR, eN]
        have p9 : zN τ30 (zR τ30 hoPool a0) = zN κ (zR κ hoPool a0) := pl
        rw [p9]; exact H.2.2.1
  refine ⟨fun c8 => ?_, fun c8 => ?_⟩
  · skip
    refine hj30 _ _ W ?_ ?_
    · exact Ta0  -- t2
    · have A := hoI_A H (Or.inr (fun e => c8 (by have e9 : zN κ (zR κ hoTable a0) = 0 := e; rw [e9]; rfl)))
      exact ⟨rfl, zF.rf, A.1, A.2.1, A.2.2.1, rfl⟩
  · skip
    have z0 : zN κ (zR κ hoTable a0) = 0 := by
      have e := congrArg Int32.toInt c8
      rw [ofn_i (W.n (ty_hoTable W Ta0)), t0i] at e
      omega
    have z1 : zN κ (zR κ hoStarts a0) = 1 := by
      rcases H.2.2.2 with q | q
      · exact q.2.1
      · have e : zN κ (zR κ hoTable a0) = S := q.1
        omega
    have eS : (zI κ hoSlots a0).toNatClampNeg = S := by
      show (zI κ hoSlots a0).toInt.toNat = S
      have e : (zI κ hoSlots a0).toInt = S := H.1.2.2
      omega
    refine ⟨?_, ?_⟩
    · refine ⟨?_, by rw [eS]; omega⟩
      rw [lei, t0i]
      have e : (zI κ hoSlots a0).toInt = S := H.1.2.2
      omega
    intro κ_9 hκ_9
    intro W10
    refine ⟨?_, ?_⟩
    · rw [hκ_9]; exact if_pos rfl  -- b5
    intro κ_11 hκ_11
    intro W12
    have eI : zI κ_11 hoMost a0 = zI κ hoMost a0 := by rw [hκ_11, hκ_9]; rfl
    have e0 : (zI κ hoMost a0).toInt = M := H.1.1
    have e1 : (zI κ_11 hoMost a0 + 1).toInt = M + 1 := by rw [eI, add_i (by rw [e0, t1i]; omega) (by rw [e0, t1i]; omega), e0, t1i]
    have e2 : (zI κ_11 hoMost a0 + 1).toNatClampNeg = M + 1 := by
      show (zI κ_11 hoMost a0 + 1).toInt.toNat = M + 1
      rw [e1]; omega
    refine ⟨?_, ?_⟩
    · exact ⟨by rw [lei, t0i, e1]; omega, by rw [e2]; omega⟩  -- b6
    intro κ_13 hκ_13
    intro W14
    refine ⟨?_, ?_⟩
    · rw [hκ_13]; exact if_pos rfl  -- b7
    intro κ_15 hκ_15
    intro W16
    rw [eS] at hκ_9
    rw [e2] at hκ_13
    have w0 := wS_le (f := hoTable) (n := S) (by decide) (by decide) (by decide)
    have w1 := wS_le (f := hoTable) (n := 0) (by decide) (by decide) (by decide)
    have w2 := wC_le (f := hoTable) (n := S) (by decide) (by decide) (by decide)
    have w3 := wC_le (f := hoTable) (n := 0) (by decide) (by decide) (by decide)
    have w4 := wS_le (f := hoStarts) (n := M + 1) (by decide) (by decide) (by decide)
    have w5 := wS_le (f := hoStarts) (n := 1) (by decide) (by decide) (by decide)
    have w6 := wC_le (f := hoStarts) (n := M + 1) (by decide) (by decide) (by decide)
    have w7 := wC_le (f := hoStarts) (n := 1) (by decide) (by decide) (by decide)
    have F1 : zF (hoF a0) κ κ_11 := zF_uo (t := 20) (n := S) (f := hoTable) (q := 20) W (by decide +kernel) (by decide) Ta0 (by decide) ⟨rfl, Or.inr (Or.inl rfl)⟩ (na_h hκ_9) hκ_11 (by rw [z0]; omega) (by rw [z0]; omega)
    have r1 : zR κ_11 hoStarts a0 = zR κ hoStarts a0 := by rw [hκ_11, hκ_9]; exact uo_ne (by decide)
    have z2 : zN κ_11 (zR κ_11 hoStarts a0) = 1 := by rw [r1, F1.l (ty_hoStarts W Ta0)]; exact z1
    have T11 := F1.t Ta0 (by decide)
    have F2 : zF (hoF a0) κ_11 κ_15 := zF_uo (t := 20) (n := M + 1) (f := hoStarts) (q := 20) W12 (by decide +kernel) (by decide) T11 (by decide) ⟨rfl, Or.inl rfl⟩ (na_h hκ_13) hκ_15 (by rw [z2]; omega) (by rw [z2]; omega)
    have FF := F1.tr F2
    refine hj30 _ _ W16 ?_ ?_
    · exact FF.t Ta0 (by decide)  -- t8
    · have n1 : zn κ_11 = zn κ + 1 := by rw [hκ_11, hκ_9]; rfl
      have rT : zR κ_15 hoTable a0 = zn κ := by
        rw [hκ_15, hκ_13]
        refine (uo_ne (by decide)).trans ?_
        rw [hκ_11]
        exact if_pos ⟨rfl, rfl⟩
      have rS : zR κ_15 hoStarts a0 = zn κ_11 := by rw [hκ_15]; exact if_pos ⟨rfl, rfl⟩
      have nT : zN κ_15 (zn κ) = S := by
        rw [hκ_15, hκ_13]
        refine (if_neg (by omega)).trans ?_
        rw [hκ_11, hκ_9]
        exact if_pos rfl
      have nS : zN κ_15 (zn κ_11) = M + 1 := by rw [hκ_15, hκ_13]; exact if_pos rfl
      have aS : zA κ_15 (zn κ_11) = fun _ => 0 := by rw [hκ_15, hκ_13]; exact if_pos rfl
      have rP : zR κ_15 hoPool a0 = zR κ hoPool a0 := by
        rw [hκ_15, hκ_13]
        refine (uo_ne (by decide)).trans ?_
        rw [hκ_11, hκ_9]
        show zR (uo (na κ 20 S) hoTable a0 (zn κ)) hoPool a0 = _
        exact uo_ne (by decide)
      refine ⟨rfl, FF, ?_, ?_, ?_, ?_⟩
      · show zN κ_15 (zR κ_15 hoTable a0) = S
        rw [rT]; exact nT
      · show zN κ_15 (zR κ_15 hoStarts a0) = M + 1
        rw [rS]; exact nS
      · show (zA κ_15 (zR κ_15 hoStarts a0) 0).toInt = 0
        rw [rS, aS]; rfl
      · show zN κ_15 (zR κ_15 hoPool a0) = zN κ (zR κ hoPool a0)
        rw [rP, FF.l (ty_hoPool W Ta0)]

theorem Ho_copyTo_c {C : zC} {n0 : Nat} {a0 : Nat} {a1 : Int32} {a2 : Nat} {κ : zS} {Q : zS → Prop} (W : zW C n0 κ) (Ta0 : zT κ a0 = 6) (Ta2 : zT κ a2 = 20) (M D S : Nat) (hp : hoI κ a0 M D S ∧ hoP M D S) (h : ∀ (κ' : zS), (κ' = κ ∨ ∃ i n, κ' = uc κ (zR κ hoPool a0) a2 i 0 n) → Q κ') : zRun C 1 mHo_copyTo [.ref a0, .int a1, .ref a2] κ (oV Q noX) := by
  refine Ho_copyTo_run W Ta0 Ta2 ?_
  replace W := W.lo (Nat.le_trans W.1.2.1 W.1.2.2) (Nat.le_refl (zn κ))
  unfold w_Ho_copyTo_0
  obtain ⟨H, P⟩ := hp
  have B := hoP_b P
  have nN := W.n Ta2
  intro T1
  refine Ho_lengthOf_c W T1 M D S ?_ (fun r2 q4 => ?_)
  · exact ⟨H, P⟩  -- p1
  intro W5
  intro M6
  intro x7 hx7
  refine ⟨fun c8 => ?_, fun c8 => ?_⟩
  · skip
    refine h _ ?_
    · exact Or.inl rfl  -- q2
  · skip
    have c9 : 0 < x7.toInt := by rw [lei, t0i] at c8; omega
    have m1 : x7.toInt ≤ r2.toInt ∧ x7.toInt ≤ zN κ a2 := by
      rw [hx7]
      by_cases z : Int32.ofNat (zN κ a2) < r2
      · rw [if_pos z, ofn_i nN]
        rw [lti, ofn_i nN] at z
        omega
      · rw [if_neg z]
        rw [lti, ofn_i nN] at z
        omega
    obtain ⟨k0, k1, ek⟩ := q4.2.2 (by omega)
    have k9 := cnk k0
    have tM := H.2.1.2
    have A := hoI_A H (Or.inl (by omega))
    have sl : zN κ (zR κ hoStarts a0) = M + 1 := A.2.1
    have a := hoA_0 A (k := a1.toNatClampNeg) (by omega)
    have t : (zA κ (zR κ hoStarts a0) (a1.toNatClampNeg + 1)).toInt ≤ zN κ (zR κ hoPool a0) := hoA_t A (k := a1.toNatClampNeg + 1) (by omega)
    refine ⟨?_, ?_⟩
    · rw [inb_iff, sl]; omega  -- b3
    refine ⟨?_, ?_⟩
    · have e1 : (zA κ (zR κ hoStarts a0) a1.toNatClampNeg).toInt = (zA κ (zR κ hoStarts a0) a1.toNatClampNeg).toInt := rfl
      refine ⟨by rw [lei, t0i, e1]; exact a, by decide, by rw [lei, t0i]; omega, ?_, ?_⟩
      · have u1 := cnk a
        have u2 := cnk (x := x7) (by omega)
        omega
      · have u2 := cnk (x := x7) (by omega)
        have u3 : (0 : Int32).toNatClampNeg = 0 := rfl
        omega
    intro κ_9 hκ_9
    intro W10
    refine h _ ?_
    · exact Or.inr ⟨_, _, hκ_9⟩  -- q5

end
section
set_option maxHeartbeats 1600000
/-! the class: Hoard's enter -/
def enS (κ κ' : zS) (a0 : Nat) (a2 a3 v : Int32) : Prop := κ' = κ ∨ ((zI κ' hoTotal a0).toInt = (zI κ hoTotal a0).toInt + 1 ∧ v.toInt = (zI κ hoTotal a0).toInt ∧ (zI κ hoTotal a0).toInt < a3.toInt ∧ (∀ k, k ≤ ((zI κ hoTotal a0).toInt).toNat → (zA κ' (zR κ' hoStarts a0) k).toInt = (zA κ (zR κ hoStarts a0) k).toInt) ∧ (zA κ' (zR κ' hoStarts a0) (((zI κ hoTotal a0).toInt).toNat + 1)).toInt = (zA κ (zR κ hoStarts a0) (((zI κ hoTotal a0).toInt).toNat)).toInt + a2.toInt)
def enJ (κ τ : zS) (a0 a1 M D S : Nat) (a2 a3 l4 l5 : Int32) : Prop := (0 ≤ l4.toInt ∧ l4.toInt < S) ∧ hoA κ a0 M D S ∧ ((zI κ hoTotal a0).toInt < M ∧ (zI κ hoTotal a0).toInt < a3.toInt ∧ a2.toInt ≤ D ∧ a2.toInt ≤ zN κ a1) ∧ l5.toInt = (zA κ (zR κ hoStarts a0) (((zI κ hoTotal a0).toInt).toNat)).toInt ∧ zF (hoF a0) κ τ ∧ zI τ = zI κ ∧ (zR τ hoStarts a0 = zR κ hoStarts a0 ∧ zR τ hoTable a0 = zR κ hoTable a0) ∧ (zA τ (zR κ hoStarts a0) = zA κ (zR κ hoStarts a0) ∧ zA τ (zR κ hoTable a0) = zA κ (zR κ hoTable a0)) ∧ (l5.toInt + a2.toInt ≤ (zN τ (zR τ hoPool a0)) ∧ 16 ≤ (zN τ (zR τ hoPool a0)) ∧ (zN τ (zR τ hoPool a0)) ≤ M * D)
theorem ow_ne {C : zC} {n0 f g a b t u : Nat} {κ : zS} (W : zW C n0 κ) (hf : zr f = some t) (ht : 20 ≤ t) (ha : zT κ a = f / 100) (hg : zr g = some u) (hu : 20 ≤ u) (hb : zT κ b = g / 100) (h : f ≠ g) : zR κ f a ≠ zR κ g b := fun e => by
  have o1 := W.o hf ht ha
  have o2 := W.o hg hu hb
  rw [e, o2] at o1
  exact h (congrArg Prod.fst o1).symm
/-- the last steps of enter -/
theorem en_q {C : zC} {n0 : Nat} {κ τ κ1 κ3 κ5 κ7 : zS} {a0 a1 M D S : Nat} {a2 a3 l4 l5 : Int32} (W : zW C n0 κ) (T : zT κ a0 = 6) (Wt : zW C n0 τ) (H : hoI κ a0 M D S) (P : hoP M D S) (h2 : 0 ≤ a2.toInt) (J : enJ κ τ a0 a1 M D S a2 a3 l4 l5) (e1 : κ1 = uc τ a1 (zR τ hoPool a0) 0 l5.toNatClampNeg a2.toNatClampNeg) (e3 : κ3 = ui κ1 hoTotal a0 (zI κ1 hoTotal a0 + 1)) (e5 : κ5 = ua κ3 (zR κ3 hoStarts a0) (zI κ3 hoTotal a0).toNatClampNeg (l5 + a2)) (e7 : κ7 = ua κ5 (zR κ5 hoTable a0) l4.toNatClampNeg (zI κ5 hoTotal a0)) : zF (hoF a0) κ κ7 ∧ hoI κ7 a0 M D S ∧ -1 ≤ (zI κ7 hoTotal a0 - 1).toInt ∧ (zI κ7 hoTotal a0 - 1).toInt < (zI κ7 hoTotal a0).toInt ∧ enS κ κ7 a0 a2 a3 (zI κ7 hoTotal a0 - 1) := by
  obtain ⟨⟨j0, j1⟩, A, ⟨jM, j3, jD, -⟩, jl, F, jI, ⟨jS, jT⟩, ⟨aS, aT⟩, jp1, jp2, jp3⟩ := J
  have B := hoP_b P
  have Tt : zT τ a0 = 6 := F.t T (by decide)
  have b0 := H.2.1.1
  have k4 := cnk j0
  have l0 : 0 ≤ l5.toInt := by rw [jl]; exact hoA_0 A (Nat.le_refl _)
  have nSP : zR τ hoStarts a0 ≠ zR τ hoPool a0 := ow_ne Wt (by decide +kernel : zr hoStarts = some 20) (by decide) Tt (by decide +kernel : zr hoPool = some 20) (by decide) Tt (by decide)
  have nTP : zR τ hoTable a0 ≠ zR τ hoPool a0 := ow_ne Wt (by decide +kernel : zr hoTable = some 20) (by decide) Tt (by decide +kernel : zr hoPool = some 20) (by decide) Tt (by decide)
  have nST : zR τ hoStarts a0 ≠ zR τ hoTable a0 := ow_ne Wt (by decide +kernel : zr hoStarts = some 20) (by decide) Tt (by decide +kernel : zr hoTable = some 20) (by decide) Tt (by decide)
  have i3 : zI κ3 hoTotal a0 = zI κ hoTotal a0 + 1 := by
    rw [e3]
    refine (if_pos ⟨rfl, rfl⟩).trans ?_
    rw [e1]
    show zI τ hoTotal a0 + 1 = _
    rw [jI]
  have t3 : (zI κ3 hoTotal a0).toInt = (zI κ hoTotal a0).toInt + 1 := by rw [i3, add_i (by rw [t1i]; omega) (by rw [t1i]; omega), t1i]
  have n3 : (zI κ3 hoTotal a0).toNatClampNeg = ((zI κ hoTotal a0).toInt).toNat + 1 := by
    have := cnk (x := zI κ3 hoTotal a0) (by omega)
    omega
  have i7 : zI κ7 = zI κ3 := by rw [e7, e5]; rfl
  have i5 : zI κ5 = zI κ3 := by rw [e5]; rfl
  have r3 : zR κ3 = zR τ := by rw [e3, e1]; rfl
  have r5 : zR κ5 = zR τ := by rw [e5]; exact r3
  have r7 : zR κ7 = zR τ := by rw [e7]; exact r5
  have m3 : zN κ3 = zN τ := by rw [e3, e1]; rfl
  have m7 : zN κ7 = zN τ := by rw [e7, e5]; exact m3
  have o3 : zO κ3 = zO τ := by rw [e3, e1]; rfl
  have o5 : zO κ5 = zO τ := by rw [e5]; exact o3
  have la : (l5 + a2).toInt = l5.toInt + a2.toInt := add_i (by omega) (by omega)
  have x3 : ∀ r, r ≠ zR τ hoPool a0 → zA κ3 r = zA τ r := fun r hr => by rw [e3, e1]; exact if_neg hr
  have x5 : zA κ5 (zR τ hoStarts a0) = upd (zA κ (zR κ hoStarts a0)) (((zI κ hoTotal a0).toInt).toNat + 1) (l5 + a2) := by
    rw [e5, r3, n3]
    refine (if_pos rfl).trans ?_
    have := x3 _ nSP
    rw [jS] at this
    show upd (zA κ3 (zR τ hoStarts a0)) _ _ = _
    rw [jS, this, aS]
  have x5t : zA κ5 (zR τ hoTable a0) = zA κ (zR κ hoTable a0) := by
    rw [e5, r3]
    refine (if_neg (Ne.symm nST)).trans ?_
    have := x3 _ nTP
    rw [jT] at this
    show zA κ3 (zR τ hoTable a0) = _
    rw [jT, this, aT]
  have x7s : zA κ7 (zR τ hoStarts a0) = upd (zA κ (zR κ hoStarts a0)) (((zI κ hoTotal a0).toInt).toNat + 1) (l5 + a2) := by
    rw [e7, r5]
    exact (if_neg nST).trans x5
  have x7t : zA κ7 (zR τ hoTable a0) = upd (zA κ (zR κ hoTable a0)) l4.toNatClampNeg (zI κ3 hoTotal a0) := by
    rw [e7, r5, i5]
    refine (if_pos rfl).trans ?_
    show upd (zA κ5 (zR τ hoTable a0)) _ _ = _
    rw [x5t]
  have F1 : zF (hoF a0) τ κ1 := by rw [e1]; exact zF_uc (by rw [ow_hoPool Wt Tt]; exact ⟨rfl, Or.inr (Or.inr (Or.inl rfl))⟩)
  have F3 : zF (hoF a0) κ1 κ3 := by rw [e3]; exact zF_ui ⟨rfl, Or.inr (Or.inr (Or.inr rfl))⟩
  have F5 : zF (hoF a0) κ3 κ5 := by rw [e5]; exact zF_ua (by rw [r3, o3, ow_hoStarts Wt Tt]; exact ⟨rfl, Or.inl rfl⟩)
  have F7 : zF (hoF a0) κ5 κ7 := by rw [e7]; exact zF_ua (by rw [r5, o5, ow_hoTable Wt Tt]; exact ⟨rfl, Or.inr (Or.inl rfl)⟩)
  have FF := (((F.tr F1).tr F3).tr F5).tr F7
  have t7 : (zI κ7 hoTotal a0).toInt = (zI κ hoTotal a0).toInt + 1 := by rw [i7]; exact t3
  have u7 : (zI κ7 hoTotal a0 - 1).toInt = (zI κ hoTotal a0).toInt := by rw [sub_i (by rw [t7, t1i]; omega) (by rw [t7, t1i]; omega), t7, t1i]; omega
  have s7 : ∀ k, (zA κ7 (zR κ7 hoStarts a0) k).toInt = if k = ((zI κ hoTotal a0).toInt).toNat + 1 then l5.toInt + a2.toInt else (zA κ (zR κ hoStarts a0) k).toInt := fun k => by
    rw [r7, x7s]
    show Int32.toInt (if k = _ then _ else _) = _
    by_cases z : k = ((zI κ hoTotal a0).toInt).toNat + 1
    · rw [if_pos z, if_pos z, la]
    · rw [if_neg z, if_neg z]
  have lS : zN τ (zR κ hoStarts a0) = zN κ (zR κ hoStarts a0) := F.l (ty_hoStarts W T)
  have lT : zN τ (zR κ hoTable a0) = zN κ (zR κ hoTable a0) := F.l (ty_hoTable W T)
  have A7 : hoA κ7 a0 M D S := by
    refine ⟨?_, ?_, ?_, fun k hk => ?_, ?_, fun j hj => ?_⟩
    · show zN κ7 (zR κ7 hoTable a0) = S
      rw [r7, m7, jT, lT]; exact A.1
    · show zN κ7 (zR κ7 hoStarts a0) = M + 1
      rw [r7, m7, jS, lS]; exact A.2.1
    · rw [s7, if_neg (by omega)]; exact A.2.2.1
    · rw [t7] at hk
      rw [s7, s7]
      by_cases z : k + 1 = ((zI κ hoTotal a0).toInt).toNat + 1
      · rw [if_neg (by omega), if_pos z]
        have z2 : k = ((zI κ hoTotal a0).toInt).toNat := by omega
        rw [z2, ← jl]
        omega
      · rw [if_neg (by omega), if_neg z]
        exact A.2.2.2.1 k (by omega)
    · rw [t7, s7, if_pos (by omega), r7, m7]
      exact jp1
    · have c : (zA κ7 (zR κ7 hoTable a0) j).toInt = if j = l4.toNatClampNeg then (zI κ hoTotal a0).toInt + 1 else (zA κ (zR κ hoTable a0) j).toInt := by
        rw [r7, x7t]
        show Int32.toInt (if j = _ then _ else _) = _
        by_cases z : j = l4.toNatClampNeg
        · rw [if_pos z, if_pos z, t3]
        · rw [if_neg z, if_neg z]
      rw [c, t7]
      have g := A.2.2.2.2.2 j hj
      split <;> omega
  refine ⟨FF, ⟨⟨?_, ?_, ?_⟩, ⟨by rw [t7]; omega, by rw [t7]; omega⟩, ?_, Or.inr A7⟩, by rw [u7]; omega, by rw [u7, t7]; omega, Or.inr ⟨t7, u7, j3, fun k hk => ?_, ?_⟩⟩
  · rw [FF.i (hoF_n (Or.inl rfl))]; exact H.1.1
  · rw [FF.i (hoF_n (Or.inr (Or.inl rfl)))]; exact H.1.2.1
  · rw [FF.i (hoF_n (Or.inr (Or.inr rfl)))]; exact H.1.2.2
  · show 16 ≤ zN κ7 (zR κ7 hoPool a0) ∧ zN κ7 (zR κ7 hoPool a0) ≤ M * D
    rw [r7, m7]; exact ⟨jp2, jp3⟩
  · rw [s7, if_neg (by omega)]
  · rw [s7, if_pos rfl, jl]
theorem wS_pool {n o : Nat} (h : o < n) (h6 : 6 ≤ o) (hc : (n = 142000 ∨ n = 35000 ∨ n = 9000) ∨ 2 * o ≤ n) : n + wS 605 o ≤ wS 605 n ∧ 4 + wC 605 o ≤ wC 605 n := by
  unfold wS wC
  simp only [if_neg (show ¬ (605 : Nat) = 0 by decide), if_true]
  constructor <;> (split <;> split <;> omega)
theorem Ho_enter_c {C : zC} {n0 : Nat} {a0 : Nat} {a1 : Nat} {a2 : Int32} {a3 : Int32} {κ : zS} {Q : Int32 → zS → Prop} (W : zW C n0 κ) (Ta0 : zT κ a0 = 6) (Ta1 : zT κ a1 = 20) (M D S : Nat) (hp : hoI κ a0 M D S ∧ hoP M D S ∧ 0 ≤ a2.toInt) (h : ∀ (v : Int32) (κ' : zS), (zF (hoF a0) κ κ' ∧ hoI κ' a0 M D S ∧ -1 ≤ v.toInt ∧ v.toInt < (zI κ' hoTotal a0).toInt ∧ enS κ κ' a0 a2 a3 v) → Q v κ') : zRun C 2 mHo_enter [.ref a0, .ref a1, .int a2, .int a3] κ (oI Q noX) := by
  refine Ho_enter_run W Ta0 Ta1 ?_
  replace W := W.lo (Nat.le_trans W.1.2.1 W.1.2.2) (Nat.le_refl (zn κ))
  unfold w_Ho_enter_0
  obtain ⟨H, P, h2⟩ := hp
  have B := hoP_b P
  have nN := W.n Ta1
  have pN := W.n (ty_hoPool W Ta0)
  have b0 := H.2.1.1
  have b1 := H.2.1.2
  have z1 : zF (hoF a0) κ κ ∧ hoI κ a0 M D S ∧ -1 ≤ (-1 : Int32).toInt ∧ (-1 : Int32).toInt < (zI κ hoTotal a0).toInt ∧ enS κ κ a0 a2 a3 (-1) := ⟨zF.rf, H, by decide, by rw [tmi]; omega, Or.inl rfl⟩
  have hj125 : ∀ (l0 : Nat) (l1 : Nat) (l2 : Int32) (l4 : Int32) (l5 : Int32) (τ : zS), zW C (zn κ) τ → zT τ l0 = 6 → zT τ l1 = 20 → (a0 = l0 ∧ a1 = l1 ∧ a2 = l2 ∧ enJ κ τ a0 a1 M D S a2 a3 l4 l5) → w_Ho_enter_125 C (zn κ) Q  l0 l1 l2 l4 l5 τ := by
    rintro _ _ _ y125_4 y125_5 τ125 W125 T125_0 T125_1 ⟨rfl, rfl, rfl, j125⟩
    unfold w_Ho_enter_125
    have J := j125
    obtain ⟨⟨j0, j1⟩, A, ⟨jM, j3, jD, jn⟩, jl, F, jI, ⟨jS, jT⟩, ⟨aS, aT⟩, jp1, jp2, jp3⟩ := j125
    have l0 : 0 ≤ y125_5.toInt := by rw [jl]; exact hoA_0 A (Nat.le_refl _)
    have k5 := cnk l0
    have k2 := cnk h2
    have lS : zN τ125 (zR κ hoStarts a0) = zN κ (zR κ hoStarts a0) := F.l (ty_hoStarts W Ta0)
    have lT : zN τ125 (zR κ hoTable a0) = zN κ (zR κ hoTable a0) := F.l (ty_hoTable W Ta0)
    have l1 : zN τ125 a1 = zN κ a1 := F.l Ta1
    refine ⟨?_, ?_⟩
    · refine ⟨by decide, by rw [lei, t0i]; exact l0, by rw [lei, t0i]; exact h2, ?_, ?_⟩
      · rw [l1]
        show 0 + a2.toNatClampNeg ≤ _
        omega
      · omega
    intro κ_1 hκ_1
    intro W2
    intro κ_3 hκ_3
    intro W4
    have i3 : zI κ_3 hoTotal a0 = zI κ hoTotal a0 + 1 := by
      rw [hκ_3]
      refine (if_pos ⟨rfl, rfl⟩).trans ?_
      rw [hκ_1]
      show zI τ125 hoTotal a0 + 1 = _
      rw [jI]
    have t3 : (zI κ_3 hoTotal a0).toInt = (zI κ hoTotal a0).toInt + 1 := by rw [i3, add_i (by rw [t1i]; omega) (by rw [t1i]; omega), t1i]
    have r3 : zR κ_3 = zR τ125 := by rw [hκ_3, hκ_1]; rfl
    have m3 : zN κ_3 = zN τ125 := by rw [hκ_3, hκ_1]; rfl
    refine ⟨?_, ?_⟩
    · rw [inb_iff, t3, r3, m3, jS, lS, show zN κ (zR κ hoStarts a0) = M + 1 from A.2.1]; omega  -- b2
    intro κ_5 hκ_5
    intro W6
    refine ⟨?_, ?_⟩
    · have r5 : zR κ_5 = zR τ125 := by rw [hκ_5]; exact r3
      have m5 : zN κ_5 = zN τ125 := by rw [hκ_5]; exact m3
      rw [inb_iff, r5, m5, jT, lT, show zN κ (zR κ hoTable a0) = S from A.1]; exact ⟨j0, j1⟩
    intro κ_7 hκ_7
    intro W8
    refine h _ _ ?_
    · exact en_q W Ta0 W125 H P h2 J hκ_1 hκ_3 hκ_5 hκ_7  -- q4
  refine ⟨fun c9 => ?_, fun c9 => ?_⟩
  · skip
    refine h _ _ ?_
    · exact z1  -- q5
  · skip
    have A := hoI_A H (Or.inr (fun e => c9 (by have e9 : zN κ (zR κ hoTable a0) = 0 := e; rw [e9]; rfl)))
    have tl : zN κ (zR κ hoTable a0) = S := A.1
    refine ⟨fun c10 => ?_, fun c10 => ?_⟩
    · skip
      intro T11
      intro T12
      refine Ho_slotOf_c W T11 T12 M D S ?_ (fun r13 q15 => ?_)
      · exact ⟨A, P, b0, b1, H.2.2.1.2, by rw [lei, ofn_i nN] at c10; exact c10⟩  -- p6
      intro W16
      intro M17
      have c2 : a2.toInt ≤ zN κ a1 := by rw [lei, ofn_i nN] at c10; exact c10
      refine ⟨?_, ?_⟩
      · rw [inb_iff, tl]; exact q15  -- b7
      refine ⟨fun c18 => ?_, fun c18 => ?_⟩
      · skip
        refine ⟨fun c19 => ?_, fun c19 => ?_⟩
        · skip
          refine h _ _ ?_
          · exact z1  -- q8
        · skip
          refine ⟨fun c20 => ?_, fun c20 => ?_⟩
          · skip
            refine h _ _ ?_
            · exact z1  -- q9
          · skip
            have d1 : (zI κ hoTotal a0).toInt < a3.toInt := by rw [lei] at c19; omega
            have d2 : (zI κ hoTotal a0).toInt < M := by rw [lei, H.1.1] at c20; omega
            have kt := cnk b0
            have kn : (zI κ hoTotal a0).toNatClampNeg = ((zI κ hoTotal a0).toInt).toNat := rfl
            refine ⟨fun c21 => ?_, fun c21 => ?_⟩
            · skip
              refine ⟨?_, ?_⟩
              · rw [inb_iff, show zN κ (zR κ hoStarts a0) = M + 1 from A.2.1]; omega  -- b10
              intro x22 hx22
              rw [kn] at hx22
              have d3 : a2.toInt ≤ D := by rw [lei, H.1.2.1] at c21; exact c21
              have f0 := hoA_0 A (Nat.le_refl ((zI κ hoTotal a0).toInt).toNat)
              have f1 : (zA κ (zR κ hoStarts a0) (((zI κ hoTotal a0).toInt).toNat)).toInt ≤ (((zI κ hoTotal a0).toInt).toNat : Int) * D := hoA_D A _ (Nat.le_refl _)
              have f2 := A.2.2.2.2.1
              have f3 := H.2.2.1
              have ex : x22.toInt = (zA κ (zR κ hoStarts a0) (((zI κ hoTotal a0).toInt).toNat)).toInt := by rw [hx22]
              have ea : (x22 + a2).toInt = x22.toInt + a2.toInt := add_i (by omega) (by omega)
              refine ⟨fun c23 => ?_, fun c23 => ?_⟩
              · skip
                refine hj125 _ _ _ _ _ _ W16 ?_ ?_ ?_
                · exact Ta0  -- t11
                · exact Ta1  -- t12
                · rw [lei, ea, ofn_i pN] at c23
                  exact ⟨rfl, rfl, rfl, q15, A, ⟨d2, d1, d3, c2⟩, ex, zF.rf, rfl, ⟨rfl, rfl⟩, ⟨rfl, rfl⟩, c23, f3.1, f3.2⟩
              · skip
                intro T24
                have c24 : (zN κ (zR κ hoPool a0) : Int) < x22.toInt + a2.toInt := by rw [lei, ea, ofn_i pN] at c23; omega
                have md : (zI κ hoMost a0 * zI κ hoWidest a0).toInt = (M : Int) * D := by rw [mul_i (by rw [H.1.1, H.1.2.1]; omega) (by rw [H.1.1, H.1.2.1]; omega), H.1.1, H.1.2.1]
                have mu : ((x22 + a2) * 2).toInt = (x22.toInt + a2.toInt) * 2 := by rw [mul_i (by rw [ea, t2i]; omega) (by rw [ea, t2i]; omega), ea, t2i]
                have up : x22.toInt + a2.toInt ≤ (M : Int) * D := by
                  have g : ((((zI κ hoTotal a0).toInt).toNat + 1 : Nat) : Int) * D ≤ (M : Int) * D := Int.mul_le_mul_of_nonneg_right (by omega) (Int.natCast_nonneg D)
                  have g2 : ((((zI κ hoTotal a0).toInt).toNat + 1 : Nat) : Int) * D = (((zI κ hoTotal a0).toInt).toNat : Int) * D + D := by rw [Int.natCast_add]; simp [Int.add_mul]
                  omega
                obtain ⟨nn, hnn⟩ : ∃ nn, nn = (if zI κ hoMost a0 * zI κ hoWidest a0 < (x22 + a2) * 2 then zI κ hoMost a0 * zI κ hoWidest a0 else (x22 + a2) * 2) := ⟨_, rfl⟩
                rw [← hnn]
                have nt : x22.toInt + a2.toInt ≤ nn.toInt ∧ nn.toInt ≤ (M : Int) * D ∧ (nn.toInt = (M : Int) * D ∨ nn.toInt = (x22.toInt + a2.toInt) * 2) := by
                  rw [hnn]
                  by_cases z : zI κ hoMost a0 * zI κ hoWidest a0 < (x22 + a2) * 2
                  · rw [if_pos z, md]; exact ⟨up, Int.le_refl _, Or.inl rfl⟩
                  · rw [if_neg z, mu]
                    rw [lti, md, mu] at z
                    exact ⟨by omega, by omega, Or.inr rfl⟩
                have kn9 := cnk (x := nn) (by omega)
                refine Ar_copyOf_c W16 T24  ?_ (fun r25 κ_26 q27 => ?_)
                · exact ⟨⟨by rw [lei, t0i]; omega, by omega⟩, fun e => by
                    have e9 := congrArg Int32.toInt e
                    rw [ofn_i pN] at e9
                    omega⟩
                intro W28
                intro M29
                intro T30
                refine ⟨?_, ?_⟩
                · rw [q27.1]; exact q27.2.2.1  -- b15
                intro κ_31 hκ_31
                intro W32
                have h9 : κ_31 = uo κ_26 hoPool a0 (zn κ) := by rw [hκ_31, q27.1]
                have hw := wS_pool (n := nn.toNatClampNeg) (o := zN κ (zR κ hoPool a0)) (by omega) (by omega) (by
                  rcases nt.2.2 with z | z
                  · left
                    have z2 : (nn.toNatClampNeg : Int) = (M * D : Nat) := by rw [kn9, z]; simp
                    have z3 : nn.toNatClampNeg = M * D := by omega
                    rw [z3]
                    rcases P with ⟨rfl, rfl, rfl⟩ | ⟨rfl, rfl, rfl⟩ | ⟨rfl, rfl, rfl⟩
                    · exact Or.inl rfl
                    · exact Or.inr (Or.inl rfl)
                    · exact Or.inr (Or.inr rfl)
                  · right; omega)
                have F9 : zF (hoF a0) κ κ_31 := zF_uo (t := 20) (n := nn.toNatClampNeg) (f := hoPool) (q := 20) W (by decide +kernel) (by decide) Ta0 (by decide) ⟨rfl, Or.inr (Or.inr (Or.inl rfl))⟩ q27.2.1 h9 hw.1 hw.2
                obtain ⟨g1, g2, g3, g4, g5, -⟩ := q27.2.1
                have gp : zN κ_31 (zR κ_31 hoPool a0) = nn.toNatClampNeg := by
                  have e : zR κ_31 hoPool a0 = zn κ := by rw [h9]; exact if_pos ⟨rfl, rfl⟩
                  rw [e, h9]
                  show zN κ_26 (zn κ) = _
                  rw [g2]; exact if_pos rfl
                refine hj125 _ _ _ _ _ _ W32 ?_ ?_ ?_
                · exact F9.t Ta0 (by decide)  -- t16
                · exact F9.t Ta1 (by decide)  -- t17
                · refine ⟨rfl, rfl, rfl, q15, A, ⟨d2, d1, d3, c2⟩, ex, F9, by rw [h9]; exact g3, ⟨?_, ?_⟩, ⟨?_, ?_⟩, ?_, ?_, ?_⟩
                  · rw [h9]; exact (uo_ne (by decide)).trans (by rw [g4])
                  · rw [h9]; exact (uo_ne (by decide)).trans (by rw [g4])
                  · rw [h9]; exact (g5 _ (W.nw (ty_hoStarts W Ta0))).1
                  · rw [h9]; exact (g5 _ (W.nw (ty_hoTable W Ta0))).1
                  · rw [gp]; omega
                  · rw [gp]; omega
                  · rw [gp]; omega
            · skip
              refine h _ _ ?_
              · exact z1  -- q19
      · skip
        refine ⟨?_, ?_⟩
        · rw [inb_iff, tl]; exact q15  -- b20
        refine h _ _ ?_
        · have z := A.2.2.2.2.2 r13.toNatClampNeg (by have := cnk q15.1; omega)
          have e : (zA κ (zR κ hoTable a0) r13.toNatClampNeg - 1).toInt = (zA κ (zR κ hoTable a0) r13.toNatClampNeg).toInt - 1 := by rw [sub_i (by rw [t1i]; omega) (by rw [t1i]; omega), t1i]
          exact ⟨zF.rf, H, by rw [e]; omega, by rw [e]; omega, Or.inl rfl⟩
    · skip
      refine h _ _ ?_
      · exact z1  -- q22

end
section
set_option maxHeartbeats 1600000
/-! the class: Code -/
theorem wS_dbl {f n o : Nat} (h0 : f ≠ 0) (h1 : f ≠ 605) (h2 : f ≠ 800) (hc : cap9 f = 0) (h : 2 * o ≤ n) (h4 : 4 ≤ o) : n + wS f o ≤ wS f n ∧ 4 + wC f o ≤ wC f n := by
  unfold wS wC
  rw [if_neg h0, if_neg h1, if_neg h2, if_neg h0, if_neg h1, if_neg h2, if_neg h0, if_neg h1, if_neg h2, if_neg h0, if_neg h1, if_neg h2, hc, if_neg (by omega), if_neg (by omega), if_neg (by omega), if_neg (by omega)]
  omega
/-- a field gets a row of twice the length -/
theorem gr_f {C : zC} {n0 f c s t n : Nat} {κ κ1 κ2 : zS} (W : zW C n0 κ) (hr : zr f = some t) (ht : 20 ≤ t) (T : zT κ c = f / 100) (hw : f ≠ 0 ∧ f ≠ 605 ∧ f ≠ 800 ∧ cap9 f = 0) (q : cpR κ κ1 s t n) (e : κ2 = uo κ1 f c (zn κ)) (h2 : 2 * zN κ (zR κ f c) ≤ n) (h4 : 4 ≤ zN κ (zR κ f c)) : zF (fun g b => g = f ∧ b = c) κ κ2 ∧ zI κ2 = zI κ ∧ (∀ g b, ¬ (g = f ∧ b = c) → zR κ2 g b = zR κ g b) ∧ zR κ2 f c = zn κ ∧ zN κ2 (zn κ) = n ∧ (∀ x d, zT κ x = d + 1 → zN κ2 x = zN κ x ∧ zA κ2 x = zA κ x) ∧ (∀ i, i < n → i < zN κ s → zA κ2 (zn κ) i = zA κ s i) ∧ ∀ i, zN κ s ≤ i → zA κ2 (zn κ) i = 0 := by
  have w := wS_dbl hw.1 hw.2.1 hw.2.2.1 hw.2.2.2 h2 h4
  have F : zF (fun g b => g = f ∧ b = c) κ κ2 := zF_uo W hr ht T ht ⟨rfl, rfl⟩ q.1 e w.1 w.2
  obtain ⟨⟨g1, g2, g3, g4, g5, g6, -⟩, k1, k2, k3⟩ := q
  refine ⟨F, by rw [e]; exact g3, fun g b h => by rw [e]; exact (if_neg h).trans (congrFun (congrFun g4 g) b), by rw [e]; exact if_pos ⟨rfl, rfl⟩, ?_, fun x d hx => ⟨F.l hx, ?_⟩, fun i h1 h3 => ?_, fun i h1 => ?_⟩
  · rw [e]
    show zN κ1 (zn κ) = n
    rw [g2]; exact if_pos rfl
  · rw [e]; exact (g5 x (W.nw hx)).1
  · rw [e]; exact k2 i h1 h3
  · rw [e]; exact k3 i h1
theorem coRf_w : ∀ f, f ∈ [501, 500, 502, 503, 504, 505, 506, 507, 508] → f ≠ 0 ∧ f ≠ 605 ∧ f ≠ 800 ∧ cap9 f = 0 := by decide
def coI (κ : zS) (c : Nat) : Prop := ((zN κ (zR κ coVarStarts c)) = 10 ∧ (zN κ (zR κ coArrayBases c)) = 3 ∧ (zN κ (zR κ coArraySizes c)) = 3 ∧ (zN κ (zR κ coFirstStatements c)) = 10 ∧ (zN κ (zR κ coNameCounts c)) = 10 ∧ (zN κ (zR κ coOwnCounts c)) = 10) ∧ (0 ≤ (zI κ coVars c).toInt ∧ (zI κ coVars c).toInt ≤ 10) ∧ (0 ≤ (zI κ coArrays c).toInt ∧ (zI κ coArrays c).toInt ≤ 3) ∧ (0 ≤ (zI κ coCells c).toInt ∧ (zI κ coCells c).toInt ≤ 8 * (zI κ coArrays c).toInt) ∧ (0 ≤ (zI κ coFunctions c).toInt ∧ (zI κ coFunctions c).toInt ≤ 10) ∧ (0 ≤ (zI κ coStatements c).toInt ∧ (zI κ coStatements c).toInt ≤ 150) ∧ (11 * (zI κ coStatements c).toInt ≤ (zN κ (zR κ coRows c)) ∧ 88 ≤ (zN κ (zR κ coRows c)) ∧ (zN κ (zR κ coRows c)) ≤ 3322) ∧ (0 ≤ (zI κ coLength c).toInt ∧ (zI κ coLength c).toInt ≤ (zN κ (zR κ coOps c)) ∧ (zN κ (zR κ coArgs c)) = (zN κ (zR κ coOps c)) ∧ 64 ≤ (zN κ (zR κ coOps c)) ∧ (zN κ (zR κ coOps c)) ≤ 41000) ∧ ∀ i, i < 3 → 0 ≤ (zA κ (zR κ coArrayBases c) i).toInt ∧ 0 ≤ (zA κ (zR κ coArraySizes c) i).toInt ∧ (zA κ (zR κ coArrayBases c) i).toInt + (zA κ (zR κ coArraySizes c) i).toInt ≤ 24
abbrev coRf : List Nat := [coVarStarts, coArrayBases, coArraySizes, coFirstStatements, coNameCounts, coOwnCounts, coRows, coOps, coArgs]
abbrev coIf : List Nat := [coVars, coArrays, coCells, coFunctions, coStatements, coLength]
/-- numbers and rows that coI speaks of are the same -/
theorem coI_g {κ κ' : zS} {c : Nat} (H : coI κ c) (hi : ∀ f, f ∈ coIf → zI κ' f c = zI κ f c) (hr : ∀ f, f ∈ coRf → zR κ' f c = zR κ f c) (hn : ∀ f, f ∈ coRf → zN κ' (zR κ f c) = zN κ (zR κ f c)) (ha : ∀ f, f = coArrayBases ∨ f = coArraySizes → zA κ' (zR κ f c) = zA κ (zR κ f c)) : coI κ' c := by
  unfold coI at *
  rw [hr coVarStarts (by decide), hr coArrayBases (by decide), hr coArraySizes (by decide), hr coFirstStatements (by decide), hr coNameCounts (by decide), hr coOwnCounts (by decide), hr coRows (by decide), hr coOps (by decide), hr coArgs (by decide)]
  rw [hn coVarStarts (by decide), hn coArrayBases (by decide), hn coArraySizes (by decide), hn coFirstStatements (by decide), hn coNameCounts (by decide), hn coOwnCounts (by decide), hn coRows (by decide), hn coOps (by decide), hn coArgs (by decide)]
  rw [hi coVars (by decide), hi coArrays (by decide), hi coCells (by decide), hi coFunctions (by decide), hi coStatements (by decide), hi coLength (by decide), ha coArrayBases (Or.inl rfl), ha coArraySizes (Or.inr rfl)]
  exact H
theorem coRf_r : ∀ f, f ∈ coRf → zr f = some 20 ∧ f / 100 = 5 := by decide +kernel
theorem coRf_n {C : zC} {n0 c f g : Nat} {κ : zS} (W : zW C n0 κ) (T : zT κ c = 5) (hf : f ∈ coRf) (hg : g ∈ coRf) (h : f ≠ g) : zR κ f c ≠ zR κ g c := ow_ne W (coRf_r f hf).1 (by decide) (T.trans (coRf_r f hf).2.symm) (coRf_r g hg).1 (by decide) (T.trans (coRf_r g hg).2.symm) h
theorem coRf_t {C : zC} {n0 c f : Nat} {κ : zS} (W : zW C n0 κ) (T : zT κ c = 5) (hf : f ∈ coRf) : zT κ (zR κ f c) = 20 := W.r (coRf_r f hf).1 (T.trans (coRf_r f hf).2.symm)
theorem coRf_o {C : zC} {n0 c f : Nat} {κ : zS} (W : zW C n0 κ) (T : zT κ c = 5) (hf : f ∈ coRf) : zO κ (zR κ f c) = (f, c) := W.o (coRf_r f hf).1 (by decide) (T.trans (coRf_r f hf).2.symm)
/-- one field of one object -/
abbrev oneF (f a : Nat) : Nat → Nat → Prop := fun g b => g = f ∧ b = a
/-- any fields of one object -/
abbrev objF (a : Nat) : Nat → Nat → Prop := fun _ b => b = a
theorem col_i {x y : Int32} (h0 : 0 ≤ x.toInt) (h1 : x.toInt < 150) (h2 : 0 ≤ y.toInt) (h3 : y.toInt < 11) : (x * 11 + y).toInt = 11 * x.toInt + y.toInt := by
  have e : (11 : Int32).toInt = 11 := rfl
  have m : (x * 11).toInt = x.toInt * 11 := by rw [mul_i (by rw [e]; omega) (by rw [e]; omega), e]
  rw [add_i (by rw [m]; omega) (by rw [m]; omega), m]
  omega
theorem Co_shared_c {C : zC} {n0 : Nat} {a0 : Nat} {κ : zS} {Q : Int32 → zS → Prop} (W : zW C n0 κ) (Ta0 : zT κ a0 = 5)  (hp : coI κ a0) (h : ∀ (v : Int32), (v.toInt = (zI κ coVars a0).toInt + (zI κ coCells a0).toInt) → Q v κ) : zRun C 0 mCo_shared [.ref a0] κ (oI Q noX) := by
  refine Co_shared_run W Ta0 ?_
  replace W := W.lo (Nat.le_trans W.1.2.1 W.1.2.2) (Nat.le_refl (zn κ))
  unfold w_Co_shared_0
  obtain ⟨-, hv, ha, hc, -⟩ := hp
  refine h _ ?_
  · exact add_i (by omega) (by omega)  -- q1

theorem Co_isShared_c {C : zC} {n0 : Nat} {a0 : Nat} {a1 : Int32} {κ : zS} {Q : Int32 → zS → Prop} (W : zW C n0 κ) (Ta0 : zT κ a0 = 5)  (hp : coI κ a0) (h : ∀ (v : Int32), (nb v ∧ (v ≠ 0 → 0 ≤ a1.toInt ∧ a1.toInt < (zI κ coVars a0).toInt + (zI κ coCells a0).toInt)) → Q v κ) : zRun C 0 mCo_isShared [.ref a0, .int a1] κ (oI Q noX) := by
  refine Co_isShared_run W Ta0 ?_
  replace W := W.lo (Nat.le_trans W.1.2.1 W.1.2.2) (Nat.le_refl (zn κ))
  unfold w_Co_isShared_0
  obtain ⟨-, hv, ha, hc, -⟩ := hp
  have e : (zI κ coVars a0 + zI κ coCells a0).toInt = (zI κ coVars a0).toInt + (zI κ coCells a0).toInt := add_i (by omega) (by omega)
  refine ⟨fun c1 => ?_, fun c1 => ?_⟩
  · skip
    refine h _ ?_
    · exact ⟨nb_0, fun h => absurd rfl h⟩  -- q1
  · skip
    refine ⟨fun c2 => ?_, fun c2 => ?_⟩
    · skip
      refine h _ ?_
      · exact ⟨nb_0, fun h => absurd rfl h⟩  -- q2
    · skip
      refine h _ ?_
      · refine ⟨nb_1, fun _ => ?_⟩
        rw [lti, t0i] at c1
        rw [lei, e] at c2
        omega

theorem Co_howMany_c {C : zC} {n0 : Nat} {a0 : Nat} {a1 : Int32} {κ : zS} {Q : Int32 → zS → Prop} (W : zW C n0 κ) (Ta0 : zT κ a0 = 5)  (h : ∀ (v : Int32), (True) → Q v κ) : zRun C 0 mCo_howMany [.ref a0, .int a1] κ (oI Q noX) := by
  refine Co_howMany_run W Ta0 ?_
  replace W := W.lo (Nat.le_trans W.1.2.1 W.1.2.2) (Nat.le_refl (zn κ))
  unfold w_Co_howMany_0
  refine ⟨fun c1 => ?_, fun c1 => ?_, fun c1 => ?_, fun c1 => ?_⟩
  · skip
    refine h _ ?_
    · trivial  -- q1
  · skip
    refine h _ ?_
    · trivial  -- q2
  · skip
    refine h _ ?_
    · trivial  -- q3
  · skip
    refine h _ ?_
    · trivial  -- q4

theorem Co_firstOf_c {C : zC} {n0 : Nat} {a0 : Nat} {a1 : Int32} {κ : zS} {Q : Int32 → zS → Prop} (W : zW C n0 κ) (Ta0 : zT κ a0 = 5)  (hp : coI κ a0) (h : ∀ (v : Int32), (True) → Q v κ) : zRun C 0 mCo_firstOf [.ref a0, .int a1] κ (oI Q noX) := by
  refine Co_firstOf_run W Ta0 ?_
  replace W := W.lo (Nat.le_trans W.1.2.1 W.1.2.2) (Nat.le_refl (zn κ))
  unfold w_Co_firstOf_0
  refine ⟨fun c1 => ?_, fun c1 => ?_⟩
  · skip
    refine h _ ?_
    · trivial  -- q1
  · skip
    refine ⟨fun c2 => ?_, fun c2 => ?_⟩
    · skip
      refine h _ ?_
      · trivial  -- q2
    · skip
      refine ⟨?_, ?_⟩
      · have e : (10 : Int32).toInt = 10 := rfl
        rw [inb_iff, hp.1.2.2.2.1]
        rw [lti, t0i] at c1
        rw [lei, e] at c2
        omega
      refine h _ ?_
      · trivial  -- q4

theorem Co_column_c {C : zC} {n0 : Nat} {a0 : Nat} {a1 : Int32} {a2 : Int32} {κ : zS} {Q : Int32 → zS → Prop} (W : zW C n0 κ) (Ta0 : zT κ a0 = 5)  (hp : coI κ a0 ∧ 0 ≤ a2.toInt ∧ a2.toInt < 11) (h : ∀ (v : Int32), (True) → Q v κ) : zRun C 0 mCo_column [.ref a0, .int a1, .int a2] κ (oI Q noX) := by
  refine Co_column_run W Ta0 ?_
  replace W := W.lo (Nat.le_trans W.1.2.1 W.1.2.2) (Nat.le_refl (zn κ))
  unfold w_Co_column_0
  obtain ⟨H, p0, p1⟩ := hp
  obtain ⟨-, -, -, -, -, hs, hrw, -⟩ := H
  refine ⟨fun c1 => ?_, fun c1 => ?_⟩
  · skip
    refine h _ ?_
    · trivial  -- q1
  · skip
    refine ⟨fun c2 => ?_, fun c2 => ?_⟩
    · skip
      refine h _ ?_
      · trivial  -- q2
    · skip
      refine ⟨?_, ?_⟩
      · rw [lti, t0i] at c1
        rw [lei] at c2
        rw [inb_iff, col_i (by omega) (by omega) p0 p1]
        omega
      refine h _ ?_
      · trivial  -- q4

theorem Co_setColumn_c {C : zC} {n0 : Nat} {a0 : Nat} {a1 : Int32} {a2 : Int32} {a3 : Int32} {κ : zS} {Q : zS → Prop} (W : zW C n0 κ) (Ta0 : zT κ a0 = 5)  (hp : coI κ a0 ∧ 0 ≤ a2.toInt ∧ a2.toInt < 11) (h : ∀ (κ' : zS), (zF (oneF coRows a0) κ κ' ∧ coI κ' a0 ∧ zI κ' = zI κ ∧ zR κ' = zR κ) → Q κ') : zRun C 0 mCo_setColumn [.ref a0, .int a1, .int a2, .int a3] κ (oV Q noX) := by
  refine Co_setColumn_run W Ta0 ?_
  replace W := W.lo (Nat.le_trans W.1.2.1 W.1.2.2) (Nat.le_refl (zn κ))
  unfold w_Co_setColumn_0
  obtain ⟨H, p0, p1⟩ := hp
  have H0 := H
  obtain ⟨-, -, -, -, -, hs, hrw, -⟩ := H
  refine ⟨fun c1 => ?_, fun c1 => ?_⟩
  · skip
    refine h _ ?_
    · exact ⟨zF.rf, H0, rfl, rfl⟩  -- q1
  · skip
    refine ⟨fun c2 => ?_, fun c2 => ?_⟩
    · skip
      refine h _ ?_
      · exact ⟨zF.rf, H0, rfl, rfl⟩  -- q2
    · skip
      refine ⟨?_, ?_⟩
      · rw [lti, t0i] at c1
        rw [lei] at c2
        rw [inb_iff, col_i (by omega) (by omega) p0 p1]
        omega
      intro κ_3 hκ_3
      intro W4
      refine h _ ?_
      · rw [hκ_3]
        refine ⟨zF_ua (by rw [coRf_o W Ta0 (by decide)]; exact ⟨rfl, rfl⟩), coI_g H0 (fun _ _ => rfl) (fun _ _ => rfl) (fun _ _ => rfl) (fun f hf => if_neg ?_), rfl, rfl⟩
        rcases hf with rfl | rfl
        · exact coRf_n W Ta0 (by decide) (by decide) (by decide)
        · exact coRf_n W Ta0 (by decide) (by decide) (by decide)

theorem Co_clear_c {C : zC} {n0 : Nat} {a0 : Nat} {κ : zS} {Q : zS → Prop} (W : zW C n0 κ) (Ta0 : zT κ a0 = 5)  (hp : coI κ a0) (h : ∀ (κ' : zS), (zF (objF a0) κ κ' ∧ coI κ' a0 ∧ zR κ' = zR κ ∧ (zI κ' coVars a0).toInt = 0 ∧ (zI κ' coArrays a0).toInt = 0 ∧ (zI κ' coCells a0).toInt = 0 ∧ (zI κ' coFunctions a0).toInt = 0 ∧ (zI κ' coStatements a0).toInt = 0 ∧ (zI κ' coLength a0).toInt = 0 ∧ (zI κ' coMain a0).toInt = -1) → Q κ') : zRun C 1 mCo_clear [.ref a0] κ (oV Q noX) := by
  refine Co_clear_run W Ta0 ?_
  replace W := W.lo (Nat.le_trans W.1.2.1 W.1.2.2) (Nat.le_refl (zn κ))
  unfold w_Co_clear_0
  intro κ_1 hκ_1
  intro W2
  intro κ_3 hκ_3
  intro W4
  intro κ_5 hκ_5
  intro W6
  intro κ_7 hκ_7
  intro W8
  intro κ_9 hκ_9
  intro W10
  intro κ_11 hκ_11
  intro W12
  intro κ_13 hκ_13
  intro W14
  intro T15
  refine Ar_fill_c W14 T15  (fun κ_16 q17 => ?_)
  intro W18
  intro M19
  refine h _ ?_
  · have f1 : zF (objF a0) κ κ_1 := by rw [hκ_1]; exact zF_ui rfl
    have f3 : zF (objF a0) κ_1 κ_3 := by rw [hκ_3]; exact zF_ui rfl
    have f5 : zF (objF a0) κ_3 κ_5 := by rw [hκ_5]; exact zF_ui rfl
    have f7 : zF (objF a0) κ_5 κ_7 := by rw [hκ_7]; exact zF_ui rfl
    have f9 : zF (objF a0) κ_7 κ_9 := by rw [hκ_9]; exact zF_ui rfl
    have f11 : zF (objF a0) κ_9 κ_11 := by rw [hκ_11]; exact zF_ui rfl
    have f13 : zF (objF a0) κ_11 κ_13 := by rw [hκ_13]; exact zF_ui rfl
    have F := (((((f1.tr f3).tr f5).tr f7).tr f9).tr f11).tr f13
    have T13 := F.t Ta0 (by decide)
    have F16 : zF (objF a0) κ_13 κ_16 := by rw [q17]; exact zF_uf (by rw [coRf_o W14 T13 (by decide)])
    have r13 : zR κ_13 = zR κ := by rw [hκ_13, hκ_11, hκ_9, hκ_7, hκ_5, hκ_3, hκ_1]; rfl
    have n13 : zN κ_13 = zN κ := by rw [hκ_13, hκ_11, hκ_9, hκ_7, hκ_5, hκ_3, hκ_1]; rfl
    have a13 : zA κ_13 = zA κ := by rw [hκ_13, hκ_11, hκ_9, hκ_7, hκ_5, hκ_3, hκ_1]; rfl
    have i16 : zI κ_16 = zI κ_13 := by rw [q17]; rfl
    have r16 : zR κ_16 = zR κ := by rw [q17]; exact r13
    have n16 : zN κ_16 = zN κ := by rw [q17]; exact n13
    have v1 : zI κ_13 coVars a0 = 0 := by
      have e : zI κ_13 coVars a0 = zI κ_1 coVars a0 := by rw [hκ_13, hκ_11, hκ_9, hκ_7, hκ_5, hκ_3]; rfl
      rw [e, hκ_1]; exact if_pos ⟨rfl, rfl⟩
    have v3 : zI κ_13 coArrays a0 = 0 := by
      have e : zI κ_13 coArrays a0 = zI κ_3 coArrays a0 := by rw [hκ_13, hκ_11, hκ_9, hκ_7, hκ_5]; rfl
      rw [e, hκ_3]; exact if_pos ⟨rfl, rfl⟩
    have v5 : zI κ_13 coCells a0 = 0 := by
      have e : zI κ_13 coCells a0 = zI κ_5 coCells a0 := by rw [hκ_13, hκ_11, hκ_9, hκ_7]; rfl
      rw [e, hκ_5]; exact if_pos ⟨rfl, rfl⟩
    have v7 : zI κ_13 coFunctions a0 = 0 := by
      have e : zI κ_13 coFunctions a0 = zI κ_7 coFunctions a0 := by rw [hκ_13, hκ_11, hκ_9]; rfl
      rw [e, hκ_7]; exact if_pos ⟨rfl, rfl⟩
    have v9 : zI κ_13 coStatements a0 = 0 := by
      have e : zI κ_13 coStatements a0 = zI κ_9 coStatements a0 := by rw [hκ_13, hκ_11]; rfl
      rw [e, hκ_9]; exact if_pos ⟨rfl, rfl⟩
    have v11 : zI κ_13 coMain a0 = (-1) := by
      have e : zI κ_13 coMain a0 = zI κ_11 coMain a0 := by rw [hκ_13]; rfl
      rw [e, hκ_11]; exact if_pos ⟨rfl, rfl⟩
    have v13 : zI κ_13 coLength a0 = 0 := by
      rw [hκ_13]; exact if_pos ⟨rfl, rfl⟩
    have a16 : ∀ f, f = coArrayBases ∨ f = coArraySizes → zA κ_16 (zR κ f a0) = zA κ (zR κ f a0) := fun f hf => by
      rw [q17, r13]
      refine (if_neg ?_).trans (by show zA κ_13 _ = _; rw [a13])
      rcases hf with rfl | rfl
      · exact coRf_n W Ta0 (by decide) (by decide) (by decide)
      · exact coRf_n W Ta0 (by decide) (by decide) (by decide)
    rw [i16, v1, v3, v5, v7, v9, v11, v13]
    refine ⟨F.tr F16, ?_, r16, rfl, rfl, rfl, rfl, rfl, rfl, rfl⟩
    unfold coI at *
    rw [r16, n16, i16, v1, v3, v5, v7, v9, v13, a16 coArrayBases (Or.inl rfl), a16 coArraySizes (Or.inr rfl)]
    obtain ⟨g1, g2, g3, g4, g5, g6, g7, g8, g9⟩ := hp
    exact ⟨g1, by decide, by decide, by decide, by decide, by decide, ⟨by show (11 : Int) * 0 ≤ _; omega, g7.2⟩, ⟨by decide, by show (0 : Int) ≤ _; omega, g8.2.2⟩, g9⟩

theorem pm_1 {x : Int32} : x + 1 - 1 = x := by grind
theorem Co_addStatement_c {C : zC} {n0 : Nat} {a0 : Nat} {κ : zS} {Q : Int32 → zS → Prop} (W : zW C n0 κ) (Ta0 : zT κ a0 = 5)  (hp : coI κ a0 ∧ (zI κ coStatements a0).toInt < 150) (h : ∀ (v : Int32) (κ' : zS), (zF (objF a0) κ κ' ∧ coI κ' a0 ∧ v = zI κ coStatements a0 ∧ zI κ' coStatements a0 = zI κ coStatements a0 + 1 ∧ (∀ f, f ≠ coStatements → zI κ' f a0 = zI κ f a0)) → Q v κ') : zRun C 2 mCo_addStatement [.ref a0] κ (oI Q noX) := by
  refine Co_addStatement_run W Ta0 ?_
  replace W := W.lo (Nat.le_trans W.1.2.1 W.1.2.2) (Nat.le_refl (zn κ))
  unfold w_Co_addStatement_0
  obtain ⟨H, p0⟩ := hp
  have H0 := H
  obtain ⟨h1, hv, ha, hc, hf, hs, hrw, ho, hb⟩ := H
  have e11 : (11 : Int32).toInt = 11 := rfl
  have e3 : (3 : Int32).toInt = 3 := rfl
  have e4 : (4 : Int32).toInt = 4 := rfl
  have hj37 : ∀ (l0 : Nat) (l1 : Int32) (τ : zS), zW C (zn κ) τ → zT τ l0 = 5 → (a0 = l0 ∧ zF (objF a0) κ τ ∧ zI τ = zI κ ∧ (∀ f, f ∈ coRf → f ≠ coRows → zR τ f a0 = zR κ f a0) ∧ l1.toInt = 11 * (zI κ coStatements a0).toInt ∧ (l1.toInt + 11 ≤ (zN τ (zR τ coRows a0)) ∧ 88 ≤ (zN τ (zR τ coRows a0)) ∧ (zN τ (zR τ coRows a0)) ≤ 3322) ∧ (∀ f, f = coArrayBases ∨ f = coArraySizes → zA τ (zR κ f a0) = zA κ (zR κ f a0))) → w_Co_addStatement_37 C (zn κ) Q  l0 l1 τ := by
    rintro _ y37_1 τ37 W37 T37_0 ⟨rfl, j37⟩
    unfold w_Co_addStatement_37
    intro T1
    obtain ⟨F, jI, jR, jl, jp, jA⟩ := j37
    have ea : (y37_1 + 11).toInt = y37_1.toInt + 11 := by rw [add_i (by rw [e11]; omega) (by rw [e11]; omega), e11]
    have k1 := cnk (x := y37_1) (by omega)
    have k11 := cnk (x := y37_1 + 11) (by omega)
    refine Ar_fill4_c W37 T1  ?_ (fun κ_2 q3 => ?_)
    · exact ⟨by rw [lei, t0i]; omega, by rw [lei, ea]; omega, by omega⟩  -- p1
    intro W4
    intro M5
    refine ⟨?_, ?_⟩
    · rw [q3, inb_iff, add_i (by rw [t1i]; omega) (by rw [t1i]; omega), t1i]
      show _ ∧ _ < ((zN τ37 (zR τ37 coRows a0) : Nat) : Int)
      omega
    intro κ_6 hκ_6
    intro W7
    refine ⟨?_, ?_⟩
    · rw [hκ_6, q3, inb_iff, add_i (by rw [e3]; omega) (by rw [e3]; omega), e3]
      show _ ∧ _ < ((zN τ37 (zR τ37 coRows a0) : Nat) : Int)
      omega
    intro κ_8 hκ_8
    intro W9
    refine ⟨?_, ?_⟩
    · rw [hκ_8, hκ_6, q3, inb_iff, add_i (by rw [e4]; omega) (by rw [e4]; omega), e4]
      show _ ∧ _ < ((zN τ37 (zR τ37 coRows a0) : Nat) : Int)
      omega
    intro κ_10 hκ_10
    intro W11
    intro κ_12 hκ_12
    intro W13
    refine h _ _ ?_
    · have f2 : zF (oneF coRows a0) τ37 κ_2 := by rw [q3]; exact zF_uf (by rw [coRf_o W37 T37_0 (by decide)]; exact ⟨rfl, rfl⟩)
      have T2 := f2.t T37_0 (by decide)
      have f6 : zF (oneF coRows a0) κ_2 κ_6 := by rw [hκ_6]; exact zF_ua (by rw [coRf_o W4 T2 (by decide)]; exact ⟨rfl, rfl⟩)
      have T6 := f6.t T2 (by decide)
      have f8 : zF (oneF coRows a0) κ_6 κ_8 := by rw [hκ_8]; exact zF_ua (by rw [coRf_o W7 T6 (by decide)]; exact ⟨rfl, rfl⟩)
      have T8 := f8.t T6 (by decide)
      have f10 : zF (oneF coRows a0) κ_8 κ_10 := by rw [hκ_10]; exact zF_ua (by rw [coRf_o W9 T8 (by decide)]; exact ⟨rfl, rfl⟩)
      have G := ((f2.tr f6).tr f8).tr f10
      have f12 : zF (objF a0) κ_10 κ_12 := by rw [hκ_12]; exact zF_ui rfl
      have FF : zF (objF a0) κ κ_12 := (F.tr (G.mono (fun _ _ z => z.2))).tr f12
      have i10 : zI κ_10 = zI κ := by rw [hκ_10, hκ_8, hκ_6, q3]; exact jI
      have r12 : zR κ_12 = zR τ37 := by rw [hκ_12, hκ_10, hκ_8, hκ_6, q3]; rfl
      have n12 : zN κ_12 = zN τ37 := by rw [hκ_12, hκ_10, hκ_8, hκ_6, q3]; rfl
      have a12 : zA κ_12 = zA κ_10 := by rw [hκ_12]; rfl
      have is : zI κ_12 coStatements a0 = zI κ coStatements a0 + 1 := by
        rw [hκ_12]
        refine (if_pos ⟨rfl, rfl⟩).trans ?_
        rw [i10]
      have io : ∀ f, f ≠ coStatements → zI κ_12 f a0 = zI κ f a0 := fun f hf => by
        rw [hκ_12]
        exact (if_neg (fun z => hf z.1)).trans (congrFun (congrFun i10 f) a0)
      have ts : (zI κ_12 coStatements a0).toInt = (zI κ coStatements a0).toInt + 1 := by rw [is, add_i (by rw [t1i]; omega) (by rw [t1i]; omega), t1i]
      have aa : ∀ f, f = coArrayBases ∨ f = coArraySizes → zA κ_12 (zR τ37 f a0) = zA κ (zR κ f a0) := fun f hf => by
        have m : f ∈ coRf ∧ f ≠ coRows := by rcases hf with rfl | rfl <;> decide
        have g := (G.2.1 (zR τ37 f a0) (by rw [coRf_t W37 T37_0 m.1]; decide) (by rw [coRf_o W37 T37_0 m.1]; exact fun z => m.2 z.1)).1
        rw [a12, g, jR f m.1 m.2]
        exact jA f hf
      have nn : ∀ f, f ∈ coRf → zN τ37 (zR κ f a0) = zN κ (zR κ f a0) := fun f hf => F.l (coRf_t W Ta0 hf)
      refine ⟨FF, ?_, by rw [is]; exact pm_1, is, io⟩
      unfold coI
      rw [r12, n12, aa coArrayBases (Or.inl rfl), aa coArraySizes (Or.inr rfl), jR coVarStarts (by decide) (by decide), jR coArrayBases (by decide) (by decide), jR coArraySizes (by decide) (by decide), jR coFirstStatements (by decide) (by decide), jR coNameCounts (by decide) (by decide), jR coOwnCounts (by decide) (by decide), jR coOps (by decide) (by decide), jR coArgs (by decide) (by decide)]
      rw [nn coVarStarts (by decide), nn coArrayBases (by decide), nn coArraySizes (by decide), nn coFirstStatements (by decide), nn coNameCounts (by decide), nn coOwnCounts (by decide), nn coOps (by decide), nn coArgs (by decide)]
      rw [ts, io coVars (by decide), io coArrays (by decide), io coCells (by decide), io coFunctions (by decide), io coLength (by decide)]
      exact ⟨h1, hv, ha, hc, hf, ⟨by omega, by omega⟩, ⟨by omega, jp.2⟩, ho, hb⟩
  intro x14 hx14
  have ex : x14.toInt = 11 * (zI κ coStatements a0).toInt := by rw [hx14, mul_i (by rw [e11]; omega) (by rw [e11]; omega), e11]; omega
  have ea : (x14 + 11).toInt = x14.toInt + 11 := by rw [add_i (by rw [e11]; omega) (by rw [e11]; omega), e11]
  have rN := W.n (ty_coRows W Ta0)
  refine ⟨fun c15 => ?_, fun c15 => ?_⟩
  · skip
    refine hj37 _ _ _ W ?_ ?_
    · exact Ta0  -- t6
    · rw [lei, ea, ofn_i rN] at c15
      exact ⟨rfl, zF.rf, rfl, fun _ _ _ => rfl, ex, ⟨c15, hrw.2⟩, fun _ _ => rfl⟩
  · skip
    intro T16
    have c16 : (zN κ (zR κ coRows a0) : Int) < x14.toInt + 11 := by rw [lei, ea, ofn_i rN] at c15; omega
    have e2 : ((x14 + 11) * 2).toInt = (x14.toInt + 11) * 2 := by rw [mul_i (by rw [ea, t2i]; omega) (by rw [ea, t2i]; omega), ea, t2i]
    have kn := cnk (x := (x14 + 11) * 2) (by omega)
    refine Ar_copyOf_c W T16  ?_ (fun r17 κ_18 q19 => ?_)
    · exact ⟨⟨by rw [lei, t0i]; omega, by omega⟩, fun e => by
        have e9 := congrArg Int32.toInt e
        rw [ofn_i rN] at e9
        omega⟩
    intro W20
    intro M21
    intro T22
    refine ⟨?_, ?_⟩
    · rw [q19.1]; exact q19.2.2.1  -- b9
    intro κ_23 hκ_23
    intro W24
    have h9 : κ_23 = uo κ_18 coRows a0 (zn κ) := by rw [hκ_23, q19.1]
    obtain ⟨F9, g1, g2, g3, g4, g5, -⟩ := gr_f (f := coRows) W (by decide +kernel) (by decide) Ta0 (by decide) q19.2 h9 (by omega) (by omega)
    refine hj37 _ _ _ W24 ?_ ?_
    · exact F9.t Ta0 (by decide)  -- t10
    · refine ⟨rfl, F9.mono (fun _ _ z => z.2), g1, fun f _ hf => g2 f a0 (fun z => hf z.1), ex, ?_, fun f hf => ?_⟩
      · rw [g3, g4]; omega
      · exact (g5 _ _ (coRf_t W Ta0 (by rcases hf with rfl | rfl <;> decide))).2

end
section
set_option maxHeartbeats 1600000
/-! the class: Code's emit, linkFollows -/
theorem Co_emit_c {C : zC} {n0 : Nat} {a0 : Nat} {a1 : Int32} {a2 : Int32} {κ : zS} {Q : zS → Prop} (W : zW C n0 κ) (Ta0 : zT κ a0 = 5)  (hp : coI κ a0 ∧ (zI κ coLength a0).toInt < 20500) (h : ∀ (κ' : zS), (zF (objF a0) κ κ' ∧ coI κ' a0 ∧ zI κ' coLength a0 = zI κ coLength a0 + 1 ∧ (∀ f, f ≠ coLength → zI κ' f a0 = zI κ f a0)) → Q κ') : zRun C 2 mCo_emit [.ref a0, .int a1, .int a2] κ (oV Q noX) := by
  refine Co_emit_run W Ta0 ?_
  replace W := W.lo (Nat.le_trans W.1.2.1 W.1.2.2) (Nat.le_refl (zn κ))
  unfold w_Co_emit_0
  obtain ⟨H, p0⟩ := hp
  have H0 := H
  obtain ⟨h1, hv, ha, hc, hf, hs, hrw, ho, hb⟩ := H
  have hj46 : ∀ (l0 : Nat) (l1 : Int32) (l2 : Int32) (τ : zS), zW C (zn κ) τ → zT τ l0 = 5 → (a0 = l0 ∧ a1 = l1 ∧ a2 = l2 ∧ zF (objF a0) κ τ ∧ zI τ = zI κ ∧ coI τ a0 ∧ (zI κ coLength a0).toInt < (zN τ (zR τ coOps a0))) → w_Co_emit_46 C (zn κ) Q  l0 l1 l2 τ := by
    rintro _ _ _ τ46 W46 T46_0 ⟨rfl, rfl, rfl, j46⟩
    unfold w_Co_emit_46
    obtain ⟨F, jI, J, jl⟩ := j46
    have J0 := J
    obtain ⟨g1, gv, ga, gc, gf, gs, grw, go, gb⟩ := J
    refine ⟨?_, ?_⟩
    · rw [inb_iff, jI]; omega  -- b1
    intro κ_1 hκ_1
    intro W2
    refine ⟨?_, ?_⟩
    · rw [hκ_1, inb_iff]
      show 0 ≤ (zI τ46 coLength a0).toInt ∧ (zI τ46 coLength a0).toInt < ((zN τ46 (zR τ46 coArgs a0) : Nat) : Int)
      rw [jI]; omega
    intro κ_3 hκ_3
    intro W4
    intro κ_5 hκ_5
    intro W6
    refine h _ ?_
    · have f1 : zF (objF a0) τ46 κ_1 := by rw [hκ_1]; exact zF_ua (by rw [coRf_o W46 T46_0 (by decide)])
      have T1 := f1.t T46_0 (by decide)
      have f3 : zF (objF a0) κ_1 κ_3 := by rw [hκ_3]; exact zF_ua (by rw [coRf_o W2 T1 (by decide)])
      have f5 : zF (objF a0) κ_3 κ_5 := by rw [hκ_5]; exact zF_ui rfl
      have i3 : zI κ_3 = zI κ := by rw [hκ_3, hκ_1]; exact jI
      have r5 : zR κ_5 = zR τ46 := by rw [hκ_5, hκ_3, hκ_1]; rfl
      have n5 : zN κ_5 = zN τ46 := by rw [hκ_5, hκ_3, hκ_1]; rfl
      have is : zI κ_5 coLength a0 = zI κ coLength a0 + 1 := by
        rw [hκ_5]
        refine (if_pos ⟨rfl, rfl⟩).trans ?_
        rw [i3]
      have io : ∀ f, f ≠ coLength → zI κ_5 f a0 = zI κ f a0 := fun f hf => by
        rw [hκ_5]
        exact (if_neg (fun z => hf z.1)).trans (congrFun (congrFun i3 f) a0)
      have ts : (zI κ_5 coLength a0).toInt = (zI κ coLength a0).toInt + 1 := by rw [is, add_i (by rw [t1i]; omega) (by rw [t1i]; omega), t1i]
      have aa : ∀ f, f = coArrayBases ∨ f = coArraySizes → zA κ_5 (zR τ46 f a0) = zA τ46 (zR τ46 f a0) := fun f hf => by
        have m : f ∈ coRf ∧ f ≠ coOps ∧ f ≠ coArgs := by rcases hf with rfl | rfl <;> decide
        have e1 : zA κ_1 (zR τ46 f a0) = zA τ46 (zR τ46 f a0) := by rw [hκ_1]; exact if_neg (coRf_n W46 T46_0 m.1 (by decide) m.2.1)
        have e3 : zA κ_3 (zR τ46 f a0) = zA κ_1 (zR τ46 f a0) := by
          rw [hκ_3, show zR κ_1 = zR τ46 from by rw [hκ_1]; rfl]
          exact if_neg (coRf_n W46 T46_0 m.1 (by decide) m.2.2)
        rw [show zA κ_5 = zA κ_3 from by rw [hκ_5]; rfl, e3, e1]
      refine ⟨((F.tr f1).tr f3).tr f5, ?_, is, io⟩
      rw [jI] at gv ga gc gf gs grw
      unfold coI
      rw [r5, n5, aa coArrayBases (Or.inl rfl), aa coArraySizes (Or.inr rfl), ts, io coVars (by decide), io coArrays (by decide), io coCells (by decide), io coFunctions (by decide), io coStatements (by decide)]
      exact ⟨g1, gv, ga, gc, gf, gs, grw, ⟨by omega, by omega, go.2.2⟩, gb⟩
  have oN := W.n (ty_coOps W Ta0)
  refine ⟨fun c7 => ?_, fun c7 => ?_⟩
  · skip
    refine hj46 _ _ _ _ W ?_ ?_
    · exact Ta0  -- t4
    · rw [lti, ofn_i oN] at c7
      exact ⟨rfl, rfl, rfl, zF.rf, rfl, H0, c7⟩
  · skip
    intro T8
    have c8 : (zI κ coLength a0).toInt = zN κ (zR κ coOps a0) := by rw [lti, ofn_i oN] at c7; omega
    have e2 : (zI κ coLength a0 * 2).toInt = (zI κ coLength a0).toInt * 2 := by rw [mul_i (by rw [t2i]; omega) (by rw [t2i]; omega), t2i]
    have kn := cnk (x := zI κ coLength a0 * 2) (by omega)
    refine Ar_copyOf_c W T8  ?_ (fun r9 κ_10 q11 => ?_)
    · exact ⟨⟨by rw [lei, t0i]; omega, by omega⟩, fun e => by
        have e9 := congrArg Int32.toInt e
        rw [ofn_i oN] at e9
        omega⟩
    intro W12
    intro M13
    intro T14
    refine ⟨?_, ?_⟩
    · rw [q11.1]; exact q11.2.2.1  -- b7
    intro κ_15 hκ_15
    intro W16
    intro T17
    have h9 : κ_15 = uo κ_10 coOps a0 (zn κ) := by rw [hκ_15, q11.1]
    obtain ⟨F9, u1, u2, u3, u4, u5, -⟩ := gr_f (f := coOps) W (by decide +kernel) (by decide) Ta0 (by decide) q11.2 h9 (by omega) (by omega)
    have T15 := F9.t Ta0 (by decide)
    have aN := W16.n (ty_coArgs W16 T15)
    have ra : zR κ_15 coArgs a0 = zR κ coArgs a0 := u2 coArgs a0 (fun z => absurd z.1 (by decide))
    have na9 : zN κ_15 (zR κ_15 coArgs a0) = zN κ (zR κ coOps a0) := by rw [ra, (u5 _ _ (coRf_t W Ta0 (by decide))).1]; exact ho.2.2.1
    rw [u1]
    refine Ar_copyOf_c W16 T17  ?_ (fun r18 κ_19 q20 => ?_)
    · exact ⟨⟨by rw [lei, t0i]; omega, by omega⟩, fun e => by
        have e9 := congrArg Int32.toInt e
        rw [ofn_i aN, na9] at e9
        omega⟩
    intro W21
    intro M22
    intro T23
    refine ⟨?_, ?_⟩
    · rw [q20.1]; exact q20.2.2.1  -- b9
    intro κ_24 hκ_24
    intro W25
    have h24 : κ_24 = uo κ_19 coArgs a0 (zn κ_15) := by rw [hκ_24, q20.1]
    obtain ⟨G9, w1, w2, w3, w4, w5, -⟩ := gr_f (f := coArgs) W16 (by decide +kernel) (by decide) T15 (by decide) q20.2 h24 (by omega) (by omega)
    have FF : zF (objF a0) κ κ_24 := (F9.mono (fun _ _ z => z.2)).tr (G9.mono (fun _ _ z => z.2))
    refine hj46 _ _ _ _ W25 ?_ ?_
    · exact FF.t Ta0 (by decide)  -- t10
    · have rr : ∀ f, f ∈ coRf → f ≠ coOps → f ≠ coArgs → zR κ_24 f a0 = zR κ f a0 := fun f _ z1 z2 => (w2 f a0 (fun z => z2 z.1)).trans (u2 f a0 (fun z => z1 z.1))
      have nn : ∀ f, f ∈ coRf → zN κ_24 (zR κ f a0) = zN κ (zR κ f a0) := fun f hf => FF.l (coRf_t W Ta0 hf)
      have ro : zR κ_24 coOps a0 = zn κ := (w2 coOps a0 (fun z => absurd z.1 (by decide))).trans u3
      have t0 : zT κ_15 (zn κ) = 20 := by rw [← u3]; exact coRf_t W16 T15 (by decide)
      have no : zN κ_24 (zn κ) = (zI κ coLength a0 * 2).toNatClampNeg := ((w5 _ _ t0).1).trans u4
      have aa : ∀ f, f = coArrayBases ∨ f = coArraySizes → zA κ_24 (zR κ f a0) = zA κ (zR κ f a0) := fun f hf => by
        have m : f ∈ coRf := by rcases hf with rfl | rfl <;> decide
        have t1 := coRf_t W Ta0 m
        exact ((w5 _ _ (F9.t t1 (by decide))).2).trans (u5 _ _ t1).2
      have ii : zI κ_24 = zI κ := w1.trans u1
      refine ⟨rfl, rfl, rfl, FF, ii, ?_, ?_⟩
      · unfold coI
        rw [ii, rr coVarStarts (by decide) (by decide) (by decide), rr coArrayBases (by decide) (by decide) (by decide), rr coArraySizes (by decide) (by decide) (by decide), rr coFirstStatements (by decide) (by decide) (by decide), rr coNameCounts (by decide) (by decide) (by decide), rr coOwnCounts (by decide) (by decide) (by decide), rr coRows (by decide) (by decide) (by decide), ro, w3]
        rw [nn coVarStarts (by decide), nn coArrayBases (by decide), nn coArraySizes (by decide), nn coFirstStatements (by decide), nn coNameCounts (by decide), nn coOwnCounts (by decide), nn coRows (by decide), no, w4, aa coArrayBases (Or.inl rfl), aa coArraySizes (Or.inr rfl)]
        exact ⟨h1, hv, ha, hc, hf, hs, hrw, ⟨ho.1, by omega, rfl, by omega, by omega⟩, hb⟩
      · rw [ro, no]; omega

theorem Co_linkFollows_c {C : zC} {n0 : Nat} {a0 : Nat} {κ : zS} {Q : zS → Prop} (W : zW C n0 κ) (Ta0 : zT κ a0 = 5)  (hp : coI κ a0) (h : ∀ (κ' : zS), (zF (oneF coRows a0) κ κ' ∧ coI κ' a0 ∧ zI κ' = zI κ) → Q κ') : zRun C 1 mCo_linkFollows [.ref a0] κ (oV Q noX) := by
  refine Co_linkFollows_run W Ta0 ?_
  replace W := W.lo (Nat.le_trans W.1.2.1 W.1.2.2) (Nat.le_refl (zn κ))
  unfold w_Co_linkFollows_0
  unfold w_Co_linkFollows_2
  refine ⟨fun n l0 l1 τ => n = (150 - l1.toInt).toNat ∧ (a0 = l0 ∧ zF (oneF coRows a0) κ τ ∧ coI τ a0 ∧ zI τ = zI κ ∧ 0 ≤ l1.toInt), ⟨_, rfl, ?_⟩, ?_⟩
  · exact ⟨rfl, zF.rf, hp, rfl, by decide⟩  -- j1
  rintro n2 _ x2_1 κ2 W2 T2_0 ⟨hn2, rfl, i2⟩
  obtain ⟨F, I, eI, l0⟩ := i2
  refine ⟨fun c1 => ?_, fun c1 => ?_⟩
  · skip
    refine h _ ?_
    · exact ⟨F, I, eI⟩  -- q2
  · skip
    intro T2
    have c9 : x2_1.toInt < 150 := by
      have g := I.2.2.2.2.2.1
      rw [lei] at c1
      omega
    have e1 : (x2_1 + 1).toInt = x2_1.toInt + 1 := by rw [add_i (by rw [t1i]; omega) (by rw [t1i]; omega), t1i]
    refine Co_column_c W2 T2  ?_ (fun r3 q5 => ?_)
    · exact ⟨I, by decide, by decide⟩  -- p3
    intro W6
    intro M7
    intro T8
    refine Co_column_c W6 T8  ?_ (fun r9 q11 => ?_)
    · exact ⟨I, by decide, by decide⟩  -- p4
    intro W12
    intro M13
    refine ⟨fun c14 => ?_, fun c14 => ?_⟩
    · skip
      intro x15 hx15
      refine ⟨_, ?_, rfl, ?_⟩
      · rw [hn2, hx15, e1]; omega  -- d5
      · exact ⟨rfl, F, I, eI, by rw [hx15, e1]; omega⟩  -- i6
    · skip
      refine ⟨fun c16 => ?_, fun c16 => ?_⟩
      · skip
        intro x17 hx17
        refine ⟨_, ?_, rfl, ?_⟩
        · rw [hn2, hx17, e1]; omega  -- d7
        · exact ⟨rfl, F, I, eI, by rw [hx17, e1]; omega⟩  -- i8
      · skip
        intro T18
        refine Co_column_c W12 T18  ?_ (fun r19 q21 => ?_)
        · exact ⟨I, by decide, by decide⟩  -- p9
        intro W22
        intro M23
        refine ⟨fun c24 => ?_, fun c24 => ?_⟩
        · skip
          intro T25
          refine Co_column_c W22 T25  ?_ (fun r26 q28 => ?_)
          · exact ⟨I, by decide, by decide⟩  -- p10
          intro W29
          intro M30
          intro T31
          refine Co_setColumn_c W29 T31  ?_ (fun κ_32 q33 => ?_)
          · exact ⟨I, by decide, by decide⟩  -- p11
          intro W34
          intro M35
          intro x36 hx36
          refine ⟨_, ?_, rfl, ?_⟩
          · rw [hn2, hx36, e1]; omega  -- d12
          · exact ⟨rfl, F.tr q33.1, q33.2.1, q33.2.2.1.trans eI, by rw [hx36, e1]; omega⟩  -- i13
        · skip
          intro T37
          refine Co_setColumn_c W22 T37  ?_ (fun κ_38 q39 => ?_)
          · exact ⟨I, by decide, by decide⟩  -- p14
          intro W40
          intro M41
          intro x42 hx42
          refine ⟨_, ?_, rfl, ?_⟩
          · rw [hn2, hx42, e1]; omega  -- d15
          · exact ⟨rfl, F.tr q39.1, q39.2.1, q39.2.2.1.trans eI, by rw [hx42, e1]; omega⟩  -- i16

end
