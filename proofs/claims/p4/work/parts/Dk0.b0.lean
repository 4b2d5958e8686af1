set_option maxHeartbeats 1600000
/-! the class's reading as a pure program: its memory (parser, code, tape) as a record: numbers by field, rows by field, lengths of rows that stay -/
abbrev E5 : Type := (Nat → Int32) × (Nat → Nat → Int32) × (Nat → Nat)
abbrev T5 : Type := (Nat → Int32) × (Nat → Int32) × (Nat → Int32) × (Nat → Int32) × Int32 × Int32 × Nat
/-- what a piece of it comes to: the record and an answer, or a fault and its place -/
abbrev R5 (α : Type) : Type := (E5 × α) ⊕ (Int32 × Int32)
def fu5 : Nat := 4294967296
theorem fb5 {a b : Int32} : (a.toInt - b.toInt).toNat < fu5 := by
  have h1 := a.toInt_lt
  have h2 := b.le_toInt
  unfold fu5
  omega
def pb5 {α β : Type} (a : α) (k : α → β) : β := k a
def rdB5 {α β : Type} (m : R5 α) (k : E5 → α → R5 β) : R5 β := match m with
  | .inl x => k x.1 x.2
  | .inr x => .inr x
theorem rb_i5 {α β : Type} {m : R5 α} {k : E5 → α → R5 β} {r : R5 β} {e : E5} {a : α} (H : r = rdB5 m k) (z : m = .inl (e, a)) : r = k e a := by subst z; exact H
theorem rb_x5 {α β : Type} {m : R5 α} {k : E5 → α → R5 β} {r : R5 β} {x : Int32 × Int32} (H : r = rdB5 m k) (z : m = .inr x) : r = .inr x := by subst z; exact H
theorem rb_t5 {α : Type} {c : Prop} [Decidable c] {a b r : α} (H : r = if c then a else b) (h : c) : r = a := H.trans (if_pos h)
theorem rb_f5 {α : Type} {c : Prop} [Decidable c] {a b r : α} (H : r = if c then a else b) (h : ¬ c) : r = b := H.trans (if_neg h)
theorem rb_p5 {α β : Type} {a v : α} {k : α → β} {r : β} (H : r = pb5 a k) (z : v = a) : r = k v := by subst z; exact H
theorem rb_r5 {α : Type} {r : R5 α} {x y : Int32 × Int32} (H : r = .inr x) (z : x = y) : r = .inr y := by subst z; exact H
theorem lp_b5 {P : Nat → Prop} {n k : Nat} (hd : k < n) (h : k < n → P k) : ∃ k < n, P k := ⟨k, hd, h hd⟩
/-- rows that grow: as far as they are counted -/
def gr5 (f : Nat) : Prop := f = 1015 ∨ f = 506 ∨ f = 507 ∨ f = 508
def bd5 (i : Nat → Int32) (f : Nat) : Nat := if f = 1015 then (i 1016).toNatClampNeg else if f = 506 then 11 * (i 513).toNatClampNeg else (i 515).toNatClampNeg
def fx5 : List Nat := [500, 501, 502, 503, 504, 505, 1006, 1007, 1008, 1009, 1011, 1012, 1013, 1300, 1302, 1303, 1304]
def al5 : List Nat := [500, 501, 502, 503, 504, 505, 506, 507, 508, 1006, 1007, 1008, 1009, 1011, 1012, 1013, 1015, 1300, 1302, 1303, 1304]
def in5 : List Nat := [509, 510, 511, 512, 513, 514, 515, 1002, 1003, 1004, 1005, 1010, 1014, 1016, 1017, 1018, 1301, 1305]
def ow5 (κ : zS) (p f : Nat) : Nat := if f < 600 then zR κ paCode p else if f < 1100 then p else zR κ paTape p
def ai5 (κ : zS) (p f : Nat) : Int32 := if f ∈ in5 then zI κ f (ow5 κ p f) else 0
def ab5 (κ : zS) (p : Nat) : E5 := (ai5 κ p, fun f => if f = 1015 ∨ f = 506 ∨ f = 507 ∨ f = 508 then (fun j => if j < bd5 (ai5 κ p) f then zA κ (zR κ f (ow5 κ p f)) j else 0) else if f ∈ fx5 then zA κ (zR κ f (ow5 κ p f)) else fun _ => 0, fun f => if f ∈ fx5 then zN κ (zR κ f (ow5 κ p f)) else 0)
def tpT5 (κ : zS) (t : Nat) : T5 := (zA κ (zR κ taBytes t), zA κ (zR κ taKinds t), zA κ (zR κ taPlaces t), zA κ (zR κ taLengths t), zI κ taLength t, zI κ taTotal t, zN κ (zR κ taBytes t))
abbrev U5 : Type := (Nat → Int32) × Int32 × Nat
def up5 (κ : zS) (t : Nat) : U5 := (zA κ (zR κ taBytes t), zI κ taLength t, zN κ (zR κ taBytes t))
def ut5 (T : T5) : U5 := (T.1, T.2.2.2.2.1, T.2.2.2.2.2.2)
theorem ut_5 {κ : zS} {t : Nat} : ut5 (tpT5 κ t) = up5 κ t := rfl
def tq5 (e : E5) : T5 := (e.2.1 taBytes, e.2.1 taKinds, e.2.1 taPlaces, e.2.1 taLengths, e.1 taLength, e.1 taTotal, e.2.2 taBytes)
theorem tq_ab5 {κ : zS} {p : Nat} : tq5 (ab5 κ p) = tpT5 κ (zR κ paTape p) := rfl
/-- stores -/
def stI5 (f : Nat) (x : Int32) (e : E5) : R5 Unit := .inl ((fun g => if g = f then x else e.1 g, e.2), ())
def sw5 (x : Int32) (e : E5) : R5 Unit := .inl ((fun g => if g = 1016 then x else e.1 g, fun g j => if g = 1015 ∧ ¬ j < x.toNatClampNeg then 0 else e.2.1 g j, e.2.2), ())
def sa5 (f i : Nat) (x : Int32) (e : E5) : R5 Unit := .inl ((e.1, fun g j => if g = f ∧ j = i then x else e.2.1 g j, e.2.2), ())
/-- a fault's code and place -/
def pl5 (t : Int32) (e : E5) : Int32 := if t < 0 then e.1 taLength else if e.1 taTotal ≤ t then e.1 taLength else e.2.1 taPlaces t.toNatClampNeg
def rv5 (f t : Int32) (e : E5) : Int32 × Int32 := (if e.1 paKind = 143 then 1 else f, pl5 (if e.1 paKind = 143 then e.1 paAt else t) e)
/-- the code's rows -/
def cl5 (s c : Int32) (e : E5) : Int32 := if s < 0 then -1 else if e.1 coStatements ≤ s then -1 else e.2.1 coRows (s * 11 + c).toNatClampNeg
def f5_Co_setColumn (s c x : Int32) (e : E5) : R5 Unit := if s < 0 then .inl (e, ()) else if e.1 coStatements ≤ s then .inl (e, ()) else sa5 coRows (s * 11 + c).toNatClampNeg x e
def f5_Co_emit (o a : Int32) (e : E5) : R5 Unit := .inl ((fun g => if g = 515 then e.1 515 + 1 else e.1 g, fun g j => if g = 507 ∧ j = (e.1 515).toNatClampNeg then o else if g = 508 ∧ j = (e.1 515).toNatClampNeg then a else e.2.1 g j, e.2.2), ())
def nr5 (len : Int32) (c : Nat) : Int32 := if c = 1 then 0 else if c = 3 then len else if c = 4 then 0 else -1
def f5_Co_addStatement (e : E5) : R5 Int32 := .inl ((fun g => if g = 513 then e.1 513 + 1 else e.1 g, fun g j => if g = 506 ∧ 11 * (e.1 513).toNatClampNeg ≤ j ∧ j < 11 * (e.1 513).toNatClampNeg + 11 then nr5 (e.1 515) (j - 11 * (e.1 513).toNatClampNeg) else e.2.1 g j, e.2.2), e.1 513)
def f5_Pa_hold (o : Int32) (e : E5) : R5 Unit := .inl ((fun g => if g = 1016 then e.1 1016 + 1 else e.1 g, fun g j => if g = 1015 ∧ j = (e.1 1016).toNatClampNeg then o else e.2.1 g j, e.2.2), ())
theorem al_r5 : ∀ g, g ∈ al5 → ∃ t, zr g = some t ∧ 20 ≤ t := by
  intro g hg
  have h : al5.all (fun g => match zr g with | some t => decide (20 ≤ t) | none => false) = true := by decide +kernel
  have z := List.all_eq_true.mp h g hg
  cases e : zr g with
  | none => rw [e] at z; cases z
  | some t => rw [e] at z; exact ⟨t, rfl, of_decide_eq_true z⟩
theorem al_d5 : ∀ g, g ∈ al5 → (g < 600 ∧ g / 100 = 5) ∨ (¬ g < 600 ∧ g < 1100 ∧ g / 100 = 10) ∨ (¬ g < 600 ∧ ¬ g < 1100 ∧ g / 100 = 13) := by decide
theorem al_t5 {C : zC} {n0 p g : Nat} {κ : zS} (W : zW C n0 κ) (T : zT κ p = 10) (hg : g ∈ al5) : zT κ (ow5 κ p g) = g / 100 := by
  unfold ow5
  rcases al_d5 g hg with ⟨a, b⟩ | ⟨a, b, c⟩ | ⟨a, b, c⟩
  · rw [if_pos a, b]; exact ty_paCode W T
  · rw [if_neg a, if_pos b, c]; exact T
  · rw [if_neg a, if_neg b, c]; exact ty_paTape W T
/-- rows of different fields are different -/
theorem al_n5 {C : zC} {n0 p f g : Nat} {κ : zS} (W : zW C n0 κ) (T : zT κ p = 10) (hf : f ∈ al5) (hg : g ∈ al5) (h : f ≠ g) : zR κ f (ow5 κ p f) ≠ zR κ g (ow5 κ p g) := by
  obtain ⟨t, a, b⟩ := al_r5 f hf
  obtain ⟨u, c, d⟩ := al_r5 g hg
  exact ow_ne W a b (al_t5 W T hf) c d (al_t5 W T hg) h
theorem fx_al5 : ∀ g, g ∈ fx5 → g ∈ al5 := by decide
theorem gr_al5 : ∀ g, g = 1015 ∨ g = 506 ∨ g = 507 ∨ g = 508 → g ∈ al5 := by
  intro g h
  rcases h with rfl | rfl | rfl | rfl <;> decide
theorem fx_gr5 : ∀ g, g ∈ fx5 → ¬ (g = 1015 ∨ g = 506 ∨ g = 507 ∨ g = 508) := by decide
/-- a record told by its members -/
theorem ab_mk5 {τ : zS} {p : Nat} {I : Nat → Int32} {A : Nat → Nat → Int32} {N : Nat → Nat} (hI : ∀ g, ai5 τ p g = I g) (hG : ∀ g, (g = 1015 ∨ g = 506 ∨ g = 507 ∨ g = 508) → ∀ j, (j < bd5 I g → zA τ (zR τ g (ow5 τ p g)) j = A g j) ∧ (¬ j < bd5 I g → A g j = 0)) (hF : ∀ g, g ∈ fx5 → zA τ (zR τ g (ow5 τ p g)) = A g ∧ zN τ (zR τ g (ow5 τ p g)) = N g) (hO : ∀ g, ¬ (g = 1015 ∨ g = 506 ∨ g = 507 ∨ g = 508) → g ∉ fx5 → A g = fun _ => 0) (hN : ∀ g, g ∉ fx5 → N g = 0) : ab5 τ p = (I, A, N) := by
  have e1 : ai5 τ p = I := funext hI
  unfold ab5
  rw [e1]
  refine Prod.ext rfl (Prod.ext (funext fun g => ?_) (funext fun g => ?_))
  · show (if _ then _ else _) = A g
    by_cases h : g = 1015 ∨ g = 506 ∨ g = 507 ∨ g = 508
    · rw [if_pos h]
      funext j
      by_cases hj : j < bd5 I g
      · rw [if_pos hj]; exact (hG g h j).1 hj
      · rw [if_neg hj]; exact ((hG g h j).2 hj).symm
    · rw [if_neg h]
      by_cases hf : g ∈ fx5
      · rw [if_pos hf]; exact (hF g hf).1
      · rw [if_neg hf]; exact (hO g h hf).symm
  · show (if _ then _ else _) = N g
    by_cases hf : g ∈ fx5
    · rw [if_pos hf]; exact (hF g hf).2
    · rw [if_neg hf]; exact (hN g hf).symm
theorem ab_G5 {κ : zS} {p g j : Nat} (h : g = 1015 ∨ g = 506 ∨ g = 507 ∨ g = 508) (hj : j < bd5 (ai5 κ p) g) : (ab5 κ p).2.1 g j = zA κ (zR κ g (ow5 κ p g)) j := by
  have e : (ab5 κ p).2.1 g = fun j => if j < bd5 (ai5 κ p) g then zA κ (zR κ g (ow5 κ p g)) j else 0 := if_pos h
  rw [e]
  exact if_pos hj
theorem ab_Z5 {κ : zS} {p g j : Nat} (h : g = 1015 ∨ g = 506 ∨ g = 507 ∨ g = 508) (hj : ¬ j < bd5 (ai5 κ p) g) : (ab5 κ p).2.1 g j = 0 := by
  have e : (ab5 κ p).2.1 g = fun j => if j < bd5 (ai5 κ p) g then zA κ (zR κ g (ow5 κ p g)) j else 0 := if_pos h
  rw [e]
  exact if_neg hj
theorem ab_F5 {κ : zS} {p g : Nat} (h : g ∈ fx5) : (ab5 κ p).2.1 g = zA κ (zR κ g (ow5 κ p g)) ∧ (ab5 κ p).2.2 g = zN κ (zR κ g (ow5 κ p g)) := by
  refine ⟨?_, if_pos h⟩
  show (if _ then _ else _) = _
  rw [if_neg (fx_gr5 g h)]
  exact if_pos h
theorem ab_O5 {κ : zS} {p g : Nat} (h : ¬ (g = 1015 ∨ g = 506 ∨ g = 507 ∨ g = 508)) (hf : g ∉ fx5) : (ab5 κ p).2.1 g = fun _ => 0 := by
  show (if _ then _ else _) = _
  rw [if_neg h]
  exact if_neg hf
theorem ab_N5 {κ : zS} {p g : Nat} (hf : g ∉ fx5) : (ab5 κ p).2.2 g = 0 := if_neg hf
theorem bd_c5 {I J : Nat → Int32} (h1 : I 1016 = J 1016) (h2 : I 513 = J 513) (h3 : I 515 = J 515) (g : Nat) : bd5 I g = bd5 J g := by unfold bd5; rw [h1, h2, h3]
theorem ua_t5 {κ : zS} {r i a : Nat} {x : Int32} : zT (ua κ r i x) a = zT κ a := rfl
theorem ui_t5 {κ : zS} {f b a : Nat} {x : Int32} : zT (ui κ f b x) a = zT κ a := rfl
/-- a number stored -/
theorem ab_ui5 {κ τ : zS} {p f : Nat} {x : Int32} (h : τ = ui κ f (ow5 κ p f) x) (hf : f ∈ in5) (h1 : f ≠ 1016 ∧ f ≠ 513 ∧ f ≠ 515) : stI5 f x (ab5 κ p) = .inl (ab5 τ p, ()) := by
  have e : ab5 τ p = (fun g => if g = f then x else (ab5 κ p).1 g, (ab5 κ p).2.1, (ab5 κ p).2.2) := by
    have hb : ∀ g, bd5 (fun g => if g = f then x else (ab5 κ p).1 g) g = bd5 (ai5 κ p) g := bd_c5 (if_neg (fun z => h1.1 z.symm)) (if_neg (fun z => h1.2.1 z.symm)) (if_neg (fun z => h1.2.2 z.symm))
    refine ab_mk5 (fun g => ?_) (fun g hg j => ⟨fun hj => ?_, fun hj => ?_⟩) (fun g hg => ?_) (fun g a b => ab_O5 a b) (fun g a => ab_N5 a)
    · subst h
      show (if g ∈ in5 then (if g = f ∧ ow5 κ p g = ow5 κ p f then x else zI κ g (ow5 κ p g)) else 0) = if g = f then x else (if g ∈ in5 then zI κ g (ow5 κ p g) else 0)
      by_cases z : g = f
      · subst z
        rw [if_pos hf, if_pos ⟨rfl, rfl⟩, if_pos rfl]
      · rw [if_neg z]
        by_cases y : g ∈ in5
        · rw [if_pos y, if_pos y, if_neg (fun q => z q.1)]
        · rw [if_neg y, if_neg y]
    · rw [hb] at hj
      rw [ab_G5 hg hj, h]
      rfl
    · rw [hb] at hj
      exact ab_Z5 hg hj
    · rw [(ab_F5 hg).1, (ab_F5 hg).2, h]
      exact ⟨rfl, rfl⟩
  rw [e]
  rfl
/-- fewer wait -/
theorem ab_uw5 {κ τ : zS} {p : Nat} {x : Int32} (h : τ = ui κ paWaits p x) (hx : x.toNatClampNeg ≤ (zI κ paWaits p).toNatClampNeg) : sw5 x (ab5 κ p) = .inl (ab5 τ p, ()) := by
  have e : ab5 τ p = (fun g => if g = 1016 then x else (ab5 κ p).1 g, fun g j => if g = 1015 ∧ ¬ j < x.toNatClampNeg then 0 else (ab5 κ p).2.1 g j, (ab5 κ p).2.2) := by
    have a16 : (ab5 κ p).1 1016 = zI κ paWaits p := rfl
    have hle : ∀ g j, j < bd5 (fun g => if g = 1016 then x else (ab5 κ p).1 g) g → j < bd5 (ai5 κ p) g := fun g j hj => by
      unfold bd5 at hj ⊢
      by_cases z : g = 1015
      · rw [if_pos z] at hj ⊢
        exact Nat.lt_of_lt_of_le hj hx
      · rw [if_neg z] at hj ⊢
        exact hj
    refine ab_mk5 (fun g => ?_) (fun g hg j => ⟨fun hj => ?_, fun hj => ?_⟩) (fun g hg => ?_) (fun g a b => ?_) (fun g a => ab_N5 a)
    · subst h
      show (if g ∈ in5 then (if g = paWaits ∧ ow5 κ p g = p then x else zI κ g (ow5 κ p g)) else 0) = if g = 1016 then x else (if g ∈ in5 then zI κ g (ow5 κ p g) else 0)
      by_cases z : g = 1016
      · subst z
        rw [if_pos (show 1016 ∈ in5 by decide), if_pos ⟨rfl, rfl⟩, if_pos rfl]
      · rw [if_neg z]
        by_cases y : g ∈ in5
        · rw [if_pos y, if_pos y, if_neg (fun q => z q.1)]
        · rw [if_neg y, if_neg y]
    · have z : ¬ (g = 1015 ∧ ¬ j < x.toNatClampNeg) := fun q => by
        unfold bd5 at hj
        rw [if_pos q.1] at hj
        exact q.2 hj
      rw [if_neg z, ab_G5 hg (hle g j hj), h]
      rfl
    · by_cases z : g = 1015 ∧ ¬ j < x.toNatClampNeg
      · exact if_pos z
      · rw [if_neg z]
        refine ab_Z5 hg (fun y => hj ?_)
        unfold bd5 at y ⊢
        by_cases w : g = 1015
        · rw [if_pos w]
          exact Classical.byContradiction (fun q => z ⟨w, q⟩)
        · rw [if_neg w] at y ⊢
          exact y
    · rw [(ab_F5 hg).2, h]
      refine ⟨?_, rfl⟩
      funext j
      rw [if_neg (fun q => fx_gr5 g hg (Or.inl q.1)), (ab_F5 hg).1]
      rfl
    · funext j
      rw [if_neg (fun q => a (Or.inl q.1)), ab_O5 a b]
  rw [e]
  rfl
/-- a row stored to -/
theorem ab_ua5 {C : zC} {n0 : Nat} {κ τ : zS} {p f i : Nat} {x : Int32} (W : zW C n0 κ) (T : zT κ p = 10) (h : τ = ua κ (zR κ f (ow5 κ p f)) i x) (hf : f ∈ fx5) : sa5 f i x (ab5 κ p) = .inl (ab5 τ p, ()) := by
  have e : ab5 τ p = ((ab5 κ p).1, fun g j => if g = f ∧ j = i then x else (ab5 κ p).2.1 g j, (ab5 κ p).2.2) := by
    have ne : ∀ g, g ∈ al5 → g ≠ f → zA τ (zR τ g (ow5 τ p g)) = zA κ (zR κ g (ow5 κ p g)) := fun g hg z => by
      subst h
      exact if_neg (al_n5 W T hg (fx_al5 f hf) z)
    refine ab_mk5 (fun g => by rw [h]; rfl) (fun g hg j => ?_) (fun g hg => ?_) (fun g a b => ?_) (fun g a => ab_N5 a)
    · have z : g ≠ f := fun q => fx_gr5 f hf (q ▸ hg)
      rw [if_neg (fun q => z q.1), ne g (gr_al5 g hg) z]
      exact ⟨fun hj => (ab_G5 hg hj).symm, fun hj => ab_Z5 hg hj⟩
    · refine ⟨?_, by rw [(ab_F5 hg).2, h]; rfl⟩
      by_cases z : g = f
      · subst z
        funext j
        rw [(ab_F5 hg).1]
        subst h
        show (if zR κ g (ow5 κ p g) = zR κ g (ow5 κ p g) then upd (zA κ (zR κ g (ow5 κ p g))) i x else _) j = _
        rw [if_pos rfl]
        by_cases y : j = i
        · rw [if_pos ⟨rfl, y⟩, y]
          exact upd_eq
        · rw [if_neg (fun q => y q.2)]
          exact upd_ne y
      · funext j
        rw [if_neg (fun q => z q.1), ne g (fx_al5 g hg) z, (ab_F5 hg).1]
    · funext j
      show (if g = f ∧ j = i then x else (ab5 κ p).2.1 g j) = 0
      rw [if_neg (fun (q : g = f ∧ j = i) => b (q.1 ▸ hf)), ab_O5 a b]
  rw [e]
  rfl
