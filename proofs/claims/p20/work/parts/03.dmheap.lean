/-! the small machine's heap: cells by their addresses, all of them; its steps hold over the kit's -/
abbrev dC : Type := (Nat × vp_A) ⊕ (Nat × List Value)
abbrev dH : Type := Nat × (Nat → Option dC)
def demb (cy : Nat → ClassId) : dC → va_E
  | .inl q => .inl (cy q.1, q.2)
  | .inr o => .inr o
def dR (D : va_G) (cl : List vw_C) (cy : Nat → ClassId) (h : dH) (H : Heap) : Prop := H.size = h.1 ∧ ∀ a e, h.2 a = some e → va_at D cl (a, demb cy e) H
def dupd (h : dH) (a : Nat) (e : dC) : dH := (h.1, fun b => if b = a then some e else h.2 b)
def dnew (h : dH) (e : dC) : dH := (h.1 + 1, fun b => if b = h.1 then some e else h.2 b)
def dA (h : dH) (q : Nat) : Prop := (h.2 q).isSome = true ∨ h.1 ≤ q
abbrev tyK (cy : Nat → ClassId) : List (ClassId × FieldType) := [(cy 0, .int), (cy 1, .byte), (cy 2, .long), (cy 3, .boolean), (cy 4, .object "ChanceWorks$Num"), (cy 5, .object "ChanceWorks$Ratio")]
/-- what holds of the tables all through -/
def dK (D : va_G) (cl : List vw_C) (cy : Nat → ClassId) (U : State) : Prop := va_K D cl (tyK cy) U ∧ va_AO "ChanceWorks$Num" U ∧ va_AO "ChanceWorks$Ratio" U
theorem dK.moved {D : va_G} {cl : List vw_C} {cy : Nat → ClassId} {u U : State} (hvm : u.vm.Alike U.vm) (h : dK D cl cy u) : dK D cl cy U := ⟨va_K.moved hvm h.1, va_AO.moved hvm h.2.1, va_AO.moved hvm h.2.2⟩
theorem dP1 {D : va_G} {cl : List vw_C} {q : Nat × va_E} {H : Heap} (h : va_at D cl q H) : va_P D cl [q] H := by
  intro k x hk
  cases k with
  | zero => cases hk; exact h
  | succ k => simp at hk
theorem dR_upd {D : va_G} {cl : List vw_C} {cy : Nat → ClassId} {h : dH} {H H1 : Heap} {a : Nat} {e : dC} (hR : dR D cl cy h H) (hat : va_at D cl (a, demb cy e) H1) (z : H1.size = H.size) (oq : ∀ q : Nat, q ≠ a → H1[q]? = H[q]?) : dR D cl cy (dupd h a e) H1 := by
  refine ⟨z.trans hR.1, fun b x hb => ?_⟩
  by_cases e9 : b = a
  · subst e9
    have hb : (if b = b then some e else h.2 b) = some x := hb
    rw [if_pos rfl] at hb
    cases hb
    exact hat
  · have hb : (if b = a then some e else h.2 b) = some x := hb
    rw [if_neg e9] at hb
    exact (hR.2 b x hb).kept (oq b e9)
theorem dR_new {D : va_G} {cl : List vw_C} {cy : Nat → ClassId} {h : dH} {H H1 : Heap} {e : dC} (hR : dR D cl cy h H) (hat : va_at D cl (h.1, demb cy e) H1) (z : H1.size = h.1 + 1) (oq : ∀ q : Nat, q < h.1 → H1[q]? = H[q]?) : dR D cl cy (dnew h e) H1 := by
  refine ⟨z, fun b x hb => ?_⟩
  by_cases e9 : b = h.1
  · subst e9
    have hb : (if h.1 = h.1 then some e else h.2 h.1) = some x := hb
    rw [if_pos rfl] at hb
    cases hb
    exact hat
  · have hb : (if b = h.1 then some e else h.2 b) = some x := hb
    rw [if_neg e9] at hb
    have h1 := hR.2 b x hb
    exact h1.kept (oq b (by have := h1.lt; rw [hR.1] at this; exact this))
theorem dA_upd {h : dH} {a : Nat} {e e' : dC} (ha : h.2 a = some e') (q : Nat) (hq : dA (dupd h a e) q) : dA h q := by
  rcases hq with hq | hq
  · by_cases e9 : q = a
    · subst e9; exact Or.inl (by rw [ha]; rfl)
    · have hq : ((if q = a then some e else h.2 q) : Option dC).isSome = true := hq
      rw [if_neg e9] at hq
      exact Or.inl hq
  · exact Or.inr hq
theorem dA_new {h : dH} {e : dC} (q : Nat) (hq : dA (dnew h e) q) : dA h q := by
  rcases hq with hq | hq
  · by_cases e9 : q = h.1
    · exact Or.inr (by rw [e9]; exact Nat.le_refl _)
    · have hq : ((if q = h.1 then some e else h.2 q) : Option dC).isSome = true := hq
      rw [if_neg e9] at hq
      exact Or.inl hq
  · exact Or.inr (Nat.le_trans (Nat.le_succ _) hq)
theorem dA_in {h : dH} {a : Nat} {e : dC} (ha : h.2 a = some e) : dA h a := Or.inl (by rw [ha]; rfl)
section DMH
variable {p : Program} {l : Launch} {e : Env} {R : Room} {s : State} {m : MethodId} {args : Array Value} {below : List Frame} {meth : Method} {c : Code} {H H0 : Heap} {locs : List Loc} {cells slots : Nat} {Q : State → Prop} {cc : ByteArray} {pc : Nat} {ls : Array Slot} {rest : List Value}
variable {D : va_G} {cl : List vw_C} {cy : Nat → ClassId} {h : dH} {A : Nat → Prop} {a : Nat}
theorem dr_get (hx : p.tables.exec = Jvm.exec) (hb : c.code = cc) {own C : String} {T : u_T} {N ci index : Nat} {Ts : List Cond} (hts : ∀ w ∈ Ts, w.before args s = true) (hin : ∀ w ∈ u_ws C T N, w ∈ Ts) (hown : s.vm.findClass own = some m.cls) (hK : dK D cl cy s) (hR : dR D cl cy h H) {fs : List Value} (he : h.2 a = some (.inr (ci, fs))) (hc : cl[ci]? = some (C, T, N)) {k : Nat} (hk : k < N) (hT : (T k).1 = C) (hlink : Cond.fieldLink own index C (T k).2.1 (T k).2.2.1 ∈ Ts) {v : Value} (hv : fs[k]? = some v) (hd : decode cc pc = .ok (.getfield index, 3))
    (kk : W p l e R s m args below meth c H locs cells slots Q (F0 m (pc + 3) ls (v :: rest))) : W p l e R s m args below meth c H locs cells slots Q (F0 m pc ls (.ref a :: rest)) :=
  va_get (D := D) (cl := cl) (tys := tyK cy) (ws := [(a, .inr (ci, fs))]) hx hb hts hin hown hK.1 (dP1 (hR.2 a _ he)) 0 rfl hc k hk (hts _ hlink) (fun x h9 => by rw [hT] at h9; exact h9) hv hd kk
theorem dr_put (hx : p.tables.exec = Jvm.exec) (hb : c.code = cc) {own C : String} {T : u_T} {N ci index : Nat} {Ts : List Cond} (hts : ∀ w ∈ Ts, w.before args s = true) (hin : ∀ w ∈ u_ws C T N, w ∈ Ts) (ty0 : Nat → FieldType) (hty : ∀ k, k < N → parseFieldDescriptor (T k).2.2.1 = some (ty0 k)) (hnm : ∀ a, a < N → ∀ b, b < N → a ≠ b → (T a).2.1 ≠ (T b).2.1) (hown : s.vm.findClass own = some m.cls) (hK : dK D cl cy s) (hR : dR D cl cy h H) (hS : va_S A H0 H locs) (hA : A a) {fs : List Value} (he : h.2 a = some (.inr (ci, fs))) (hc : cl[ci]? = some (C, T, N)) {k : Nat} (hk : k < N) (hT : (T k).1 = C) (hlink : Cond.fieldLink own index C (T k).2.1 (T k).2.2.1 ∈ Ts) (hfin : (T k).2.2.2 = false) {ty : FieldType} {v : Value} (hd1 : parseFieldDescriptor (T k).2.2.1 = some ty) (hn : narrow ty v = v) (hfit : fits ty v = true) (hl : k < fs.length) (hd : decode cc pc = .ok (.putfield index, 3))
    (kk : ∀ (H1 : Heap) (locs1 : List Loc), dR D cl cy (dupd h a (.inr (ci, fs.set k v))) H1 → va_S A H0 H1 locs1 → W p l e R s m args below meth c H1 locs1 cells slots Q (F0 m (pc + 3) ls rest)) : W p l e R s m args below meth c H locs cells slots Q (F0 m pc ls (v :: .ref a :: rest)) := by
  have hap := va_apart (own := own) (args := args) hts hin ty0 hty hnm hK.1 hc
  obtain ⟨r, h1, cell, q1, q2, q3, q4⟩ := hR.2 a _ he
  have hr : r = (C, T, N) := Option.some.inj (h1.symm.trans hc)
  subst hr
  obtain ⟨hSl, hfc, kC, hkC, hkind⟩ := hK.1.1 ci _ hc
  obtain ⟨cf, kf, fi, f, hi, hsl⟩ := hSl k hk
  have hlay := hts _ (hin _ (u_in_lay hk))
  unfold u_lay at hlay
  rw [if_neg (by rw [hfin]; decide)] at hlay
  have hst := (u_facts hfc hkC (u_lays hts hin hk) hi).1
  have h6 := u_store hfc hkC hkind hlay hi hd1 hn hfit
  have hi2 : s.fieldFound? C (T k).2.1 (T k).2.2.1 = some (cf, kf, fi, f) := by rw [hT] at hi; exact hi
  refine W.putK hx hb (f := f) ⟨hown, hts _ hlink, ⟨_, _, _, hi2⟩, hst⟩ (by rw [q2]; exact h6) q1 q3 (by rw [hsl]; exact k2_hasslot (q4 k hk)) rfl rfl hd fun H' e1 e2 e3 => ?_
  rw [hsl] at e1 ⊢
  exact kk H' _ (dR_upd hR ⟨_, hc, t_OB.to (V := updV (vp_V fs) k v) ⟨_, e1, q2, q3, t_set q4 hap hk v⟩ (fun j _ => vp_updV_set hl v j)⟩ e2 e3) (hS.put e2 e3 hA)
theorem dr_iald (hx : p.tables.exec = Jvm.exec) (hb : c.code = cc) (hK : dK D cl cy s) (hR : dR D cl cy h H) {n : Nat} {f : Nat → Int32} (ha : h.2 a = some (.inl (0, n, .inl f))) {i : Int32} (hin : vp_in i n) (hd : decode cc pc = .ok (.iaload, 1))
    (kk : W p l e R s m args below meth c H locs cells slots Q (F0 m (pc + 1) ls (.int (f i.toNatClampNeg) :: rest))) : W p l e R s m args below meth c H locs cells slots Q (F0 m pc ls (.int i :: .ref a :: rest)) :=
  va_iald (ws := [(a, .inl (cy 0, n, .inl f))]) hx hb hK.1 (dP1 (hR.2 a _ ha)) 0 0 rfl rfl hin hd kk
theorem dr_bald (hx : p.tables.exec = Jvm.exec) (hb : c.code = cc) (hK : dK D cl cy s) (hR : dR D cl cy h H) {n : Nat} {f : Nat → Int32} (ha : h.2 a = some (.inl (1, n, .inl f))) {i : Int32} (hin : vp_in i n) (hd : decode cc pc = .ok (.baload, 1))
    (kk : W p l e R s m args below meth c H locs cells slots Q (F0 m (pc + 1) ls (.int (f i.toNatClampNeg) :: rest))) : W p l e R s m args below meth c H locs cells slots Q (F0 m pc ls (.int i :: .ref a :: rest)) :=
  va_bald (ws := [(a, .inl (cy 1, n, .inl f))]) hx hb hK.1 (dP1 (hR.2 a _ ha)) 0 1 rfl rfl hin hd kk
theorem dr_zald (hx : p.tables.exec = Jvm.exec) (hb : c.code = cc) (hK : dK D cl cy s) (hR : dR D cl cy h H) {n : Nat} {f : Nat → Int32} (ha : h.2 a = some (.inl (3, n, .inl f))) {i : Int32} (hin : vp_in i n) (hd : decode cc pc = .ok (.baload, 1))
    (kk : W p l e R s m args below meth c H locs cells slots Q (F0 m (pc + 1) ls (.int (f i.toNatClampNeg) :: rest))) : W p l e R s m args below meth c H locs cells slots Q (F0 m pc ls (.int i :: .ref a :: rest)) :=
  va_zald (ws := [(a, .inl (cy 3, n, .inl f))]) hx hb hK.1 (dP1 (hR.2 a _ ha)) 0 3 rfl rfl hin hd kk
theorem dr_lald (hx : p.tables.exec = Jvm.exec) (hb : c.code = cc) (hK : dK D cl cy s) (hR : dR D cl cy h H) {n : Nat} {f : Nat → Int64} (ha : h.2 a = some (.inl (2, n, .inr (.inl f)))) {i : Int32} (hin : vp_in i n) (hd : decode cc pc = .ok (.laload, 1))
    (kk : W p l e R s m args below meth c H locs cells slots Q (F0 m (pc + 1) ls (.long (f i.toNatClampNeg) :: rest))) : W p l e R s m args below meth c H locs cells slots Q (F0 m pc ls (.int i :: .ref a :: rest)) :=
  va_lald (ws := [(a, .inl (cy 2, n, .inr (.inl f)))]) hx hb hK.1 (dP1 (hR.2 a _ ha)) 0 2 rfl rfl hin hd kk
theorem d_updI {f : Nat → Int32} {k : Nat} {x : Int32} : (fun j => Value.int (upd f k x j)) = updV (fun j => .int (f j)) k (.int x) := by
  funext q
  by_cases hq : q = k
  · simp [updV, upd, hq]
  · simp [updV, upd, hq]
theorem d_updL {f : Nat → Int64} {k : Nat} {x : Int64} : (fun j => Value.long (vp_updL f k x j)) = updV (fun j => .long (f j)) k (.long x) := by
  funext q
  by_cases hq : q = k
  · simp [updV, vp_updL, hq]
  · simp [updV, vp_updL, hq]
theorem d_nar {ty : FieldType} {x : Int32} (h : ty = .byte ∨ ty = .boolean) : narrow ty (.int x) = .int (vp_nar ty x) := by
  rcases h with rfl | rfl <;> rfl
theorem dr_iast (hx : p.tables.exec = Jvm.exec) (hb : c.code = cc) (hK : dK D cl cy s) (hR : dR D cl cy h H) (hS : va_S A H0 H locs) (hA : A a) {n : Nat} {f : Nat → Int32} (ha : h.2 a = some (.inl (0, n, .inl f))) {i x : Int32} (hin : vp_in i n) (hd : decode cc pc = .ok (.iastore, 1))
    (kk : ∀ (H1 : Heap) (locs1 : List Loc), dR D cl cy (dupd h a (.inl (0, n, .inl (upd f i.toNatClampNeg x)))) H1 → va_S A H0 H1 locs1 → W p l e R s m args below meth c H1 locs1 cells slots Q (F0 m (pc + 1) ls rest)) : W p l e R s m args below meth c H locs cells slots Q (F0 m pc ls (.int x :: .int i :: .ref a :: rest)) := by
  refine W.iast hx hb (hR.2 a _ ha) ((hK.1.2 0 _ rfl).1 n (fun j => .int (f j))) (fun q => by cases q) (by show ¬ (i < 0 ∨ (arrV _ _ _).slots.size ≤ _); rw [arrV_size]; exact hin) rfl rfl hd fun H1 e z oq => ?_
  refine kk H1 _ (dR_upd hR ?_ z oq) (hS.put z oq hA)
  show H1[a]? = some (vp_cell _ _)
  rw [e]
  show some ((vp_cell _ (n, .inl f)).setSlot _ _) = some (vp_cell _ (n, .inl _))
  rw [vp_cell_i, vp_cell_i, arrV_store, d_updI]
theorem dr_bast (hx : p.tables.exec = Jvm.exec) (hb : c.code = cc) (hK : dK D cl cy s) (hR : dR D cl cy h H) (hS : va_S A H0 H locs) (hA : A a) {n : Nat} {f : Nat → Int32} (ha : h.2 a = some (.inl (1, n, .inl f))) {i x : Int32} (hin : vp_in i n) (hd : decode cc pc = .ok (.bastore, 1))
    (kk : ∀ (H1 : Heap) (locs1 : List Loc), dR D cl cy (dupd h a (.inl (1, n, .inl (upd f i.toNatClampNeg (vp_nar .byte x))))) H1 → va_S A H0 H1 locs1 → W p l e R s m args below meth c H1 locs1 cells slots Q (F0 m (pc + 1) ls rest)) : W p l e R s m args below meth c H locs cells slots Q (F0 m pc ls (.int x :: .int i :: .ref a :: rest)) := by
  refine W.bast hx hb (hR.2 a _ ha) ((hK.1.2 1 _ rfl).1 n (fun j => .int (f j))) (fun q => by cases q) (by show ¬ (i < 0 ∨ (arrV _ _ _).slots.size ≤ _); rw [arrV_size]; exact hin) rfl rfl hd fun H1 e z oq => ?_
  refine kk H1 _ (dR_upd hR ?_ z oq) (hS.put z oq hA)
  show H1[a]? = some (vp_cell _ _)
  rw [e]
  show some ((vp_cell _ (n, .inl f)).setSlot _ _) = some (vp_cell _ (n, .inl _))
  rw [vp_cell_i, vp_cell_i, arrV_store, d_updI]
  rfl
theorem dr_zast (hx : p.tables.exec = Jvm.exec) (hb : c.code = cc) (hK : dK D cl cy s) (hR : dR D cl cy h H) (hS : va_S A H0 H locs) (hA : A a) {n : Nat} {f : Nat → Int32} (ha : h.2 a = some (.inl (3, n, .inl f))) {i x : Int32} (hin : vp_in i n) (hd : decode cc pc = .ok (.bastore, 1))
    (kk : ∀ (H1 : Heap) (locs1 : List Loc), dR D cl cy (dupd h a (.inl (3, n, .inl (upd f i.toNatClampNeg (vp_nar .boolean x))))) H1 → va_S A H0 H1 locs1 → W p l e R s m args below meth c H1 locs1 cells slots Q (F0 m (pc + 1) ls rest)) : W p l e R s m args below meth c H locs cells slots Q (F0 m pc ls (.int x :: .int i :: .ref a :: rest)) := by
  refine W.zast hx hb (hR.2 a _ ha) ((hK.1.2 3 _ rfl).1 n (fun j => .int (f j))) (fun q => by cases q) (by show ¬ (i < 0 ∨ (arrV _ _ _).slots.size ≤ _); rw [arrV_size]; exact hin) rfl rfl hd fun H1 e z oq => ?_
  refine kk H1 _ (dR_upd hR ?_ z oq) (hS.put z oq hA)
  show H1[a]? = some (vp_cell _ _)
  rw [e]
  show some ((vp_cell _ (n, .inl f)).setSlot _ _) = some (vp_cell _ (n, .inl _))
  rw [vp_cell_i, vp_cell_i, arrV_store, d_updI]
  rfl
theorem dr_last (hx : p.tables.exec = Jvm.exec) (hb : c.code = cc) (hK : dK D cl cy s) (hR : dR D cl cy h H) (hS : va_S A H0 H locs) (hA : A a) {n : Nat} {f : Nat → Int64} (ha : h.2 a = some (.inl (2, n, .inr (.inl f)))) {i : Int32} {x : Int64} (hin : vp_in i n) (hd : decode cc pc = .ok (.lastore, 1))
    (kk : ∀ (H1 : Heap) (locs1 : List Loc), dR D cl cy (dupd h a (.inl (2, n, .inr (.inl (vp_updL f i.toNatClampNeg x))))) H1 → va_S A H0 H1 locs1 → W p l e R s m args below meth c H1 locs1 cells slots Q (F0 m (pc + 1) ls rest)) : W p l e R s m args below meth c H locs cells slots Q (F0 m pc ls (.long x :: .int i :: .ref a :: rest)) := by
  refine W.last hx hb (hR.2 a _ ha) ((hK.1.2 2 _ rfl).1 n (fun j => .long (f j))) (fun q => by cases q) (by show ¬ (i < 0 ∨ (arrV _ _ _).slots.size ≤ _); rw [arrV_size]; exact hin) rfl rfl hd fun H1 e z oq => ?_
  refine kk H1 _ (dR_upd hR ?_ z oq) (hS.put z oq hA)
  show H1[a]? = some (vp_cell _ _)
  rw [e]
  show some ((vp_cell _ (n, .inr (.inl f))).setSlot _ _) = some (vp_cell _ (n, .inr (.inl _)))
  rw [vp_cell_l, vp_cell_l, arrV_store, d_updL]
def dty : Nat → Option FieldType
  | 0 => some .int | 1 => some .byte | 2 => some .long | 3 => some .boolean | 4 => some (.object "ChanceWorks$Num") | 5 => some (.object "ChanceWorks$Ratio") | _ => none
theorem dty_K {t : Nat} {ty : FieldType} (h : dty t = some ty) : (tyK cy)[t]? = some (cy t, ty) := by
  match t, h with
  | 0, h => cases h; rfl
  | 1, h => cases h; rfl
  | 2, h => cases h; rfl
  | 3, h => cases h; rfl
  | 4, h => cases h; rfl
  | 5, h => cases h; rfl
theorem dr_alen (hx : p.tables.exec = Jvm.exec) (hb : c.code = cc) (hK : dK D cl cy s) (hR : dR D cl cy h H) {t : Nat} {x : vp_A} (ha : h.2 a = some (.inl (t, x))) {ty : FieldType} (ht : dty t = some ty) (hd : decode cc pc = .ok (.arraylength, 1))
    (kk : W p l e R s m args below meth c H locs cells slots Q (F0 m (pc + 1) ls (.int (Int32.ofNat x.1) :: rest))) : W p l e R s m args below meth c H locs cells slots Q (F0 m pc ls (.ref a :: rest)) :=
  va_alen (ws := [(a, .inl (cy t, x))]) hx hb hK.1 (dP1 (hR.2 a _ ha)) 0 t rfl (dty_K ht) rfl hd kk
def dnty : ArrayType → Option (Nat × ((Nat → Int32) ⊕ (Nat → Int64) ⊕ (Nat → UInt32) ⊕ (Nat → UInt64) ⊕ (Nat → Option Nat)))
  | .int => some (0, .inl fun _ => 0) | .byte => some (1, .inl fun _ => 0) | .long => some (2, .inr (.inl fun _ => 0)) | .boolean => some (3, .inl fun _ => 0) | _ => none
theorem dr_newa (hx : p.tables.exec = Jvm.exec) (hb : c.code = cc) (hK : dK D cl cy s) (hR : dR D cl cy h H) (hS : va_S A H0 H locs) {at0 : ArrayType} (harr : (Cond.arrayClass (newarray.typeOf at0)).before args s = true) {t : Nat} {z0 : (Nat → Int32) ⊕ (Nat → Int64) ⊕ (Nat → UInt32) ⊕ (Nat → UInt64) ⊕ (Nat → Option Nat)} (ht : dnty at0 = some (t, z0)) {n : Int32} (hn : ¬ n < 0) (hby : n.toNatClampNeg * componentBytes (newarray.typeOf at0) ≤ 536870912) (hce : cells + 1 ≤ R.cells) (hsl : slots + n.toNatClampNeg ≤ R.slots) (hd : decode cc pc = .ok (.newarray at0, 2))
    (kk : ∀ (H1 : Heap), dR D cl cy (dnew h (.inl (t, n.toNatClampNeg, z0))) H1 → va_S A H0 H1 locs → W p l e R s m args below meth c H1 locs (cells + 1) (slots + n.toNatClampNeg) Q (F0 m (pc + 2) ls (.ref h.1 :: rest))) : W p l e R s m args below meth c H locs cells slots Q (F0 m pc ls (.int n :: rest)) := by
  refine va_newaK hx hb harr rfl hd rfl hn rfl hby hce hsl hR.1 fun H1 cA e1 z1 o1 hAr hNm => ?_
  have hS1 : va_S A H0 H1 locs := ⟨Nat.le_trans hS.1 (by rw [z1, hR.1]; exact Nat.le_succ _), fun x h1 h2 => (o1 x (by rw [← hR.1]; exact Nat.lt_of_lt_of_le h1 hS.1)).trans (hS.2.1 x h1 h2), hS.2.2⟩
  refine kk H1 (dR_new hR ?_ z1 o1) hS1
  show H1[h.1]? = some (vp_cell _ _)
  rw [e1]
  cases at0 with
  | int =>
    cases ht
    have : cA = cy 0 := Option.some.inj (hNm.symm.trans (hK.1.2 0 _ rfl).2)
    subst this; rfl
  | byte =>
    cases ht
    have : cA = cy 1 := Option.some.inj (hNm.symm.trans (hK.1.2 1 _ rfl).2)
    subst this; rfl
  | long =>
    cases ht
    have : cA = cy 2 := Option.some.inj (hNm.symm.trans (hK.1.2 2 _ rfl).2)
    subst this; rfl
  | boolean =>
    cases ht
    have : cA = cy 3 := Option.some.inj (hNm.symm.trans (hK.1.2 3 _ rfl).2)
    subst this; rfl
  | _ => cases ht
end DMH
