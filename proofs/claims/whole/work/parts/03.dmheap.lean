/-! the small machine's heap: cells by their addresses, all of them; its steps hold over the kit's -/
abbrev dC : Type := (Nat × vp_A) ⊕ (Nat × List Value)
/-- how many cells there are (if that is known), and those that are known -/
abbrev dH : Type := Option Nat × (Nat → Option dC)
def demb (cy : Nat → ClassId) : dC → va_E
  | .inl q => .inl (cy q.1, q.2)
  | .inr o => .inr o
def dR (D : va_G) (cl : List vw_C) (cy : Nat → ClassId) (h : dH) (H : Heap) : Prop := (∀ n, h.1 = some n → H.size = n) ∧ ∀ a e, h.2 a = some e → va_at D cl (a, demb cy e) H
def dupd (h : dH) (a : Nat) (e : dC) : dH := (h.1, fun b => if b = a then some e else h.2 b)
def dnew (h : dH) (n : Nat) (e : dC) : dH := (some (n + 1), fun b => if b = n then some e else h.2 b)
abbrev tyK (cy : Nat → ClassId) : List (ClassId × FieldType) := [(cy 0, .int), (cy 1, .byte), (cy 2, .long), (cy 3, .boolean), (cy 4, .object "ChanceWorks$Num"), (cy 5, .object "ChanceWorks$Ratio")]
/-- what holds of the tables all through -/
def dK (D : va_G) (cl : List vw_C) (cy : Nat → ClassId) (U : State) : Prop := va_K D cl (tyK cy) U ∧ va_AO "ChanceWorks$Num" U ∧ va_AO "ChanceWorks$Ratio" U
theorem dK.moved {D : va_G} {cl : List vw_C} {cy : Nat → ClassId} {u U : State} (hvm : u.vm.Alike U.vm) (h : dK D cl cy u) : dK D cl cy U := ⟨va_K.moved hvm h.1, va_AO.moved hvm h.2.1, va_AO.moved hvm h.2.2⟩
theorem dP1 {D : va_G} {cl : List vw_C} {q : Nat × va_E} {H : Heap} (h : va_at D cl q H) : va_P D cl [q] H := by
  intro k x hk
  cases k with
  | zero => cases hk; exact h
  | succ k => simp at hk
theorem dR_upd {D : va_G} {cl : List vw_C} {cy : Nat → ClassId} {h : dH} {H H1 : Heap} {a : Nat} {e : dC} (hR : dR D cl cy h H) (hat : va_at D cl (a, demb cy e) H1) (z : H1.size = H.size) (oq : ∀ q : Nat, q ≠ a → H1[q]? = H[q]?) : dR D cl cy (dupd h a e) H1 := by
  refine ⟨fun n hn => z.trans (hR.1 n hn), fun b x hb => ?_⟩
  by_cases e9 : b = a
  · subst e9
    have hb : (if b = b then some e else h.2 b) = some x := hb
    rw [if_pos rfl] at hb
    cases hb
    exact hat
  · have hb : (if b = a then some e else h.2 b) = some x := hb
    rw [if_neg e9] at hb
    exact (hR.2 b x hb).kept (oq b e9)
theorem dR_new {D : va_G} {cl : List vw_C} {cy : Nat → ClassId} {h : dH} {n : Nat} {H H1 : Heap} {e : dC} (hR : dR D cl cy h H) (hn : h.1 = some n) (hat : va_at D cl (n, demb cy e) H1) (z : H1.size = n + 1) (oq : ∀ q : Nat, q < n → H1[q]? = H[q]?) : dR D cl cy (dnew h n e) H1 := by
  refine ⟨fun k hk => by cases hk; exact z, fun b x hb => ?_⟩
  by_cases e9 : b = n
  · subst e9
    have hb : (if b = b then some e else h.2 b) = some x := hb
    rw [if_pos rfl] at hb
    cases hb
    exact hat
  · have hb : (if b = n then some e else h.2 b) = some x := hb
    rw [if_neg e9] at hb
    have h1 := hR.2 b x hb
    exact h1.kept (oq b (by have := h1.lt; rw [hR.1 n hn] at this; exact this))
section DMH
variable {p : Program} {l : Launch} {e : Env} {R : Room} {s : State} {m : MethodId} {args : Array Value} {below : List Frame} {meth : Method} {c : Code} {H H0 : Heap} {locs : List Loc} {cells slots : Nat} {Q : State → Prop} {cc : ByteArray} {pc : Nat} {ls : Array Slot} {rest : List Value}
variable {D : va_G} {cl : List vw_C} {cy : Nat → ClassId} {h : dH} {A : Nat → Prop} {a : Nat}
theorem dr_get (hx : p.tables.exec = Jvm.exec) (hb : c.code = cc) {own C : String} {T : u_T} {N ci index : Nat} {Ts : List Cond} (hts : ∀ w ∈ Ts, w.before args s = true) (hin : ∀ w ∈ u_ws C T N, w ∈ Ts) (hown : s.vm.findClass own = some m.cls) (hK : dK D cl cy s) (hR : dR D cl cy h H) {fs : List Value} (he : h.2 a = some (.inr (ci, fs))) (hc : cl[ci]? = some (C, T, N)) {k : Nat} (hk : k < N) (hT : (T k).1 = C) (hlink : Cond.fieldLink own index C (T k).2.1 (T k).2.2.1 ∈ Ts) {v : Value} (hv : fs[k]? = some v) (hd : decode cc pc = .ok (.getfield index, 3))
    (kk : W p l e R s m args below meth c H locs cells slots Q (F0 m (pc + 3) ls (v :: rest))) : W p l e R s m args below meth c H locs cells slots Q (F0 m pc ls (.ref a :: rest)) :=
  va_get (D := D) (cl := cl) (tys := tyK cy) (ws := [(a, .inr (ci, fs))]) hx hb hts hin hown hK.1 (dP1 (hR.2 a _ he)) 0 rfl hc k hk (hts _ hlink) (fun x h9 => by rw [hT] at h9; exact h9) hv hd kk
theorem dr_put (hx : p.tables.exec = Jvm.exec) (hb : c.code = cc) {own C : String} {T : u_T} {N ci index : Nat} {Ts : List Cond} (hts : ∀ w ∈ Ts, w.before args s = true) (hin : ∀ w ∈ u_ws C T N, w ∈ Ts) (ty0 : Nat → FieldType) (hty : ∀ k, k < N → parseFieldDescriptor (T k).2.2.1 = some (ty0 k)) (hnm : ∀ a, a < N → ∀ b, b < N → a ≠ b → (T a).2.1 ≠ (T b).2.1) (hown : s.vm.findClass own = some m.cls) (hK : dK D cl cy s) (hR : dR D cl cy h H) (hS : va_S A H0 H locs) (hA : A a) {fs : List Value} (he : h.2 a = some (.inr (ci, fs))) (hc : cl[ci]? = some (C, T, N)) {k : Nat} (hk : k < N) (hT : (T k).1 = C) (hlink : Cond.fieldLink own index C (T k).2.1 (T k).2.2.1 ∈ Ts) (hfin : (T k).2.2.2 = false) {ty : FieldType} {v : Value} (hd1 : parseFieldDescriptor (T k).2.2.1 = some ty) (hn : narrow ty v = v) (hfit : fits ty v = true) (hl : k < fs.length) (hd : decode cc pc = .ok (.putfield index, 3))
    (kk : ∀ (H1 : Heap) (locs1 : List Loc), dR D cl cy (dupd h a (.inr (ci, fs.set k v))) H1 → va_S A H0 H1 locs1 → W p l e R s m args below meth c H1 locs1 cells slots Q (F0 m (pc + 3) ls rest)) : W p l e R s m args below meth c H locs cells slots Q (F0 m pc ls (v :: .ref a :: rest)) := by
  have hap := va_apart (own := own) (args := args) hts hin ty0 hty hnm hK.1 hc
  obtain ⟨r, h1, cell, q1, q2, q3, q4⟩ := hR.2 a _ he
  have hr : r = (C, T, N) := Option.some.inj (h1.symm.trans hc)
  subst hr
  obtain ⟨hSl, hfc, kC, hkC, hkind⟩ := hK.1.1 ci _ hc
  obtain ⟨cf, kf, fi, f, hi, hsl⟩ := hSl k hk
  have hlay := hts _ (hin _ (u_in_lay hk))
  unfold u_lay at hlay
  rw [if_neg (by rw [hfin]; decide)] at hlay
  have hst := (u_facts hfc hkC (u_lays hts hin hk) hi).1
  have h6 := u_store hfc hkC hkind hlay hi hd1 hn hfit
  have hi2 : s.fieldFound? C (T k).2.1 (T k).2.2.1 = some (cf, kf, fi, f) := by rw [hT] at hi; exact hi
  refine W.putK hx hb (f := f) ⟨hown, hts _ hlink, ⟨_, _, _, hi2⟩, hst⟩ (by rw [q2]; exact h6) q1 q3 (by rw [hsl]; exact k2_hasslot (q4 k hk)) rfl rfl hd fun H' e1 e2 e3 => ?_
  rw [hsl] at e1 ⊢
  exact kk H' _ (dR_upd hR ⟨_, hc, t_OB.to (V := updV (vp_V fs) k v) ⟨_, e1, q2, q3, t_set q4 hap hk v⟩ (fun j _ => vp_updV_set hl v j)⟩ e2 e3) (hS.put e2 e3 hA)
theorem dr_iald (hx : p.tables.exec = Jvm.exec) (hb : c.code = cc) (hK : dK D cl cy s) (hR : dR D cl cy h H) {n : Nat} {f : Nat → Int32} (ha : h.2 a = some (.inl (0, n, .inl f))) {i : Int32} (hin : vp_in i n) (hd : decode cc pc = .ok (.iaload, 1))
    (kk : W p l e R s m args below meth c H locs cells slots Q (F0 m (pc + 1) ls (.int (f i.toNatClampNeg) :: rest))) : W p l e R s m args below meth c H locs cells slots Q (F0 m pc ls (.int i :: .ref a :: rest)) :=
  va_iald (ws := [(a, .inl (cy 0, n, .inl f))]) hx hb hK.1 (dP1 (hR.2 a _ ha)) 0 0 rfl rfl hin hd kk
theorem dr_bald (hx : p.tables.exec = Jvm.exec) (hb : c.code = cc) (hK : dK D cl cy s) (hR : dR D cl cy h H) {n : Nat} {f : Nat → Int32} (ha : h.2 a = some (.inl (1, n, .inl f))) {i : Int32} (hin : vp_in i n) (hd : decode cc pc = .ok (.baload, 1))
    (kk : W p l e R s m args below meth c H locs cells slots Q (F0 m (pc + 1) ls (.int (f i.toNatClampNeg) :: rest))) : W p l e R s m args below meth c H locs cells slots Q (F0 m pc ls (.int i :: .ref a :: rest)) :=
  va_bald (ws := [(a, .inl (cy 1, n, .inl f))]) hx hb hK.1 (dP1 (hR.2 a _ ha)) 0 1 rfl rfl hin hd kk
theorem dr_zald (hx : p.tables.exec = Jvm.exec) (hb : c.code = cc) (hK : dK D cl cy s) (hR : dR D cl cy h H) {n : Nat} {f : Nat → Int32} (ha : h.2 a = some (.inl (3, n, .inl f))) {i : Int32} (hin : vp_in i n) (hd : decode cc pc = .ok (.baload, 1))
    (kk : W p l e R s m args below meth c H locs cells slots Q (F0 m (pc + 1) ls (.int (f i.toNatClampNeg) :: rest))) : W p l e R s m args below meth c H locs cells slots Q (F0 m pc ls (.int i :: .ref a :: rest)) :=
  va_zald (ws := [(a, .inl (cy 3, n, .inl f))]) hx hb hK.1 (dP1 (hR.2 a _ ha)) 0 3 rfl rfl hin hd kk
theorem dr_lald (hx : p.tables.exec = Jvm.exec) (hb : c.code = cc) (hK : dK D cl cy s) (hR : dR D cl cy h H) {n : Nat} {f : Nat → Int64} (ha : h.2 a = some (.inl (2, n, .inr (.inl f)))) {i : Int32} (hin : vp_in i n) (hd : decode cc pc = .ok (.laload, 1))
    (kk : W p l e R s m args below meth c H locs cells slots Q (F0 m (pc + 1) ls (.long (f i.toNatClampNeg) :: rest))) : W p l e R s m args below meth c H locs cells slots Q (F0 m pc ls (.int i :: .ref a :: rest)) :=
  va_lald (ws := [(a, .inl (cy 2, n, .inr (.inl f)))]) hx hb hK.1 (dP1 (hR.2 a _ ha)) 0 2 rfl rfl hin hd kk
theorem d_updI {f : Nat → Int32} {k : Nat} {x : Int32} : (fun j => Value.int (upd f k x j)) = updV (fun j => .int (f j)) k (.int x) := by
  funext q
  by_cases hq : q = k
  · simp [updV, upd, hq]
  · simp [updV, upd, hq]
theorem d_updL {f : Nat → Int64} {k : Nat} {x : Int64} : (fun j => Value.long (vp_updL f k x j)) = updV (fun j => .long (f j)) k (.long x) := by
  funext q
  by_cases hq : q = k
  · simp [updV, vp_updL, hq]
  · simp [updV, vp_updL, hq]
theorem d_nar {ty : FieldType} {x : Int32} (h : ty = .byte ∨ ty = .boolean) : narrow ty (.int x) = .int (vp_nar ty x) := by
  rcases h with rfl | rfl <;> rfl
theorem dr_iast (hx : p.tables.exec = Jvm.exec) (hb : c.code = cc) (hK : dK D cl cy s) (hR : dR D cl cy h H) (hS : va_S A H0 H locs) (hA : A a) {n : Nat} {f : Nat → Int32} (ha : h.2 a = some (.inl (0, n, .inl f))) {i x : Int32} (hin : vp_in i n) (hd : decode cc pc = .ok (.iastore, 1))
    (kk : ∀ (H1 : Heap) (locs1 : List Loc), dR D cl cy (dupd h a (.inl (0, n, .inl (upd f i.toNatClampNeg x)))) H1 → va_S A H0 H1 locs1 → W p l e R s m args below meth c H1 locs1 cells slots Q (F0 m (pc + 1) ls rest)) : W p l e R s m args below meth c H locs cells slots Q (F0 m pc ls (.int x :: .int i :: .ref a :: rest)) := by
  refine W.iast hx hb (hR.2 a _ ha) ((hK.1.2 0 _ rfl).1 n (fun j => .int (f j))) (fun q => by cases q) (by show ¬ (i < 0 ∨ (arrV _ _ _).slots.size ≤ _); rw [arrV_size]; exact hin) rfl rfl hd fun H1 e z oq => ?_
  refine kk H1 _ (dR_upd hR ?_ z oq) (hS.put z oq hA)
  show H1[a]? = some (vp_cell _ _)
  rw [e]
  show some ((vp_cell _ (n, .inl f)).setSlot _ _) = some (vp_cell _ (n, .inl _))
  rw [vp_cell_i, vp_cell_i, arrV_store, d_updI]
theorem dr_bast (hx : p.tables.exec = Jvm.exec) (hb : c.code = cc) (hK : dK D cl cy s) (hR : dR D cl cy h H) (hS : va_S A H0 H locs) (hA : A a) {n : Nat} {f : Nat → Int32} (ha : h.2 a = some (.inl (1, n, .inl f))) {i x : Int32} (hin : vp_in i n) (hd : decode cc pc = .ok (.bastore, 1))
    (kk : ∀ (H1 : Heap) (locs1 : List Loc), dR D cl cy (dupd h a (.inl (1, n, .inl (upd f i.toNatClampNeg (vp_nar .byte x))))) H1 → va_S A H0 H1 locs1 → W p l e R s m args below meth c H1 locs1 cells slots Q (F0 m (pc + 1) ls rest)) : W p l e R s m args below meth c H locs cells slots Q (F0 m pc ls (.int x :: .int i :: .ref a :: rest)) := by
  refine W.bast hx hb (hR.2 a _ ha) ((hK.1.2 1 _ rfl).1 n (fun j => .int (f j))) (fun q => by cases q) (by show ¬ (i < 0 ∨ (arrV _ _ _).slots.size ≤ _); rw [arrV_size]; exact hin) rfl rfl hd fun H1 e z oq => ?_
  refine kk H1 _ (dR_upd hR ?_ z oq) (hS.put z oq hA)
  show H1[a]? = some (vp_cell _ _)
  rw [e]
  show some ((vp_cell _ (n, .inl f)).setSlot _ _) = some (vp_cell _ (n, .inl _))
  rw [vp_cell_i, vp_cell_i, arrV_store, d_updI]
  rfl
theorem dr_zast (hx : p.tables.exec = Jvm.exec) (hb : c.code = cc) (hK : dK D cl cy s) (hR : dR D cl cy h H) (hS : va_S A H0 H locs) (hA : A a) {n : Nat} {f : Nat → Int32} (ha : h.2 a = some (.inl (3, n, .inl f))) {i x : Int32} (hin : vp_in i n) (hd : decode cc pc = .ok (.bastore, 1))
    (kk : ∀ (H1 : Heap) (locs1 : List Loc), dR D cl cy (dupd h a (.inl (3, n, .inl (upd f i.toNatClampNeg (vp_nar .boolean x))))) H1 → va_S A H0 H1 locs1 → W p l e R s m args below meth c H1 locs1 cells slots Q (F0 m (pc + 1) ls rest)) : W p l e R s m args below meth c H locs cells slots Q (F0 m pc ls (.int x :: .int i :: .ref a :: rest)) := by
  refine W.zast hx hb (hR.2 a _ ha) ((hK.1.2 3 _ rfl).1 n (fun j => .int (f j))) (fun q => by cases q) (by show ¬ (i < 0 ∨ (arrV _ _ _).slots.size ≤ _); rw [arrV_size]; exact hin) rfl rfl hd fun H1 e z oq => ?_
  refine kk H1 _ (dR_upd hR ?_ z oq) (hS.put z oq hA)
  show H1[a]? = some (vp_cell _ _)
  rw [e]
  show some ((vp_cell _ (n, .inl f)).setSlot _ _) = some (vp_cell _ (n, .inl _))
  rw [vp_cell_i, vp_cell_i, arrV_store, d_updI]
  rfl
theorem dr_last (hx : p.tables.exec = Jvm.exec) (hb : c.code = cc) (hK : dK D cl cy s) (hR : dR D cl cy h H) (hS : va_S A H0 H locs) (hA : A a) {n : Nat} {f : Nat → Int64} (ha : h.2 a = some (.inl (2, n, .inr (.inl f)))) {i : Int32} {x : Int64} (hin : vp_in i n) (hd : decode cc pc = .ok (.lastore, 1))
    (kk : ∀ (H1 : Heap) (locs1 : List Loc), dR D cl cy (dupd h a (.inl (2, n, .inr (.inl (vp_updL f i.toNatClampNeg x))))) H1 → va_S A H0 H1 locs1 → W p l e R s m args below meth c H1 locs1 cells slots Q (F0 m (pc + 1) ls rest)) : W p l e R s m args below meth c H locs cells slots Q (F0 m pc ls (.long x :: .int i :: .ref a :: rest)) := by
  refine W.last hx hb (hR.2 a _ ha) ((hK.1.2 2 _ rfl).1 n (fun j => .long (f j))) (fun q => by cases q) (by show ¬ (i < 0 ∨ (arrV _ _ _).slots.size ≤ _); rw [arrV_size]; exact hin) rfl rfl hd fun H1 e z oq => ?_
  refine kk H1 _ (dR_upd hR ?_ z oq) (hS.put z oq hA)
  show H1[a]? = some (vp_cell _ _)
  rw [e]
  show some ((vp_cell _ (n, .inr (.inl f))).setSlot _ _) = some (vp_cell _ (n, .inr (.inl _)))
  rw [vp_cell_l, vp_cell_l, arrV_store, d_updL]
def dty : Nat → Option FieldType
  | 0 => some .int | 1 => some .byte | 2 => some .long | 3 => some .boolean | 4 => some (.object "ChanceWorks$Num") | 5 => some (.object "ChanceWorks$Ratio") | _ => none
theorem dty_K {t : Nat} {ty : FieldType} (h : dty t = some ty) : (tyK cy)[t]? = some (cy t, ty) := by
  match t, h with
  | 0, h => cases h; rfl
  | 1, h => cases h; rfl
  | 2, h => cases h; rfl
  | 3, h => cases h; rfl
  | 4, h => cases h; rfl
  | 5, h => cases h; rfl
theorem dr_alen (hx : p.tables.exec = Jvm.exec) (hb : c.code = cc) (hK : dK D cl cy s) (hR : dR D cl cy h H) {t : Nat} {x : vp_A} (ha : h.2 a = some (.inl (t, x))) {ty : FieldType} (ht : dty t = some ty) (hd : decode cc pc = .ok (.arraylength, 1))
    (kk : W p l e R s m args below meth c H locs cells slots Q (F0 m (pc + 1) ls (.int (Int32.ofNat x.1) :: rest))) : W p l e R s m args below meth c H locs cells slots Q (F0 m pc ls (.ref a :: rest)) :=
  va_alen (ws := [(a, .inl (cy t, x))]) hx hb hK.1 (dP1 (hR.2 a _ ha)) 0 t rfl (dty_K ht) rfl hd kk
def dnty : ArrayType → Option (Nat × ((Nat → Int32) ⊕ (Nat → Int64) ⊕ (Nat → UInt32) ⊕ (Nat → UInt64) ⊕ (Nat → Option Nat)))
  | .int => some (0, .inl fun _ => 0) | .byte => some (1, .inl fun _ => 0) | .long => some (2, .inr (.inl fun _ => 0)) | .boolean => some (3, .inl fun _ => 0) | _ => none
theorem dr_newa (hx : p.tables.exec = Jvm.exec) (hb : c.code = cc) (hK : dK D cl cy s) (hR : dR D cl cy h H) (hS : va_S A H0 H locs) {w : Nat} (hw : h.1 = some w) {at0 : ArrayType} (harr : (Cond.arrayClass (newarray.typeOf at0)).before args s = true) {t : Nat} {z0 : (Nat → Int32) ⊕ (Nat → Int64) ⊕ (Nat → UInt32) ⊕ (Nat → UInt64) ⊕ (Nat → Option Nat)} (ht : dnty at0 = some (t, z0)) {n : Int32} (hn : ¬ n < 0) (hby : n.toNatClampNeg * componentBytes (newarray.typeOf at0) ≤ 536870912) (hce : cells + 1 ≤ R.cells) (hsl : slots + n.toNatClampNeg ≤ R.slots) (hd : decode cc pc = .ok (.newarray at0, 2))
    (kk : ∀ (H1 : Heap), dR D cl cy (dnew h w (.inl (t, n.toNatClampNeg, z0))) H1 → va_S A H0 H1 locs → W p l e R s m args below meth c H1 locs (cells + 1) (slots + n.toNatClampNeg) Q (F0 m (pc + 2) ls (.ref w :: rest))) : W p l e R s m args below meth c H locs cells slots Q (F0 m pc ls (.int n :: rest)) := by
  refine va_newaK hx hb harr rfl hd rfl hn rfl hby hce hsl (hR.1 w hw) fun H1 cA e1 z1 o1 hAr hNm => ?_
  have hS1 : va_S A H0 H1 locs := ⟨Nat.le_trans hS.1 (by rw [z1, hR.1 w hw]; exact Nat.le_succ _), fun x h1 h2 => (o1 x (by rw [← hR.1 w hw]; exact Nat.lt_of_lt_of_le h1 hS.1)).trans (hS.2.1 x h1 h2), hS.2.2⟩
  refine kk H1 (dR_new hR hw ?_ z1 o1) hS1
  show H1[w]? = some (vp_cell _ _)
  rw [e1]
  cases at0 with
  | int =>
    cases ht
    have : cA = cy 0 := Option.some.inj (hNm.symm.trans (hK.1.2 0 _ rfl).2)
    subst this; rfl
  | byte =>
    cases ht
    have : cA = cy 1 := Option.some.inj (hNm.symm.trans (hK.1.2 1 _ rfl).2)
    subst this; rfl
  | long =>
    cases ht
    have : cA = cy 2 := Option.some.inj (hNm.symm.trans (hK.1.2 2 _ rfl).2)
    subst this; rfl
  | boolean =>
    cases ht
    have : cA = cy 3 := Option.some.inj (hNm.symm.trans (hK.1.2 3 _ rfl).2)
    subst this; rfl
  | _ => cases ht
theorem dr_putF (hx : p.tables.exec = Jvm.exec) (hb : c.code = cc) {own C : String} {T : u_T} {N ci index : Nat} {Ts : List Cond} (hts : ∀ w ∈ Ts, w.before args s = true) (hin : ∀ w ∈ u_ws C T N, w ∈ Ts) (ty0 : Nat → FieldType) (hty : ∀ k, k < N → parseFieldDescriptor (T k).2.2.1 = some (ty0 k)) (hnm : ∀ a, a < N → ∀ b, b < N → a ≠ b → (T a).2.1 ≠ (T b).2.1) (hown : s.vm.findClass own = some m.cls) (hK : dK D cl cy s) (hR : dR D cl cy h H) (hS : va_S A H0 H locs) (hA : A a) {fs : List Value} (he : h.2 a = some (.inr (ci, fs))) (hc : cl[ci]? = some (C, T, N)) {k : Nat} (hk : k < N) (hT : (T k).1 = C) (hlink : Cond.fieldLink own index C (T k).2.1 (T k).2.2.1 ∈ Ts) (hfin : (T k).2.2.2 = true) (hin2 : meth.name = "<init>") (hown2 : own = C) {ty : FieldType} {v : Value} (hd1 : parseFieldDescriptor (T k).2.2.1 = some ty) (hn : narrow ty v = v) (hfit : fits ty v = true) (hl : k < fs.length) (hd : decode cc pc = .ok (.putfield index, 3))
    (kk : ∀ (H1 : Heap) (locs1 : List Loc), dR D cl cy (dupd h a (.inr (ci, fs.set k v))) H1 → va_S A H0 H1 locs1 → W p l e R s m args below meth c H1 locs1 cells slots Q (F0 m (pc + 3) ls rest)) : W p l e R s m args below meth c H locs cells slots Q (F0 m pc ls (v :: .ref a :: rest)) := by
  have hap := va_apart (own := own) (args := args) hts hin ty0 hty hnm hK.1 hc
  obtain ⟨r, h1, cell, q1, q2, q3, q4⟩ := hR.2 a _ he
  have hr : r = (C, T, N) := Option.some.inj (h1.symm.trans hc)
  subst hr
  obtain ⟨hSl, hfc, kC, hkC, hkind⟩ := hK.1.1 ci _ hc
  obtain ⟨cf, kf, fi, f, hi, hsl⟩ := hSl k hk
  have hlay := hts _ (hin _ (u_in_lay hk))
  unfold u_lay at hlay
  rw [if_pos hfin] at hlay
  have hst := (u_facts hfc hkC (u_lays hts hin hk) hi).1
  have hcf : m.cls = cf := by
    obtain ⟨_, _, c', _, _, _, -, -, hf', -, -, -, how, -⟩ := Cond.laysFinal_spec hlay
    have e1 : c' = cf := by have := hi.symm.trans hf'; simp at this; exact this.1.symm
    rw [hT, ← hown2] at how
    rw [← e1]; exact Option.some.inj (hown.symm.trans how)
  have h6 := u_fits hfc hkC hkind (Or.inr hlay) hi hd1 hn hfit
  have hi2 : s.fieldFound? C (T k).2.1 (T k).2.2.1 = some (cf, kf, fi, f) := by rw [hT] at hi; exact hi
  refine W.putFinK hx hb hown (hts _ hlink) hi2 hst hcf hin2 (by rw [q2]; exact h6) q1 q3 (by rw [hsl]; exact k2_hasslot (q4 k hk)) rfl rfl hd fun H' e1 e2 e3 => ?_
  rw [hsl] at e1 ⊢
  exact kk H' _ (dR_upd hR ⟨_, hc, t_OB.to (V := updV (vp_V fs) k v) ⟨_, e1, q2, q3, t_set q4 hap hk v⟩ (fun j _ => vp_updV_set hl v j)⟩ e2 e3) (hS.put e2 e3 hA)
theorem dr_new (hx : p.tables.exec = Jvm.exec) (hb : c.code = cc) {own C : String} {T : u_T} {N ci index : Nat} {Ts : List Cond} (hts : ∀ w ∈ Ts, w.before args s = true) (hin : ∀ w ∈ u_ws C T N, w ∈ Ts) (ty0 : Nat → FieldType) (hty : ∀ k, k < N → parseFieldDescriptor (T k).2.2.1 = some (ty0 k)) (hown : s.vm.findClass own = some m.cls) (hcl : Cond.classLink own index C ∈ Ts) (hinst : Cond.instantiable C N ∈ Ts) (hini : Cond.initialized C ∈ Ts)
    (hK : dK D cl cy s) (hR : dR D cl cy h H) (hS : va_S A H0 H locs) {w : Nat} (hw : h.1 = some w) (hc : cl[ci]? = some (C, T, N)) (hce : cells + 1 ≤ R.cells) (hsl : slots + N ≤ R.slots) (hd : decode cc pc = .ok (.new index, 3))
    (kk : ∀ (H1 : Heap), dR D cl cy (dnew h w (.inr (ci, (List.range N).map fun k => defaultValue (ty0 k)))) H1 → va_S A H0 H1 locs → W p l e R s m args below meth c H1 locs (cells + 1) (slots + N) Q (F0 m (pc + 3) ls (.ref w :: rest))) : W p l e R s m args below meth c H locs cells slots Q (F0 m pc ls rest) := by
  have hKn := hK.1.1 ci _ hc
  refine W.newcK hx hb hown (hts _ hcl) (hts _ hinst) (hts _ hini) rfl hd hce hsl hKn.2.1 (hR.1 w hw) fun H1 kC hkC e1 z1 o1 => ?_
  have hS1 : va_S A H0 H1 locs := ⟨Nat.le_trans hS.1 (by rw [z1, hR.1 w hw]; exact Nat.le_succ _), fun x h1 h2 => (o1 x (by rw [← hR.1 w hw]; exact Nat.lt_of_lt_of_le h1 hS.1)).trans (hS.2.1 x h1 h2), hS.2.2⟩
  refine kk H1 (dR_new hR hw ⟨_, hc, (u_born ty0 hts hin hKn hkC e1 hty).to (fun j hj => ?_)⟩ z1 o1) hS1
  show defaultValue (ty0 j) = ((List.range N).map fun k => defaultValue (ty0 k)).getD j .null
  rw [List.getD_eq_getElem?_getD, List.getElem?_map, List.getElem?_range hj]
  rfl
theorem dr_aald (hx : p.tables.exec = Jvm.exec) (hb : c.code = cc) (hK : dK D cl cy s) (hR : dR D cl cy h H) {t n : Nat} {C : String} {f : Nat → Option Nat} (ht : dty t = some (.object C)) (ha : h.2 a = some (.inl (t, n, .inr (.inr (.inr (.inr f)))))) {i : Int32} (hin : vp_in i n) (hd : decode cc pc = .ok (.aaload, 1))
    (kk : W p l e R s m args below meth c H locs cells slots Q (F0 m (pc + 1) ls (va_rf (f i.toNatClampNeg) :: rest))) : W p l e R s m args below meth c H locs cells slots Q (F0 m pc ls (.int i :: .ref a :: rest)) :=
  va_aldq (ws := [(a, .inl (cy t, n, .inr (.inr (.inr (.inr f)))))]) hx hb hK.1 (dP1 (hR.2 a _ ha)) 0 t rfl (dty_K ht) hin hd kk
theorem d_updQ {f : Nat → Option Nat} {k : Nat} {x : Option Nat} : (fun j => va_rf (va_up f k x j)) = updV (fun j => va_rf (f j)) k (va_rf x) := by
  funext q
  by_cases hq : q = k
  · simp [updV, va_up, hq]
  · simp [updV, va_up, hq]
theorem dr_aast (hx : p.tables.exec = Jvm.exec) (hb : c.code = cc) (hK : dK D cl cy s) (hR : dR D cl cy h H) (hS : va_S A H0 H locs) (hA : A a) {t n v ci : Nat} {r : vw_C} {vs : List Value} {f : Nat → Option Nat} (ht : dty t = some (.object r.1)) (ha : h.2 a = some (.inl (t, n, .inr (.inr (.inr (.inr f)))))) (hv : h.2 v = some (.inr (ci, vs))) (hc : cl[ci]? = some r) {i : Int32} (hin : vp_in i n) (hd : decode cc pc = .ok (.aastore, 1))
    (kk : ∀ (H1 : Heap) (locs1 : List Loc), dR D cl cy (dupd h a (.inl (t, n, .inr (.inr (.inr (.inr (va_up f i.toNatClampNeg (some v)))))))) H1 → va_S A H0 H1 locs1 → W p l e R s m args below meth c H1 locs1 cells slots Q (F0 m (pc + 1) ls rest)) : W p l e R s m args below meth c H locs cells slots Q (F0 m pc ls (.ref v :: .int i :: .ref a :: rest)) := by
  have hlt : i.toNatClampNeg < n := Nat.not_le.mp fun q => hin (Or.inr q)
  have h0 : ¬ i < 0 := fun q => hin (Or.inl q)
  obtain ⟨r', hr', cellV, g1, g2, g3, -⟩ := hR.2 v _ hv
  have hcls := (hK.1.1 ci r hc).2
  obtain ⟨kA, comp, k1, k2, k3, -⟩ := (hK.1.2 t _ (dty_K ht)).2
  have hcomp : comp = D.1 ci := Option.some.inj (k3.symm.trans hcls.1)
  subst hcomp
  obtain ⟨kC, hkC, -⟩ := hcls.2
  refine W.aast hx hb (hR.2 a _ ha) (fun q h => by cases h) (fun h => by cases h) k1 k2 rfl hkC ⟨h0, by show _ < (arrV _ _ _).slots.size; rw [arrV_size]; exact hlt⟩ g1 (fun q h => by rw [g3] at h; cases h) (by rw [g2]; exact hkC) (by rw [g2]; exact va_assign hcls) rfl rfl hd fun H1 e z oq => ?_
  refine kk H1 _ (dR_upd hR ?_ z oq) (hS.put z oq hA)
  show H1[a]? = some (vp_cell _ _)
  rw [e]
  show some ((vp_cell _ (n, .inr (.inr (.inr (.inr f))))).setSlot _ _) = some (vp_cell _ (n, .inr (.inr (.inr (.inr _)))))
  rw [vp_cell_q, vp_cell_q, arrV_store, d_updQ]
  rfl
theorem dr_anew (hx : p.tables.exec = Jvm.exec) (hb : c.code = cc) {own C : String} {index : Nat} (hown : s.vm.findClass own = some m.cls) (hcl : (Cond.classLink own index C).before args s = true) (hov : va_AO C s) (hK : dK D cl cy s) (hR : dR D cl cy h H) (hS : va_S A H0 H locs) {w : Nat} (hw : h.1 = some w) {t : Nat} (ht : dty t = some (.object C)) {n : Int32} (hn : ¬ n < 0) (hby : n.toNatClampNeg * 4 ≤ 536870912) (hce : cells + 1 ≤ R.cells) (hsl : slots + n.toNatClampNeg ≤ R.slots) (hd : decode cc pc = .ok (.anewarray index, 3))
    (kk : ∀ (H1 : Heap), dR D cl cy (dnew h w (.inl (t, n.toNatClampNeg, .inr (.inr (.inr (.inr fun _ => none)))))) H1 → va_S A H0 H1 locs → W p l e R s m args below meth c H1 locs (cells + 1) (slots + n.toNatClampNeg) Q (F0 m (pc + 3) ls (.ref w :: rest))) : W p l e R s m args below meth c H locs cells slots Q (F0 m pc ls (.int n :: rest)) := by
  have hsz := hR.1 w hw
  subst hsz
  refine W.anew hx hb hown hcl (va_AO.use hov) rfl hd rfl hn hby hce hsl fun cA kA comp f1 f2 f3 f4 => ?_
  generalize hH1 : H.push ({ cls := cA, slots := Array.replicate n.toNatClampNeg .null, vm := .none } : Cell) = H1
  have z1 : H1.size = H.size + 1 := by rw [← hH1, Array.size_push]
  have e1 : H1[H.size]? = some (arrV cA n.toNatClampNeg (fun _ => .null)) := by rw [← hH1, Array.getElem?_push_size, ← arrV_new]
  have o1 : ∀ q : Nat, q < H.size → H1[q]? = H[q]? := fun q hq => by rw [← hH1, Array.getElem?_push, if_neg (Nat.ne_of_lt hq)]
  have hS1 : va_S A H0 H1 locs := ⟨Nat.le_trans hS.1 (by rw [z1]; exact Nat.le_succ _), fun x h1 h2 => (o1 x (Nat.lt_of_lt_of_le h1 hS.1)).trans (hS.2.1 x h1 h2), hS.2.2⟩
  obtain ⟨kA2, comp2, k1, k2, k3, k4⟩ := (hK.1.2 t _ (dty_K ht)).2
  have : cA = cy t := Option.some.inj (f1.symm.trans k4)
  subst this
  refine kk H1 (dR_new hR hw ?_ z1 o1) hS1
  show H1[H.size]? = some (vp_cell _ _)
  rw [e1]
  rfl
theorem dr_copy (hx : p.tables.exec = Jvm.exec) (hb : c.code = cc) (hml : c.maxLocals = ls.size) {own : String} {index : Nat} (hown : s.vm.findClass own = some m.cls) (hlink : (Cond.methodLink own index arraycopyName).before args s = true) (hnat : (Cond.native arraycopyName).before args s = true) (hstat : (Cond.static arraycopyName).before args s = true) (hini : (Cond.initialized "java/lang/System").before args s = true)
    (hK : dK D cl cy s) (hR : dR D cl cy h H) (hS : va_S A H0 H locs) (hA : A a) {t a0 n0 n1 : Nat} {f g : Nat → Int32} {ty : FieldType} (ht : dty t = some ty) (ha0 : h.2 a0 = some (.inl (t, n0, .inl f))) (ha1 : h.2 a = some (.inl (t, n1, .inl g))) (hprim : refKind ty = false)
    {sp dp n : Int32} (h1 : ¬ sp < 0) (h2 : ¬ dp < 0) (h3 : ¬ n < 0) (h4 : sp.toNatClampNeg + n.toNatClampNeg ≤ n0) (h5 : dp.toNatClampNeg + n.toNatClampNeg ≤ n1) (hfit : ∀ i, i < n.toNatClampNeg → fits ty (.int (f (sp.toNatClampNeg + i))) = true)
    (hframes : 1 ≤ R.frames) (hlocals : (rest.map fun v => v.category).sum + (nativeFrameWords "java/lang/System" "arraycopy" 5 + 11) ≤ R.locals) (hd : decode cc pc = .ok (.invokestatic index, 3))
    (kk : ∀ (H1 : Heap) (locs1 : List Loc), dR D cl cy (dupd h a (.inl (t, n1, .inl (va_cpy f g sp.toNatClampNeg dp.toNatClampNeg n.toNatClampNeg)))) H1 → va_S A H0 H1 locs1 → W p l e R s m args below meth c H1 locs1 cells slots Q (F0 m (pc + 3) ls rest)) : W p l e R s m args below meth c H locs cells slots Q (F0 m pc ls (.int n :: .int dp :: .ref a :: .int sp :: .ref a0 :: rest)) := by
  have nn : ∀ z : Int32, ¬ z < 0 → z.toInt = (z.toNatClampNeg : Int) := by
    intro z hz
    have hz0 : (0 : Int) ≤ z.toInt := by
      have := Int32.not_lt.mp hz
      simpa using Int32.le_iff_toInt_le.mp this
    show z.toInt = ((z.toInt.toNat : Nat) : Int)
    omega
  intro T hT X
  have hc0 : H[a0]? = some (vp_cell (cy t) (n0, .inl f)) := hR.2 a0 _ ha0
  have hc1 : H[a]? = some (vp_cell (cy t) (n1, .inl g)) := hR.2 a _ ha1
  obtain ⟨-, k0, hk0, cm0, hkk0⟩ := (hK.1.2 t _ (dty_K ht)).1 n0 (fun j => .int (f j))
  obtain ⟨vm', X', step⟩ := X.arraycopy hx hown hlink hnat hstat hini (src := a0) (dst := a) (cs := vp_cell (cy t) (n0, .inl f)) (cd := vp_cell (cy t) (n1, .inl g)) (srcPos := sp) (destPos := dp) (n := n) (by rw [hT]; exact hc0) (by rw [hT]; exact hc1)
    (fun _ h => by cases h) (fun _ h => by cases h) (fun h => by cases h) (fun h => by cases h) hk0 hk0 hkk0 hkk0 (by simp [hprim]) h1 h2 h3
    (by rw [nn sp h1, nn n h3]; show ¬ _ > ((arrV (cy t) n0 (fun j => .int (f j))).slots.size : Int); rw [arrV_size]; omega)
    (by rw [nn dp h2, nn n h3]; show ¬ _ > ((arrV (cy t) n1 (fun j => .int (g j))).slots.size : Int); rw [arrV_size]; omega)
    (fun vm₁ _ i hi => by
      have e : (vp_cell (cy t) (n0, .inl f)).slots.getD (sp.toNatClampNeg + i) .null = .int (f (sp.toNatClampNeg + i)) := by
        show (arrV (cy t) n0 (fun j => .int (f j))).slots.getD _ _ = _
        rw [Array.getD_eq_getD_getElem?, arrV_read _ _ (by omega)]
        rfl
      refine ⟨?_, ?_⟩
      · rw [e]
        exact hfit i hi
      · rw [e]
        exact trivial)
    (g := F0 m pc ls (.int n :: .int dp :: .ref a :: .int sp :: .ref a0 :: rest)) rfl (by rw [hml]) (rest := rest) rfl (by rw [hb]; exact hd) hframes (by show 2 * 0 + _ + _ ≤ _; omega)
  have e1 : copied (vp_cell (cy t) (n0, .inl f)) (vp_cell (cy t) (n1, .inl g)) sp dp n = vp_cell (cy t) (n1, .inl (va_cpy f g sp.toNatClampNeg dp.toNatClampNeg n.toNatClampNeg)) := va_copied (fun z => .int z) (cy t) (cy t) f g h4
  rw [e1] at X' step
  have hl : a < H.size := (Array.getElem?_eq_some_iff.mp hc1).1
  have hheap : ((T.setVm vm').setCell a (vp_cell (cy t) (n1, .inl (va_cpy f g sp.toNatClampNeg dp.toNatClampNeg n.toNatClampNeg)))).heap = H.setIfInBounds a (vp_cell (cy t) (n1, .inl (va_cpy f g sp.toNatClampNeg dp.toNatClampNeg n.toNatClampNeg))) := by rw [← hT]; rfl
  have oq : ∀ q : Nat, q ≠ a → (H.setIfInBounds a (vp_cell (cy t) (n1, .inl (va_cpy f g sp.toNatClampNeg dp.toNatClampNeg n.toNatClampNeg))))[q]? = H[q]? := fun q hq => by simp [Array.getElem?_setIfInBounds, Ne.symm hq]
  obtain ⟨u, a1, b1⟩ := kk _ _ (dR_upd (a := a) (e := .inl (t, n1, .inl (va_cpy f g sp.toNatClampNeg dp.toNatClampNeg n.toNatClampNeg))) hR (show (H.setIfInBounds a _)[a]? = some _ by simp [Array.getElem?_setIfInBounds, hl, demb]) (by simp) oq) ⟨by simp; exact hS.1, fun q g1 g2 => by
      rw [oq q (fun e => g2 (by rw [e]; exact hA))]
      exact hS.2.1 q g1 g2, fun q hq => by
      rcases List.mem_append.mp hq with h | h
      · exact hS.2.2 q h
      · obtain ⟨z, -, hz⟩ := List.mem_map.mp h
        rw [← hz]
        exact hA⟩ _ hheap X'
  exact ⟨u, step u a1, b1⟩
end DMH
