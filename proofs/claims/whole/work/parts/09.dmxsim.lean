def dOKx (E : dE) (X : dX) (GW : List Cond) : Prop := ∀ j r, eMT E j = some r →
  (∀ ik cls, X.1 r.2.2.2.2.2.1 ik = some cls → cls ∈ exs ∧ Cond.classLink r.1.cls ik cls ∈ GW ∧ Cond.initialized cls ∈ GW) ∧
  (∀ ic cls, X.2 r.2.2.2.2.2.1 ic = some cls → (∀ w ∈ (vx_atS r.1.cls ic cls xnm).filter goodWord, w ∈ GW) ∧ (∀ w ∈ (vx_atS r.1.cls ic cls xnm).filter (fun w => !goodWord w), w ∈ xB cls) ∧ ∀ w ∈ vx_atS r.1.cls ic cls xnm, vx_ot w = true)
def dXC (D : va_G) (cl : List vw_C) (cy : Nat → ClassId) (cls : String) (h' : dH) (b : Nat) : String → State → State → Prop := fun F st t => F = cls ∧ dR D cl cy h' t.heap ∧ va_F (dB b) st t
def dSimX (E : dE) (X : dX) (cl : List vw_C) (GW : List Cond) (SL : dSL) (D : va_G) (cy : Nat → ClassId) (b n d : Nat) : Prop :=
  ∀ (j : Nat) (r : dM) (pc : Nat) (lo : dL0) (st : List Value) (h : dH) (cs ss : Nat) (z : dY), eMT E j = some r → drunX E X b n d r pc lo st h cs ss = some z →
    ∀ (Qc : Array Value → State → Outcome → State → Prop) (p : Program) (l : Launch) (e : Env) (R : Room) (s : State) (m : MethodId) (args : Array Value) (below : List Frame) (meth : Method) (c : Code) (H : Heap) (locs : List Loc) (ls : Array Slot),
      l.stackTraces = false → (∀ x ∈ c.exceptionTable.toList, False) → d ≤ R.frames → 100 * d ≤ R.locals → z.2.2.1 ≤ R.cells → z.2.2.2 ≤ R.slots →
      p.tables.exec = Jvm.exec → c.code = r.2.1 → c.maxLocals = r.2.2.1 → s.vm.findClass r.1.cls = some m.cls → (∀ w ∈ GW, w.before args s = true) → meth.locks = false → meth.name = r.1.name → dK D cl cy s → dT SL b s → dR D cl cy h H → va_S (dB b) s.heap H locs → dL lo ls r.2.2.1 →
      W p l e R s m args below meth c H locs cs ss (vx_MQ below Qc (dXC D cl cy z.1 z.2.1 b) args s z.2.2.1 z.2.2.2 (dB b)) (F0 m pc ls st)
section DMX
variable {E : dE} {X : dX} {cl : List vw_C} {GW : List Cond} {SL : dSL} {D : va_G} {cy : Nat → ClassId} {b : Nat}
theorem dmetX {n d j : Nat} {r : dM} {as : List Value} {h : dH} {z : dY} (hE : dOK E cl GW SL) (hs : dSimX E X cl GW SL D cy b n d) (hj : eMT E j = some r) (hrun : drunX E X b n d r 0 (dent as) [] h 0 0 = some z) (hl : (lg_sl as).length ≤ r.2.2.1) (l : Launch) (hst : l.stackTraces = false) (Qc : Array Value → State → Outcome → State → Prop) :
    vx_Met l r.1 (Cond.code r.1 r.2.1 r.2.2.1 r.2.2.2.1 :: GW) { frames := d, cells := z.2.2.1, slots := z.2.2.2, locals := 100 * d } (va_Pc as (dPre D cl cy SL b h)) Qc (dXC D cl cy z.1 z.2.1 b) z.2.2.1 z.2.2.2 (dB b) := by
  refine vx_ofW (cc := r.2.1) (maxL := r.2.2.1) (ret := r.2.2.2.1) (hE.2.2.2 j r hj).2.1 rfl ?_
  intro p e s m args below meth c s₁ B hml hout hv
  obtain ⟨rfl, hR, hK, hT⟩ := hv
  have hts := atoms_spec (ws := Cond.code r.1 r.2.1 r.2.2.1 r.2.2.2.1 :: GW) B.pre
  rw [lg_entry_eq]
  exact hs j r 0 (dent as) [] h 0 0 z hj hrun Qc p l e _ s m as.toArray below meth c s.heap [] _ hst hout (Nat.le_refl _) (Nat.le_refl _) (Nat.le_refl _) (Nat.le_refl _) B.exec B.bytes hml (findClass_of_methodNamed B.named) (fun w hw => hts w (List.mem_cons_of_mem _ hw)) B.notSynchronized (name_of_methodNamed B.named B.method).1 hK hT hR va_S.rf (dL_entry hl)
theorem dR_kept {h : dH} {H H1 : Heap} (hR : dR D cl cy h H) (hk : ∀ q : Nat, q < H.size → H1[q]? = H[q]?) : dR D cl cy (none, h.2) H1 := by
  refine ⟨fun n hn => (by cases hn), fun a x ha => ?_⟩
  have h1 := hR.2 a x ha
  exact h1.kept (hk a h1.lt)
theorem t_F {A : Nat → Prop} {s t : State} {H : Heap} {locs : List Loc} (hS : va_S A s.heap H locs) (h1 : H.size ≤ t.heap.size) (h2 : ∀ q : Nat, q < H.size → t.heap[q]? = H[q]?) : va_F A s t :=
  ⟨Nat.le_trans hS.1 h1, fun q hq ha => (h2 q (Nat.lt_of_lt_of_le hq hS.1)).trans (hS.2.1 q hq ha)⟩
/-- every run of the small machine that ends with a throw is one of the kit's -/
theorem dsimX (hE : dOK E cl GW SL) (hX : dOKx E X GW) : ∀ n d, dSimX E X cl GW SL D cy b n d := by
  intro n
  induction n with
  | zero => intro d j r pc lo st h cs ss z hj hh; cases hh
  | succ n ih =>
    intro d j r pc lo st h cs ss z hj hh Qc p l e R s m args below meth c H locs ls hst hout hf hlo hce hsl hx hb hml hown hts hlk hmn hK hT hR hS hl
    obtain ⟨cls, h1, h2, h3, rfl⟩ | ⟨i, len, hd, ⟨w, h1, h2⟩ | ⟨g, h1, h2⟩ | ⟨d', y, w, rfl, h1, h2, h3⟩ | ⟨d', y, w, idx, rfl, rfl, h1, h2, rfl⟩⟩ := drunX_step hh
    · obtain ⟨ik, is, ic, sa, a1, a2, a3, a4, a5, a6⟩ := dxat_inv h1
      obtain ⟨x1, x2⟩ := hX j r hj
      obtain ⟨b1, b2, b3⟩ := x1 ik cls a3
      obtain ⟨c1, c2, c3⟩ := x2 ic cls a4
      obtain ⟨-, -, -, -, -, -, -, -, -, -, -, -, -, -, o15, -⟩ := hE.2.2.2 j r hj
      obtain ⟨tx, htx⟩ := o15 is sa a5
      have hstr := hT.2.2.2.2.2.1 _ htx
      have hfit : Bundle.fit cls = true := by
        simp only [exs, List.mem_cons, List.mem_nil_iff, or_false] at b1
        rcases b1 with rfl | rfl | rfl | rfl <;> decide
      have hB : ∀ w ∈ xB cls, w.before args s = true := vx_c (va_Nw.use rfl (hT.2.2.1 cls b1)) (vx_c (va_Nw.use rfl (hT.2.2.2.1 "java/lang/RuntimeException" (by decide))) (vx_c (va_Nw.use rfl (hT.2.2.2.1 "java/lang/Exception" (by decide))) (vx_c (va_Nw.use rfl (hT.2.2.2.1 "java/lang/Throwable" (by decide))) vx_n)))
      have hat : ∀ w ∈ vx_atS r.1.cls ic cls xnm, w.before args s = true := vx_hat (fun w hw => hts w (c1 w hw)) c2 hB
      have hgood : ∀ w ∈ Cond.classLink r.1.cls ik cls :: Cond.initialized cls :: vx_atS r.1.cls ic cls xnm, vx_ot w = true := by
        intro w hw
        rcases List.mem_cons.mp hw with rfl | hw
        · rfl
        rcases List.mem_cons.mp hw with rfl | hw
        · rfl
        · exact c3 w hw
      have hXC : ∀ t : State, s.vm.Alike t.vm → H.size ≤ t.heap.size → (∀ q : Nat, q < H.size → t.heap[q]? = H[q]?) → dXC D cl cy cls (none, h.2) b cls s t := fun t _ hz hk => ⟨rfl, dR_kept hR hk, t_F hS hz hk⟩
      have hfr : xnm.length + 3 < R.frames := by show 2 + 3 < R.frames; omega
      have hlc : (st.map fun v => v.category).sum + (13 * (xnm.length + 1) + 43) ≤ R.locals := by show _ + (13 * (2 + 1) + 43) ≤ R.locals; omega
      rcases a6 with ⟨d4, d6, d9⟩ | ⟨d4, d7, d10⟩
      · exact vx_throwS (own := r.1.cls) (cls := cls) (text := tx) (names := xnm) (A := dB b) hx hb hst hown hfit (by decide) (hts _ b2) (hts _ b3) hstr hat hgood hT.1 hT.2.1 hS (hl.1.trans hml.symm) a1 a2 d4 d6 d9 (fun x h => (hout x h).elim) hfr hlc hce hsl hlk hXC hS.2.2 (Nat.le_refl _) (Nat.le_refl _)
      · exact vx_throwSW (own := r.1.cls) (cls := cls) (text := tx) (names := xnm) (A := dB b) hx hb hst hown hfit (by decide) (hts _ b2) (hts _ b3) hstr hat hgood hT.1 hT.2.1 hS (hl.1.trans hml.symm) a1 a2 d4 d7 d10 (fun x h => (hout x h).elim) hfr hlc hce hsl hlk hXC hS.2.2 (Nat.le_refl _) (Nat.le_refl _)
    · exact dpure_sim hx hb hd h1 hl (fun ls' hl' => ih d j r w.1 w.2.1 w.2.2 h cs ss z hj h2 Qc p l e R s m args below meth c H locs ls' hst hout hf hlo hce hsl hx hb hml hown hts hlk hmn hK hT hR hS hl')
    · have hm := drunX_mono _ _ _ _ _ _ _ _ _ _ h2
      exact dheap_sim hE (hE.2.2.2 j r hj).2 hf hlo hx hb (hml.trans hl.1.symm) hown hts hmn hK hT hR hS hd h1 (Nat.le_trans hm.1 hce) (Nat.le_trans hm.2 hsl) (fun H1 locs1 hR1 hS1 => ih d j r (pc + len) lo g.1 g.2.1 g.2.2.1 g.2.2.2 z hj h2 Qc p l e R s m args below meth c H1 locs1 ls hst hout hf hlo hce hsl hx hb hml hown hts hlk hmn hK hT hR1 hS1 hl)
    · have hm := drunX_mono _ _ _ _ _ _ _ _ _ _ h3
      exact dcall_sim hE (dsim hE n d') (hE.2.2.2 j r hj).2 h1 h2 hf hlo (Nat.le_trans hm.1 hce) (Nat.le_trans hm.2 hsl) hx hb hml hown hts hK hT hR hS hl hd (fun H1 locs1 hR1 hS1 => ih (d' + 1) j r (pc + 3) lo (w.1.toList ++ y.2.2) w.2.1 (cs + w.2.2.1) (ss + w.2.2.2) z hj h3 Qc p l e R s m args below meth c H1 locs1 ls hst hout hf hlo hce hsl hx hb hml hown hts hlk hmn hK hT hR1 hS1 hl)
    · obtain ⟨o2, o1, o3, o4, o5, o6, o7, o8, o9, -⟩ := hE.2.2.2 j r hj
      obtain ⟨j', q, g1, g2, g3, rfl, g5, gi, g6, g7, As, g8, g9, g10⟩ := dinvV_inv h1
      obtain ⟨u2, u1, u3, u4, u5, u6, u7, -⟩ := hE.2.2.2 j' y.1 g2
      obtain ⟨v1, v2, T, N, v3⟩ := u7 g5
      have hM := dmetX hE (ih d') g2 h2 g7 l hst (fun _ _ _ _ => False)
      rw [g9] at hM
      have hwarm : ∀ U : State, U.heap = H → s.WarmedH U.vm → dPre D cl cy SL b h U := fun U hU hW => ⟨by rw [hU]; exact hR, dK.moved hW.alike hK, dT.at hT hS hU hW⟩
      have hcb := callB_of (R := R) (mc := w.2.2.1) (ms := w.2.2.2) (own := r.1.cls) (index := idx) y.1.2.2.2.2.2.2 hts (d_good hE u2.1) rfl rfl rfl (hts _ u3) (hts _ (d_link (o9 idx j' y.1 g1 g2) g5)) u4 (rm := { frames := d', cells := w.2.2.1, slots := w.2.2.2, locals := 100 * d' }) ⟨hf, by show 8 + (y.1.2.2.1 + 11) + 100 * d' ≤ R.locals; omega⟩
      have hrec : ∃ cell : Cell, H[q]? = some cell ∧ cell.vm.isStatics = false ∧ s.vm.findClass y.1.1.cls = some cell.cls := d_recv hE (hE.2.2.2 j' y.1 g2).2 g5 g3 hK hT hR hS
      have hrun := vx_runV (p := p) (e := e) (H := H) (locs := locs) (cells := cs) (slots := ss) (below := below) (meth := meth) (g := F0 m pc ls st) (rest := y.2.2) ⟨hx, hb, hml, hown, hts⟩ hM ⟨hcb, hts _ v1, hts _ (v2 gi)⟩ ⟨d_blind _ _, hrec, fun U hU hW => ⟨rfl, hwarm U hU hW⟩⟩ rfl g8 hl.1 g10 (lv_room g6) hd ⟨hce, hsl⟩
      intro T9 hT9 X9
      rcases hrun T9 hT9 X9 with ⟨v, st₀, t, T', L, h0, X', hL, e1, e2, hq, st9⟩ | ⟨q9, st₀, t, T', L, F, ce, h0, X', hL, e1, e2, ⟨hF, hRt, hFr⟩, hce9, hcv, hcl, st9⟩
      · exact hq.elim
      · obtain ⟨k1, k2, k3⟩ := vx_keep h0 e1 hS (A1 := dB b) (fun q _ h => h) (free := dB b) (fun q h => h) hL hFr
        have ko := vx_out (p := p) (l := l) (e := e) (R := R) (args := args) (below := below) (Qc := Qc) (XC := dXC D cl cy w.1 w.2.1 b) (H := T'.heap) (locs := locs ++ L) (cells := cs + w.2.2.1) (slots := ss + w.2.2.2) (mc := cs + w.2.2.1) (ms := ss + w.2.2.2) (free := dB b) (pc := pc) (ls := ls) (rest := y.2.2) (m := m) (meth := meth) (c := c) (s := s) (q := q9) (E := F) (ce := ce) (fun x h => (hout x h).elim) hlk (by rw [e1]; exact hce9) hcv hcl (fun t9 ht9 _ => ⟨hF, by rw [ht9, e1]; exact hRt, k3.F ht9⟩) k3.2.2 (Nat.le_refl _) (Nat.le_refl _)
        obtain ⟨t2, a1, b1⟩ := ko T' rfl X'
        exact ⟨t2, st9.trans a1, b1⟩
end DMX
