/-! methods that catch -/
abbrev dHH : Type := List (Nat × Nat × Nat × Nat)
def dfind (XH : Nat → Option String) (pc : Nat) (cls : String) : dHH → Option Nat
  | [] => none
  | x :: t => if x.1 ≤ pc ∧ pc < x.2.1 then (match XH x.2.2.2 with
      | some nm => if x.2.2.2 = 0 then none else if nm = cls then some x.2.2.1 else if (cls, nm) ∈ ncs then dfind XH pc cls t else none
      | none => none) else dfind XH pc cls t
def dclr (lo : dL0) (k : Nat) : dL0 := fun j => if j = k then none else match lo j with
  | some w => if j + 1 = k ∧ w.category = 2 then none else some w
  | none => none
theorem dL_clr {lo : dL0} {k : Nat} {v : Value} {ls : Array Slot} {nL : Nat} (h : dL (dset1 lo k v) ls nL) : dL (dclr lo k) ls nL := by
  refine ⟨h.1, h.2.1, fun i w hi => h.2.2 i w ?_⟩
  unfold dclr at hi
  unfold dset1
  by_cases e : i = k
  · rw [if_pos e] at hi; cases hi
  · rw [if_neg e] at hi ⊢; exact hi
def drunC (E : dE) (X : dX) (XH : Nat → Option String) (hh : dHH) (b : Nat) : Nat → Nat → dM → Nat → dL0 → List Value → dH → Nat → Nat → Option dZ
  | 0, _, _, _, _, _, _, _, _ => none
  | n + 1, d, r, pc, lo, st, h, cs, ss => match decode r.2.1 pc with
    | .error _ => none
    | .ok (i, len) => match dpure i len pc r.2.2.1 lo st with
      | some z => drunC E X XH hh b n d r z.1 z.2.1 z.2.2 h cs ss
      | none => match dheap E b d r i len st h cs ss with
        | some g => drunC E X XH hh b n d r (pc + len) lo g.1 g.2.1 g.2.2.1 g.2.2.2
        | none => match dret r i len st with
          | some v => some (v, h, cs, ss)
          | none => match d with
            | 0 => none
            | d + 1 => match dinv E r.2.2.2.2.2.1 i len st h with
              | none => none
              | some y => match drun E b n d y.1 0 (dent y.2.1) [] h 0 0 with
                | some z => drunC E X XH hh b n (d + 1) r (pc + 3) lo (z.1.toList ++ y.2.2) z.2.1 (cs + z.2.2.1) (ss + z.2.2.2)
                | none => match i with
                  | .invokevirtual _ => match drunX E X b n d y.1 0 (dent y.2.1) [] h 0 0 with
                    | some z => match dfind XH pc z.1 hh with
                      | some hp => match decode r.2.1 hp with
                        | .ok (.astore_n k, 1) => if (k : Nat) < r.2.2.1 then drunC E X XH hh b n (d + 1) r (hp + 1) (dclr lo (k : Nat)) [] z.2.1 (cs + z.2.2.1) (ss + z.2.2.2) else none
                        | .ok (.astore k, 2) => if k < r.2.2.1 then drunC E X XH hh b n (d + 1) r (hp + 2) (dclr lo k) [] z.2.1 (cs + z.2.2.1) (ss + z.2.2.2) else none
                        | _ => none
                      | none => none
                    | none => none
                  | _ => none
theorem drunC_step {E : dE} {X : dX} {XH : Nat → Option String} {hh : dHH} {b n d : Nat} {r : dM} {pc : Nat} {lo : dL0} {st : List Value} {h : dH} {cs ss : Nat} {z : dZ} (hr : drunC E X XH hh b (n + 1) d r pc lo st h cs ss = some z) : ∃ i len, decode r.2.1 pc = .ok (i, len) ∧
    ((∃ w, dpure i len pc r.2.2.1 lo st = some w ∧ drunC E X XH hh b n d r w.1 w.2.1 w.2.2 h cs ss = some z) ∨
     (∃ g, dheap E b d r i len st h cs ss = some g ∧ drunC E X XH hh b n d r (pc + len) lo g.1 g.2.1 g.2.2.1 g.2.2.2 = some z) ∨
     (∃ v, dret r i len st = some v ∧ z = (v, h, cs, ss)) ∨
     (∃ d' y w, d = d' + 1 ∧ dinv E r.2.2.2.2.2.1 i len st h = some y ∧ drun E b n d' y.1 0 (dent y.2.1) [] h 0 0 = some w ∧ drunC E X XH hh b n (d' + 1) r (pc + 3) lo (w.1.toList ++ y.2.2) w.2.1 (cs + w.2.2.1) (ss + w.2.2.2) = some z) ∨
     (∃ d' y w idx hp k ln, d = d' + 1 ∧ i = .invokevirtual idx ∧ dinv E r.2.2.2.2.2.1 i len st h = some y ∧ drunX E X b n d' y.1 0 (dent y.2.1) [] h 0 0 = some w ∧ dfind XH pc w.1 hh = some hp ∧ k < r.2.2.1 ∧ ((∃ k' : Fin 4, (k' : Nat) = k ∧ decode r.2.1 hp = .ok (.astore_n k', 1) ∧ ln = 1) ∨ (decode r.2.1 hp = .ok (.astore k, 2) ∧ ln = 2)) ∧ drunC E X XH hh b n (d' + 1) r (hp + ln) (dclr lo k) [] w.2.1 (cs + w.2.2.1) (ss + w.2.2.2) = some z)) := by
  rw [drunC] at hr
  cases hd : decode r.2.1 pc with
  | error x => rw [hd] at hr; cases hr
  | ok x =>
    obtain ⟨i, len⟩ := x
    rw [hd] at hr
    refine ⟨i, len, rfl, ?_⟩
    dsimp only at hr
    cases h1 : dpure i len pc r.2.2.1 lo st with
    | some w => rw [h1] at hr; exact Or.inl ⟨w, rfl, hr⟩
    | none =>
      rw [h1] at hr
      dsimp only at hr
      cases h2 : dheap E b d r i len st h cs ss with
      | some g => rw [h2] at hr; exact Or.inr (Or.inl ⟨g, rfl, hr⟩)
      | none =>
        rw [h2] at hr
        dsimp only at hr
        cases h3 : dret r i len st with
        | some v => rw [h3] at hr; cases hr; exact Or.inr (Or.inr (Or.inl ⟨v, rfl, rfl⟩))
        | none =>
          rw [h3] at hr
          dsimp only at hr
          cases d with
          | zero => cases hr
          | succ d =>
            dsimp only at hr
            cases h4 : dinv E r.2.2.2.2.2.1 i len st h with
            | none => rw [h4] at hr; cases hr
            | some y =>
              rw [h4] at hr
              dsimp only at hr
              cases h5 : drun E b n d y.1 0 (dent y.2.1) [] h 0 0 with
              | some w => rw [h5] at hr; exact Or.inr (Or.inr (Or.inr (Or.inl ⟨d, y, w, rfl, rfl, h5, hr⟩)))
              | none =>
                rw [h5] at hr
                dsimp only at hr
                split at hr
                next idx =>
                  cases h6 : drunX E X b n d y.1 0 (dent y.2.1) [] h 0 0 with
                  | none => rw [h6] at hr; cases hr
                  | some w =>
                    rw [h6] at hr
                    dsimp only at hr
                    cases h7 : dfind XH pc w.1 hh with
                    | none => rw [h7] at hr; cases hr
                    | some hp =>
                      rw [h7] at hr
                      dsimp only at hr
                      split at hr
                      next k hk =>
                        by_cases e9 : (k : Nat) < r.2.2.1
                        · rw [if_pos e9] at hr
                          exact Or.inr (Or.inr (Or.inr (Or.inr ⟨d, y, w, idx, hp, (k : Nat), 1, rfl, rfl, rfl, h6, h7, e9, Or.inl ⟨k, rfl, hk, rfl⟩, hr⟩)))
                        · rw [if_neg e9] at hr; cases hr
                      next k hk =>
                        by_cases e9 : k < r.2.2.1
                        · rw [if_pos e9] at hr
                          exact Or.inr (Or.inr (Or.inr (Or.inr ⟨d, y, w, idx, hp, k, 2, rfl, rfl, rfl, h6, h7, e9, Or.inr ⟨hk, rfl⟩, hr⟩)))
                        · rw [if_neg e9] at hr; cases hr
                      next => cases hr
                next => cases hr
theorem drunC_mono {E : dE} {X : dX} {XH : Nat → Option String} {hh : dHH} {b : Nat} : ∀ (n d : Nat) (r : dM) (pc : Nat) (lo : dL0) (st : List Value) (h : dH) (cs ss : Nat) (z : dZ), drunC E X XH hh b n d r pc lo st h cs ss = some z → cs ≤ z.2.2.1 ∧ ss ≤ z.2.2.2 := by
  intro n
  induction n with
  | zero => intro d r pc lo st h cs ss z hh; cases hh
  | succ n ih =>
    intro d r pc lo st h cs ss z hh
    obtain ⟨i, len, hd, ⟨w, h1, h2⟩ | ⟨g, h1, h2⟩ | ⟨v, h1, rfl⟩ | ⟨d', y, w, rfl, h1, h2, h3⟩ | ⟨d', y, w, idx, hp, k, ln, rfl, rfl, h1, h2, h3, h4, h5, h6⟩⟩ := drunC_step hh
    · exact ih _ _ _ _ _ _ _ _ _ h2
    · have a := dheap_mono h1
      have b := ih _ _ _ _ _ _ _ _ _ h2
      exact ⟨Nat.le_trans a.1 b.1, Nat.le_trans a.2 b.2⟩
    · exact ⟨Nat.le_refl _, Nat.le_refl _⟩
    · have b := ih _ _ _ _ _ _ _ _ _ h3
      exact ⟨Nat.le_trans (Nat.le_add_right _ _) b.1, Nat.le_trans (Nat.le_add_right _ _) b.2⟩
    · have b := ih _ _ _ _ _ _ _ _ _ h6
      exact ⟨Nat.le_trans (Nat.le_add_right _ _) b.1, Nat.le_trans (Nat.le_add_right _ _) b.2⟩
theorem dfind_inv {XH : Nat → Option String} {pc : Nat} {cls : String} : ∀ {hh : dHH} {hp : Nat}, dfind XH pc cls hh = some hp → ∃ (pre : dHH) (x : Nat × Nat × Nat × Nat) (suf : dHH), hh = pre ++ x :: suf ∧ x.2.2.1 = hp ∧ x.1 ≤ pc ∧ pc < x.2.1 ∧ x.2.2.2 ≠ 0 ∧ XH x.2.2.2 = some cls ∧ ∀ y ∈ pre, (¬ (y.1 ≤ pc ∧ pc < y.2.1)) ∨ (y.2.2.2 ≠ 0 ∧ ∃ nm, XH y.2.2.2 = some nm ∧ (cls, nm) ∈ ncs) := by
  intro hh
  induction hh with
  | nil => intro hp h; cases h
  | cons x t ih =>
    intro hp h
    rw [dfind] at h
    by_cases e1 : x.1 ≤ pc ∧ pc < x.2.1
    · rw [if_pos e1] at h
      cases hx : XH x.2.2.2 with
      | none => rw [hx] at h; cases h
      | some nm =>
        rw [hx] at h
        dsimp only at h
        by_cases e0 : x.2.2.2 = 0
        · rw [if_pos e0] at h; cases h
        · rw [if_neg e0] at h
          by_cases e2 : nm = cls
          · rw [if_pos e2] at h
            cases h
            subst e2
            exact ⟨[], x, t, rfl, rfl, e1.1, e1.2, e0, hx, fun y hy => nomatch hy⟩
          · rw [if_neg e2] at h
            by_cases e3 : (cls, nm) ∈ ncs
            · rw [if_pos e3] at h
              obtain ⟨pre, y, suf, a1, a2, a3, a4, a5, a6, a7⟩ := ih h
              refine ⟨x :: pre, y, suf, by rw [a1]; rfl, a2, a3, a4, a5, a6, fun w hw => ?_⟩
              rcases List.mem_cons.mp hw with rfl | hw
              · exact Or.inr ⟨e0, nm, hx, e3⟩
              · exact a7 w hw
            · rw [if_neg e3] at h; cases h
    · rw [if_neg e1] at h
      obtain ⟨pre, y, suf, a1, a2, a3, a4, a5, a6, a7⟩ := ih h
      refine ⟨x :: pre, y, suf, by rw [a1]; rfl, a2, a3, a4, a5, a6, fun w hw => ?_⟩
      rcases List.mem_cons.mp hw with rfl | hw
      · exact Or.inl e1
      · exact a7 w hw
section DMCA
variable {E : dE} {X : dX} {cl : List vw_C} {GW : List Cond} {SL : dSL} {D : va_G} {cy : Nat → ClassId} {b : Nat}
theorem dsimC (hE : dOK E cl GW SL) (hX : dOKx E X GW) {r : dM} (hr : dOKr E cl GW SL r) {XH : Nat → Option String} {hh : dHH} (hH : ∀ idx nm, XH idx = some nm → nm ∈ exs ∧ Cond.classLink r.1.cls idx nm ∈ GW) :
    ∀ (n d pc : Nat) (lo : dL0) (st : List Value) (h : dH) (cs ss : Nat) (z : dZ), drunC E X XH hh b n d r pc lo st h cs ss = some z →
    ∀ (p : Program) (l : Launch) (e : Env) (R : Room) (s : State) (m : MethodId) (args : Array Value) (below : List Frame) (meth : Method) (c : Code) (H : Heap) (locs : List Loc) (ls : Array Slot),
      l.stackTraces = false → c.exceptionTable.toList = tableOf hh → d ≤ R.frames → 100 * d ≤ R.locals → z.2.2.1 ≤ R.cells → z.2.2.2 ≤ R.slots →
      p.tables.exec = Jvm.exec → c.code = r.2.1 → c.maxLocals = r.2.2.1 → s.vm.findClass r.1.cls = some m.cls → (∀ w ∈ GW, w.before args s = true) → meth.sig.returnType = r.2.2.2.1 → meth.locks = false → meth.name = r.1.name → dK D cl cy s → dT SL b s → dR D cl cy h H → va_S (dB b) s.heap H locs → dL lo ls r.2.2.1 →
      W p l e R s m args below meth c H locs cs ss (MQ below (dQ D cl cy z.1 z.2.1 b) args s z.2.2.1 z.2.2.2 (dB b)) (F0 m pc ls st) := by
  intro n
  induction n with
  | zero => intro d pc lo st h cs ss z hh; cases hh
  | succ n ih =>
    intro d pc lo st h cs ss z hrn p l e R s m args below meth c H locs ls hst htab hf hlo hce hsl hx hb hml hown hts hret hlk hmn hK hT hR hS hl
    obtain ⟨i, len, hd, ⟨w, h1, h2⟩ | ⟨g, h1, h2⟩ | ⟨v, h1, rfl⟩ | ⟨d', y, w, rfl, h1, h2, h3⟩ | ⟨d', y, w, idx, hp, k, ln, rfl, rfl, h1, h2, h3, h4, h5, h6⟩⟩ := drunC_step hrn
    · exact dpure_sim hx hb hd h1 hl (fun ls' hl' => ih d w.1 w.2.1 w.2.2 h cs ss z h2 p l e R s m args below meth c H locs ls' hst htab hf hlo hce hsl hx hb hml hown hts hret hlk hmn hK hT hR hS hl')
    · have hm := drunC_mono _ _ _ _ _ _ _ _ _ _ h2
      exact dheap_sim hE hr hf hlo hx hb (hml.trans hl.1.symm) hown hts hmn hK hT hR hS hd h1 (Nat.le_trans hm.1 hce) (Nat.le_trans hm.2 hsl) (fun H1 locs1 hR1 hS1 => ih d (pc + len) lo g.1 g.2.1 g.2.2.1 g.2.2.2 z h2 p l e R s m args below meth c H1 locs1 ls hst htab hf hlo hce hsl hx hb hml hown hts hret hlk hmn hK hT hR1 hS1 hl)
    · exact dret_sim hx hb hret hlk hd h1 hR hS
    · have hm := drunC_mono _ _ _ _ _ _ _ _ _ _ h3
      exact dcall_sim hE (dsim hE n d') hr h1 h2 hf hlo (Nat.le_trans hm.1 hce) (Nat.le_trans hm.2 hsl) hx hb hml hown hts hK hT hR hS hl hd (fun H1 locs1 hR1 hS1 => ih (d' + 1) (pc + 3) lo (w.1.toList ++ y.2.2) w.2.1 (cs + w.2.2.1) (ss + w.2.2.2) z h3 p l e R s m args below meth c H1 locs1 ls hst htab hf hlo hce hsl hx hb hml hown hts hret hlk hmn hK hT hR1 hS1 hl)
    · have hm := drunC_mono _ _ _ _ _ _ _ _ _ _ h6
      obtain ⟨o1, o3, o4, o5, o6, o7, o8, o9, -⟩ := hr
      obtain ⟨j', q, g1, g2, g3, rfl, g5, gi, g6, g7, As, g8, g9, g10⟩ := dinvV_inv h1
      obtain ⟨u2, u1, u3, u4, u5, u6, u7, -⟩ := hE.2.2.2 j' y.1 g2
      obtain ⟨v1, v2, T, N, v3⟩ := u7 g5
      have hM := dmetX (D := D) (cy := cy) hE (dsimX hE hX n d') g2 h2 g7 l hst (fun _ _ _ _ => False)
      rw [g9] at hM
      have hwarm : ∀ U : State, U.heap = H → s.WarmedH U.vm → dPre D cl cy SL b h U := fun U hU hW => ⟨by rw [hU]; exact hR, dK.moved hW.alike hK, dT.at hT hS hU hW⟩
      have hcb := callB_of (R := R) (mc := w.2.2.1) (ms := w.2.2.2) (own := r.1.cls) (index := idx) y.1.2.2.2.2.2.2 hts (d_good hE u2.1) rfl rfl rfl (hts _ u3) (hts _ (d_link (o9 idx j' y.1 g1 g2) g5)) u4 (rm := { frames := d', cells := w.2.2.1, slots := w.2.2.2, locals := 100 * d' }) ⟨hf, by show 8 + (y.1.2.2.1 + 11) + 100 * d' ≤ R.locals; omega⟩
      have hrec : ∃ cell : Cell, H[q]? = some cell ∧ cell.vm.isStatics = false ∧ s.vm.findClass y.1.1.cls = some cell.cls := d_recv hE (hE.2.2.2 j' y.1 g2).2 g5 g3 hK hT hR hS
      have hrun := vx_runV (p := p) (e := e) (H := H) (locs := locs) (cells := cs) (slots := ss) (below := below) (meth := meth) (g := F0 m pc ls st) (rest := y.2.2) ⟨hx, hb, hml, hown, hts⟩ hM ⟨hcb, hts _ v1, hts _ (v2 gi)⟩ ⟨d_blind _ _, hrec, fun U hU hW => ⟨rfl, hwarm U hU hW⟩⟩ rfl g8 hl.1 g10 (lv_room g6) hd ⟨Nat.le_trans hm.1 hce, Nat.le_trans hm.2 hsl⟩
      intro T9 hT9 X9
      rcases hrun T9 hT9 X9 with ⟨v, st₀, t, T', L, h0, X', hL, e1, e2, hq, st9⟩ | ⟨q9, st₀, t, T', L, F, ce, h0, X', hL, e1, e2, ⟨hF, hRt, hFr⟩, hce9, hcv, hcl, st9⟩
      · exact hq.elim
      · obtain ⟨k1, k2, k3⟩ := vx_keep h0 e1 hS (A1 := dB b) (fun q _ h => h) (free := dB b) (fun q h => h) hL hFr
        subst hF
        obtain ⟨pre, x, suf, a1, rfl, a3, a4, a5, a6, a7⟩ := dfind_inv h3
        obtain ⟨b1, b2⟩ := hH _ _ a6
        have hsplit : c.exceptionTable.toList = tableOf pre ++ ⟨x.1, x.2.1, x.2.2.1, x.2.2.2⟩ :: tableOf suf := by rw [htab, a1]; simp [tableOf]
        have hgo : W p l e R s m args below meth c T'.heap (locs ++ L) (cs + w.2.2.1) (ss + w.2.2.2) (MQ below (dQ D cl cy z.1 z.2.1 b) args s z.2.2.1 z.2.2.2 (dB b)) (F0 m x.2.2.1 ls [.ref q9]) := by
          have hR1 : dR D cl cy w.2.1 T'.heap := by rw [e1]; exact hRt
          rcases h5 with ⟨k', rfl, hk, rfl⟩ | ⟨hk, rfl⟩
          · exact lv_astore_n hx hb hk rfl (dL_has hl) h4 rfl (fun ls' h' => ih (d' + 1) _ _ _ _ _ _ z h6 p l e R s m args below meth c T'.heap (locs ++ L) ls' hst htab hf hlo hce hsl hx hb hml hown hts hret hlk hmn hK hT hR1 k3 (dL_clr (dL_set1 hl h')))
          · exact lv_astore hx hb hk (dL_has hl) h4 rfl (fun ls' h' => ih (d' + 1) _ _ _ _ _ _ z h6 p l e R s m args below meth c T'.heap (locs ++ L) ls' hst htab hf hlo hce hsl hx hb hml hown hts hret hlk hmn hK hT hR1 k3 (dL_clr (dL_set1 hl h')))
        have ko := vx_catch (ls := ls) (rest := y.2.2) (own := r.1.cls) (name := w.1) (E := w.1) (ce := ce) (q := q9) hown (tableOf pre) ⟨x.1, x.2.1, x.2.2.1, x.2.2.2⟩ (tableOf suf) hsplit (fun z9 hz9 => by
            obtain ⟨y9, hy9, rfl⟩ := List.mem_map.mp hz9
            rcases a7 y9 hy9 with g | ⟨g, nm, g', g''⟩
            · refine Or.inl ?_
              show (decide (y9.1 ≤ pc) && decide (pc < y9.2.1)) = false
              by_cases hq1 : y9.1 ≤ pc
              · by_cases hq2 : pc < y9.2.1
                · exact absurd ⟨hq1, hq2⟩ g
                · simp [hq2]
              · simp [hq1]
            · exact Or.inr ⟨g, nm, hts _ (hH _ _ g').2, hT.2.2.2.2.1 _ g''⟩) (by show (decide (x.1 ≤ pc) && decide (pc < x.2.1)) = true; simp [a3, a4]) a5 (hts _ b2) (va_Nw.use rfl (hT.2.2.1 w.1 b1)) (H := T'.heap) (by rw [e1]; exact hce9) hcv hcl hgo
        obtain ⟨t2, a8, b8⟩ := ko T' rfl X'
        exact ⟨t2, st9.trans a8, b8⟩
theorem dmetC (hE : dOK E cl GW SL) (hX : dOKx E X GW) {r : dM} (hr : dOKr E cl GW SL r) {XH : Nat → Option String} {hh : dHH} (hH : ∀ idx nm, XH idx = some nm → nm ∈ exs ∧ Cond.classLink r.1.cls idx nm ∈ GW) {n d : Nat} {as : List Value} {h : dH} {z : dZ} (hrun : drunC E X XH hh b n d r 0 (dent as) [] h 0 0 = some z) (hl : (lg_sl as).length ≤ r.2.2.1) (l : Launch) (hst : l.stackTraces = false) :
    Met l r.1 (Cond.codeWith r.1 r.2.1 r.2.2.1 r.2.2.2.1 hh :: GW) (dRoom d z) (va_Pc as (dPre D cl cy SL b h)) (dQ D cl cy z.1 z.2.1 b) z.2.2.1 z.2.2.2 (dB b) := by
  refine va_MetW (cc := r.2.1) (maxL := r.2.2.1) (ret := r.2.2.2.1) (hh := hh) hr.1 rfl ?_
  intro p e s m args below meth c s₁ B hml hv
  obtain ⟨rfl, hR, hK, hT⟩ := hv
  have hts := atoms_spec (ws := Cond.codeWith r.1 r.2.1 r.2.2.1 r.2.2.2.1 hh :: GW) B.pre
  have htab := vx_table (x := r.1) B (hts _ List.mem_cons_self)
  rw [lg_entry_eq]
  exact dsimC hE hX hr hH n d 0 (dent as) [] h 0 0 z hrun p l e (dRoom d z) s m as.toArray below meth c s.heap [] _ hst htab (Nat.le_refl _) (Nat.le_refl _) (Nat.le_refl _) (Nat.le_refl _) B.exec B.bytes hml (findClass_of_methodNamed B.named) (fun w hw => hts w (List.mem_cons_of_mem _ hw)) B.returns B.notSynchronized (name_of_methodNamed B.named B.method).1 hK hT hR va_S.rf (dL_entry hl)
end DMCA
