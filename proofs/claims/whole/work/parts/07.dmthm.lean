theorem drec_inv {E : dE} {h : dH} {a o : Nat} (hh : drec E h a o = true) : (∃ fs, h.2 a = some (.inr (o, fs))) ∨ (o = 0 ∧ ∃ x ∈ eTL E, x.1 = a) := by
  have str : (o == 0 && ((eTL E).find? (fun x => x.1 == a)).isSome) = true → o = 0 ∧ ∃ x ∈ eTL E, x.1 = a := by
    intro hh
    simp only [Bool.and_eq_true, beq_iff_eq] at hh
    obtain ⟨x, hx⟩ := Option.isSome_iff_exists.mp hh.2
    obtain ⟨h1, h2⟩ := d_find hx
    exact ⟨hh.1, x, h1, by simpa using h2⟩
  unfold drec at hh
  cases hv : h.2 a with
  | none => rw [hv] at hh; exact Or.inr (str hh)
  | some e =>
    cases e with
    | inl q => rw [hv] at hh; exact Or.inr (str hh)
    | inr q =>
      rw [hv] at hh
      have hh : q.1 = o := by simpa using hh
      subst hh
      exact Or.inl ⟨q.2, rfl⟩
theorem dinvV_inv {E : dE} {o len idx : Nat} {st : List Value} {h : dH} {y : dV} (hh : dinvV E o len idx st h = some y) : ∃ j b, eML E o idx = some j ∧ eMT E j = some y.1 ∧ ((∃ fs, h.2 b = some (.inr (y.1.2.2.2.2.2.1, fs))) ∨ (y.1.2.2.2.2.2.1 = 0 ∧ ∃ x ∈ eTL E, x.1 = b)) ∧ len = 3 ∧ y.1.2.2.2.2.1 = false ∧ y.1.1.name ≠ "<init>" ∧ (y.2.2.map fun v => v.category).sum ≤ 8 ∧ (lg_sl y.2.1).length ≤ y.1.2.2.1 ∧
    ∃ As : List Value, As.length = y.1.2.2.2.2.2.2 ∧ y.2.1 = .ref b :: As ∧ st = As.reverse ++ .ref b :: y.2.2 := by
  unfold dinvV at hh
  cases h1 : eML E o idx with
  | none => rw [h1] at hh; cases hh
  | some j =>
    rw [h1] at hh
    dsimp only at hh
    cases h2 : eMT E j with
    | none => rw [h2] at hh; cases hh
    | some r =>
      rw [h2] at hh
      dsimp only at hh
      split at hh
      next b rest hst =>
        by_cases e9 : len = 3 ∧ r.2.2.2.2.1 = false ∧ r.1.name ≠ "<init>" ∧ drec E h b r.2.2.2.2.2.1 = true ∧ (rest.map fun v => v.category).sum ≤ 8 ∧ (lg_sl (.ref b :: (st.take r.2.2.2.2.2.2).reverse)).length ≤ r.2.2.1
        · rw [if_pos e9] at hh
          cases hh
          obtain ⟨e1, e2, ei, e3, e4, e5⟩ := e9
          have hlen : r.2.2.2.2.2.2 < st.length := by
            have := congrArg List.length hst
            simp at this
            omega
          refine ⟨j, b, rfl, h2, drec_inv e3, e1, e2, ei, e4, e5, (st.take r.2.2.2.2.2.2).reverse, ?_, rfl, ?_⟩
          · simp; omega
          · rw [List.reverse_reverse, ← hst]
            exact (List.take_append_drop _ _).symm
        · rw [if_neg e9] at hh; cases hh
      next => cases hh
theorem dinvS_inv {E : dE} {o len idx : Nat} {st : List Value} {y : dV} (hh : dinvS E o len idx st = some y) : ∃ j, eML E o idx = some j ∧ eMT E j = some y.1 ∧ len = 3 ∧ y.1.2.2.2.2.1 = true ∧ (y.2.2.map fun v => v.category).sum ≤ 8 ∧ (lg_sl y.2.1).length ≤ y.1.2.2.1 ∧ y.2.1.length = y.1.2.2.2.2.2.2 ∧ st = y.2.1.reverse ++ y.2.2 := by
  unfold dinvS at hh
  cases h1 : eML E o idx with
  | none => rw [h1] at hh; cases hh
  | some j =>
    rw [h1] at hh
    dsimp only at hh
    cases h2 : eMT E j with
    | none => rw [h2] at hh; cases hh
    | some r =>
      rw [h2] at hh
      dsimp only at hh
      by_cases e9 : len = 3 ∧ r.2.2.2.2.1 = true ∧ r.2.2.2.2.2.2 ≤ st.length ∧ ((st.drop r.2.2.2.2.2.2).map fun v => v.category).sum ≤ 8 ∧ (lg_sl ((st.take r.2.2.2.2.2.2).reverse)).length ≤ r.2.2.1
      · rw [if_pos e9] at hh
        cases hh
        obtain ⟨e1, e2, e3, e4, e5⟩ := e9
        refine ⟨j, rfl, h2, e1, e2, e4, e5, ?_, ?_⟩
        · simp; omega
        · rw [List.reverse_reverse]
          exact (List.take_append_drop _ _).symm
      · rw [if_neg e9] at hh; cases hh
theorem dinvI_inv {E : dE} {o len idx : Nat} {st : List Value} {y : dV} (hh : dinvI E o len idx st = some y) : ∃ j b, eML E o idx = some j ∧ eMT E j = some y.1 ∧ len = 3 ∧ y.1.2.2.2.2.1 = false ∧ y.1.1.name = "<init>" ∧ y.1.2.2.2.1 = none ∧ (y.2.2.map fun v => v.category).sum ≤ 8 ∧ (lg_sl y.2.1).length ≤ y.1.2.2.1 ∧
    ∃ As : List Value, As.length = y.1.2.2.2.2.2.2 ∧ y.2.1 = .ref b :: As ∧ st = As.reverse ++ .ref b :: y.2.2 := by
  unfold dinvI at hh
  cases h1 : eML E o idx with
  | none => rw [h1] at hh; cases hh
  | some j =>
    rw [h1] at hh
    dsimp only at hh
    cases h2 : eMT E j with
    | none => rw [h2] at hh; cases hh
    | some r =>
      rw [h2] at hh
      dsimp only at hh
      split at hh
      next b rest hst =>
        by_cases e9 : len = 3 ∧ r.2.2.2.2.1 = false ∧ r.1.name = "<init>" ∧ r.2.2.2.1.isNone = true ∧ (rest.map fun v => v.category).sum ≤ 8 ∧ (lg_sl (.ref b :: (st.take r.2.2.2.2.2.2).reverse)).length ≤ r.2.2.1
        · rw [if_pos e9] at hh
          cases hh
          obtain ⟨e1, e2, e3, e6, e4, e5⟩ := e9
          have hlen : r.2.2.2.2.2.2 < st.length := by
            have := congrArg List.length hst
            simp at this
            omega
          refine ⟨j, b, rfl, h2, e1, e2, e3, Option.isNone_iff_eq_none.mp e6, e4, e5, (st.take r.2.2.2.2.2.2).reverse, ?_, rfl, ?_⟩
          · simp; omega
          · rw [List.reverse_reverse, ← hst]
            exact (List.take_append_drop _ _).symm
        · rw [if_neg e9] at hh; cases hh
      next => cases hh
section DMT
variable {E : dE} {cl : List vw_C} {GW : List Cond} {SL : dSL} {D : va_G} {cy : Nat → ClassId} {b : Nat}
theorem d_recv (hE : dOK E cl GW SL) {h : dH} {r : dM} {a : Nat} (hr : dOKr E cl GW SL r) (hs : r.2.2.2.2.1 = false) (hv : (∃ fs, h.2 a = some (.inr (r.2.2.2.2.2.1, fs))) ∨ (r.2.2.2.2.2.1 = 0 ∧ ∃ x ∈ eTL E, x.1 = a)) {s : State} {H : Heap} {locs : List Loc} (hK : dK D cl cy s) (hT : dT SL b s) (hR : dR D cl cy h H) (hS : va_S (dB b) s.heap H locs) : ∃ cell : Cell, H[a]? = some cell ∧ cell.vm.isStatics = false ∧ s.vm.findClass r.1.cls = some cell.cls := by
  obtain ⟨-, -, -, -, -, u7, -⟩ := hr
  obtain ⟨v1, v2, T, N, v3⟩ := u7 hs
  rcases hv with ⟨fs, g3⟩ | ⟨g3, x, hx, rfl⟩
  · exact va_recv hK.1 (dP1 (hR.2 a _ g3)) v3 (q0 := 0) rfl
  · obtain ⟨T2, N2, hc⟩ := hE.2.2.1.2.2
    rw [g3, hc] at v3
    have e : "java/lang/String" = r.1.cls := congrArg Prod.fst (Option.some.inj v3)
    obtain ⟨a1, -⟩ := hT.2.2.2.2.2.2.2.2 x (by rw [← hE.2.2.1.2.1]; exact hx)
    obtain ⟨cell, h1, h2, h3, -⟩ := a1.kept hS.2.1
    exact ⟨cell, h1, h2, by rw [← e]; exact h3⟩
theorem d_good (hE : dOK E cl GW SL) {r : dM} (hc : Cond.code r.1 r.2.1 r.2.2.1 r.2.2.2.1 ∈ GW) : GoodIn GW (Cond.code r.1 r.2.1 r.2.2.1 r.2.2.2.1 :: GW) := by
  intro w hw
  rcases List.mem_cons.mp hw with rfl | hw
  · exact ⟨hc, good_of_word (hE.1 _ hc)⟩
  · exact ⟨hw, good_of_word (hE.1 _ hw)⟩
theorem d_blind (as : List Value) (h : dH) : FrameBlind (va_Pc as (dPre D cl cy SL b h)) := by
  intro a U g mk q
  obtain ⟨q0, q1, q2, q3⟩ := q
  exact ⟨q0, q1, dK.moved (u := U) (U := U.calling g mk a) (Vm.Alike.refl U.vm) q2, dT.same rfl rfl q3⟩
theorem dret_sim {p : Program} {l : Launch} {e : Env} {R : Room} {s : State} {m : MethodId} {args : Array Value} {below : List Frame} {meth : Method} {c : Code} {H : Heap} {locs : List Loc} {cells slots : Nat} {pc : Nat} {ls : Array Slot} {r : dM} {i : Instr} {len : Nat} {st : List Value} {v : Option Value} {h : dH}
    (hx : p.tables.exec = Jvm.exec) (hb : c.code = r.2.1) (hret : meth.sig.returnType = r.2.2.2.1) (hlk : meth.locks = false) (hd : decode r.2.1 pc = .ok (i, len)) (hh : dret r i len st = some v) (hR : dR D cl cy h H) (hS : va_S (dB b) s.heap H locs) :
    W p l e R s m args below meth c H locs cells slots (MQ below (dQ D cl cy v h b) args s cells slots (dB b)) (F0 m pc ls st) := by
  cases i with
  | ireturn =>
    unfold dret at hh
    dsimp only at hh
    split at hh
    next x =>
      split at hh
      next ty hty =>
        by_cases e9 : len = 1 ∧ narrow ty (.int x) = .int x
        · rw [if_pos e9] at hh
          cases hh
          obtain ⟨rfl, e2⟩ := e9
          exact W.zret hx hb (hret.trans hty) e2 (fun t ht hW => ⟨rfl, by rw [ht]; exact hR, hS.F ht⟩) hS.2.2 hd hlk
        · rw [if_neg e9] at hh; cases hh
      next => cases hh
    next => cases hh
  | lreturn =>
    unfold dret at hh
    dsimp only at hh
    split at hh
    next x =>
      split at hh
      next hty =>
        by_cases e9 : len = 1
        · rw [if_pos e9] at hh
          cases hh
          subst e9
          exact W.lret hx hb (hret.trans hty) (fun t ht hW => ⟨rfl, by rw [ht]; exact hR, hS.F ht⟩) hS.2.2 hd hlk
        · rw [if_neg e9] at hh; cases hh
      next => cases hh
    next => cases hh
  | areturn =>
    unfold dret at hh
    dsimp only at hh
    split at hh
    next x =>
      split at hh
      next n hty =>
        by_cases e9 : len = 1
        · rw [if_pos e9] at hh
          cases hh
          subst e9
          exact W.aret hx hb (hret.trans hty) (Or.inl ⟨_, rfl⟩) (Or.inr ⟨_, rfl⟩) (fun t ht hW => ⟨rfl, by rw [ht]; exact hR, hS.F ht⟩) hS.2.2 hd hlk
        · rw [if_neg e9] at hh; cases hh
      next n hty =>
        by_cases e9 : len = 1
        · rw [if_pos e9] at hh
          cases hh
          subst e9
          exact W.aret hx hb (hret.trans hty) (Or.inr ⟨_, rfl⟩) (Or.inr ⟨_, rfl⟩) (fun t ht hW => ⟨rfl, by rw [ht]; exact hR, hS.F ht⟩) hS.2.2 hd hlk
        · rw [if_neg e9] at hh; cases hh
      next => cases hh
    next =>
      split at hh
      next n hty =>
        by_cases e9 : len = 1
        · rw [if_pos e9] at hh
          cases hh
          subst e9
          exact W.aret hx hb (hret.trans hty) (Or.inl ⟨_, rfl⟩) (Or.inl rfl) (fun t ht hW => ⟨rfl, by rw [ht]; exact hR, hS.F ht⟩) hS.2.2 hd hlk
        · rw [if_neg e9] at hh; cases hh
      next => cases hh
    next => cases hh
  | return_ =>
    unfold dret at hh
    dsimp only at hh
    split at hh
    next =>
      split at hh
      next hty =>
        by_cases e9 : len = 1
        · rw [if_pos e9] at hh
          cases hh
          subst e9
          exact W.vret hx hb (hret.trans hty) (fun t ht hW => ⟨rfl, by rw [ht]; exact hR, hS.F ht⟩) hS.2.2 hd hlk
        · rw [if_neg e9] at hh; cases hh
      next => cases hh
    next => cases hh
  | _ => cases hh
/-- a call's row: what the caller goes on with -/
theorem dcall_sim (hE : dOK E cl GW SL) {n d' : Nat} (ih : dSim E cl GW SL D cy b n d') {r : dM} (hr : dOKr E cl GW SL r) {i : Instr} {len : Nat} {st : List Value} {h : dH} {y : dV} {w : dZ} (h1 : dinv E r.2.2.2.2.2.1 i len st h = some y) (h2 : drun E b n d' y.1 0 (dent y.2.1) [] h 0 0 = some w)
    {p : Program} {l : Launch} {e : Env} {R : Room} {s : State} {m : MethodId} {args : Array Value} {below : List Frame} {meth : Method} {c : Code} {H : Heap} {locs : List Loc} {ls : Array Slot} {pc cs ss : Nat} {lo : dL0} {Q : State → Prop}
    (hf : d' + 1 ≤ R.frames) (hlo : 100 * (d' + 1) ≤ R.locals) (hc1 : cs + w.2.2.1 ≤ R.cells) (hs1 : ss + w.2.2.2 ≤ R.slots)
    (hx : p.tables.exec = Jvm.exec) (hb : c.code = r.2.1) (hml : c.maxLocals = r.2.2.1) (hown : s.vm.findClass r.1.cls = some m.cls) (hts : ∀ w ∈ GW, w.before args s = true) (hK : dK D cl cy s) (hT : dT SL b s) (hR : dR D cl cy h H) (hS : va_S (dB b) s.heap H locs) (hl : dL lo ls r.2.2.1) (hd : decode r.2.1 pc = .ok (i, len))
    (kk : ∀ (H1 : Heap) (locs1 : List Loc), dR D cl cy w.2.1 H1 → va_S (dB b) s.heap H1 locs1 → W p l e R s m args below meth c H1 locs1 (cs + w.2.2.1) (ss + w.2.2.2) Q (F0 m (pc + 3) ls (w.1.toList ++ y.2.2))) : W p l e R s m args below meth c H locs cs ss Q (F0 m pc ls st) := by
  obtain ⟨o1, o3, o4, o5, o6, o7, o8, o9, -⟩ := hr
  have hwarm : ∀ U : State, U.heap = H → s.WarmedH U.vm → dPre D cl cy SL b h U := fun U hU hW => ⟨by rw [hU]; exact hR, dK.moved hW.alike hK, dT.at hT hS hU hW⟩
  cases i with
  | invokevirtual idx =>
    obtain ⟨j', q, g1, g2, g3, rfl, g5, gi, g6, g7, As, g8, g9, g10⟩ := dinvV_inv h1
    obtain ⟨u2, u1, u3, u4, u5, u6, u7, -⟩ := hE.2.2.2 j' y.1 g2
    obtain ⟨v1, v2, T, N, v3⟩ := u7 g5
    have hM := dmet hE ih g2 h2 g7 l
    rw [g9] at hM
    have hcb := callB_of (R := R) (mc := w.2.2.1) (ms := w.2.2.2) (own := r.1.cls) (index := idx) y.1.2.2.2.2.2.2 hts (d_good hE u2.1) rfl rfl rfl (hts _ u3) (hts _ (d_link (o9 idx j' y.1 g1 g2) g5)) u4 (rm := dRoom d' w) ⟨hf, by show 8 + (y.1.2.2.1 + 11) + 100 * d' ≤ R.locals; omega⟩
    have hrec : ∃ cell : Cell, H[q]? = some cell ∧ cell.vm.isStatics = false ∧ s.vm.findClass y.1.1.cls = some cell.cls := d_recv hE (hE.2.2.2 j' y.1 g2).2 g5 g3 hK hT hR hS
    · have hrun := va_runV (p := p) (e := e) (H := H) (locs := locs) (cells := cs) (slots := ss) (below := below) (meth := meth) (g := F0 m pc ls st) (rest := y.2.2) ⟨hx, hb, hml, hown, hts⟩ hM ⟨hcb, hts _ v1, hts _ (v2 gi)⟩ ⟨d_blind _ _, hrec, fun U hU hW => ⟨rfl, hwarm U hU hW⟩⟩ rfl g8 hl.1 g10 (lv_room g6) hd ⟨hc1, hs1⟩
      exact dcallW hrun hS kk
  | invokestatic idx =>
    obtain ⟨j', g1, g2, rfl, g5, g6, g7, g8, g10⟩ := dinvS_inv h1
    obtain ⟨u2, u1, u3, u4, u5, u6, u7, -⟩ := hE.2.2.2 j' y.1 g2
    have hM := dmet hE ih g2 h2 g7 l
    rcases o9 idx j' y.1 g1 g2 with hlk | ⟨-, host, hlk⟩
    · have hcb := callB_of (R := R) (mc := w.2.2.1) (ms := w.2.2.2) (own := r.1.cls) (index := idx) y.1.2.2.2.2.2.2 hts (d_good hE u2.1) rfl rfl rfl (hts _ u3) (hts _ hlk) u4 (rm := dRoom d' w) ⟨hf, by show 8 + (y.1.2.2.1 + 11) + 100 * d' ≤ R.locals; omega⟩
      have hrun := va_runS (p := p) (e := e) (H := H) (locs := locs) (cells := cs) (slots := ss) (below := below) (meth := meth) (g := F0 m pc ls st) (rest := y.2.2) ⟨hx, hb, hml, hown, hts⟩ hM ⟨hcb, hts _ (u2.2 g5)⟩ ⟨d_blind _ _, fun U hU hW => ⟨rfl, hwarm U hU hW⟩⟩ rfl g8 hl.1 g10 (lv_room g6) hd ⟨hc1, hs1⟩
      exact dcallW hrun hS kk
    · have hcb := va_cnB (R := R) (mc := w.2.2.1) (ms := w.2.2.2) (own := r.1.cls) (index := idx) (host := host) y.1.2.2.2.2.2.2 hts (d_good hE u2.1) rfl rfl rfl (hT.2.2.2.2.2.2.2.1 _ hlk) (hts _ u3) u4 (rm := dRoom d' w) ⟨hf, by show 8 + (y.1.2.2.1 + 11) + 100 * d' ≤ R.locals; omega⟩
      have hrun := va_runSN (p := p) (e := e) (H := H) (locs := locs) (cells := cs) (slots := ss) (below := below) (meth := meth) (g := F0 m pc ls st) (rest := y.2.2) ⟨hx, hb, hml, hown, hts⟩ hM ⟨hcb, hts _ (u2.2 g5), trivial⟩ ⟨d_blind _ _, fun U hU hW => ⟨rfl, hwarm U hU hW⟩⟩ rfl g8 hl.1 g10 (lv_room g6) hd ⟨hc1, hs1⟩
      exact dcallW hrun hS kk
  | invokespecial idx =>
    obtain ⟨j', q, g1, g2, rfl, g5, gi, gn, g6, g7, As, g8, g9, g10⟩ := dinvI_inv h1
    obtain ⟨u2, u1, u3, u4, u5, u6, u7, -⟩ := hE.2.2.2 j' y.1 g2
    obtain ⟨v1, v2, T, N, v3⟩ := u7 g5
    have hM := dmet hE ih g2 h2 g7 l
    rw [g9] at hM
    have hcb := callB_of (R := R) (mc := w.2.2.1) (ms := w.2.2.2) (own := r.1.cls) (index := idx) y.1.2.2.2.2.2.2 hts (d_good hE u2.1) rfl rfl rfl (hts _ u3) (hts _ (d_link (o9 idx j' y.1 g1 g2) g5)) u4 (rm := dRoom d' w) ⟨hf, by show 8 + (y.1.2.2.1 + 11) + 100 * d' ≤ R.locals; omega⟩
    rw [gn] at hcb hM
    have hrun := va_runI (p := p) (e := e) (H := H) (locs := locs) (cells := cs) (slots := ss) (below := below) (meth := meth) (g := F0 m pc ls st) (rest := y.2.2) ⟨hx, hb, hml, hown, hts⟩ hM ⟨hcb, gi, hts _ v1⟩ ⟨d_blind _ _, fun U hU hW => ⟨rfl, hwarm U hU hW⟩⟩ rfl g8 hl.1 g10 (lv_room g6) hd ⟨hc1, hs1⟩
    exact dcallW hrun hS kk
  | _ => cases h1
/-- every run of the small machine is one of the kit's -/
theorem dsim (hE : dOK E cl GW SL) : ∀ n d, dSim E cl GW SL D cy b n d := by
  intro n
  induction n with
  | zero => intro d j r pc lo st h cs ss z hj hh; cases hh
  | succ n ih =>
    intro d j r pc lo st h cs ss z hj hh p l e R s m args below meth c H locs ls hf hlo hce hsl hx hb hml hown hts hret hlk hmn hK hT hR hS hl
    obtain ⟨i, len, hd, ⟨w, h1, h2⟩ | ⟨g, h1, h2⟩ | ⟨v, h1, rfl⟩ | ⟨d', y, w, rfl, h1, h2, h3⟩⟩ := drun_step hh
    · exact dpure_sim hx hb hd h1 hl (fun ls' hl' => ih d j r w.1 w.2.1 w.2.2 h cs ss z hj h2 p l e R s m args below meth c H locs ls' hf hlo hce hsl hx hb hml hown hts hret hlk hmn hK hT hR hS hl')
    · have hm := drun_mono _ _ _ _ _ _ _ _ _ _ h2
      exact dheap_sim hE (hE.2.2.2 j r hj).2 hf hlo hx hb (hml.trans hl.1.symm) hown hts hmn hK hT hR hS hd h1 (Nat.le_trans hm.1 hce) (Nat.le_trans hm.2 hsl) (fun H1 locs1 hR1 hS1 => ih d j r (pc + len) lo g.1 g.2.1 g.2.2.1 g.2.2.2 z hj h2 p l e R s m args below meth c H1 locs1 ls hf hlo hce hsl hx hb hml hown hts hret hlk hmn hK hT hR1 hS1 hl)
    · exact dret_sim hx hb hret hlk hd h1 hR hS
    · have hm := drun_mono _ _ _ _ _ _ _ _ _ _ h3
      exact dcall_sim hE (ih d') (hE.2.2.2 j r hj).2 h1 h2 hf hlo (Nat.le_trans hm.1 hce) (Nat.le_trans hm.2 hsl) hx hb hml hown hts hK hT hR hS hl hd (fun H1 locs1 hR1 hS1 => ih (d' + 1) j r (pc + 3) lo (w.1.toList ++ y.2.2) w.2.1 (cs + w.2.2.1) (ss + w.2.2.2) z hj h3 p l e R s m args below meth c H1 locs1 ls hf hlo hce hsl hx hb hml hown hts hret hlk hmn hK hT hR1 hS1 hl)
end DMT
