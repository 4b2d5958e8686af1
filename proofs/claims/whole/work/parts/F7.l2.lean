set_option maxHeartbeats 1600000
/-! steps of the law's own body -/
def lawP9 (v : Option Value) (cs ss : Nat) : Prop := v = some (.int 1) ∧ cs ≤ 601024 ∧ ss ≤ 7293034
/-- what the law's run comes to -/
def dV9 (E : dE) (X : dX) (K : dKE) (b scr L : Nat) (xs : Nat → Int32) (post : Option Value → Nat → Nat → Prop) (n d : Nat) (r : dM) (pc : Nat) (lo : dL0) (st : List Value) (h : dH) (cs ss : Nat) : Prop := True ∧ dwp E X K b scr L xs post n d r pc lo st h cs ss
section LW
variable {E : dE} {X : dX} {K : dKE} {b scr L : Nat} {xs : Nat → Int32} {post : Option Value → Nat → Nat → Prop} {n d pc cs ss : Nat} {r : dM} {lo : dL0} {st : List Value} {h : dH} {i : Instr} {len : Nat}
theorem lw_s9 {st' : List Value} {pc' : Nat} (hd : decode r.2.1 pc = .ok (i, len)) (hpc : pc + len = pc') (h1 : dscr scr L xs i len st = some st') (k : dV9 E X K b scr L xs post n d r pc' lo st' h cs ss) : dV9 E X K b scr L xs post (n + 1) d r pc lo st h cs ss := by
  refine ⟨trivial, ?_⟩
  rw [dwp, hd]
  dsimp only
  rw [h1]
  dsimp only
  rw [hpc]
  exact k.2
theorem lwP_9 {pc' : Nat} {lo' : dL0} {st' : List Value} (hd : decode r.2.1 pc = .ok (i, len)) (h0 : dscr scr L xs i len st = none) (hp : dpure i len pc r.2.2.1 lo st = some (pc', lo', st')) (k : dV9 E X K b scr L xs post n d r pc' lo' st' h cs ss) : dV9 E X K b scr L xs post (n + 1) d r pc lo st h cs ss := by
  refine ⟨trivial, ?_⟩
  rw [dwp, hd]
  dsimp only
  rw [h0]
  dsimp only
  rw [hp]
  exact k.2
theorem lw_h9 {st' : List Value} {h' : dH} {cs' ss' pc' : Nat} (hd : decode r.2.1 pc = .ok (i, len)) (hpc : pc + len = pc') (h0 : dscr scr L xs i len st = none) (hp : dpure i len pc r.2.2.1 lo st = none) (hg : dheap E b d r i len st h cs ss = some (st', h', cs', ss')) (k : dV9 E X K b scr L xs post n d r pc' lo st' h' cs' ss') : dV9 E X K b scr L xs post (n + 1) d r pc lo st h cs ss := by
  refine ⟨trivial, ?_⟩
  rw [dwp, hd]
  dsimp only
  rw [h0]
  dsimp only
  rw [hp]
  dsimp only
  rw [hg]
  dsimp only
  rw [hpc]
  exact k.2
theorem lw_t9 {v : Option Value} (hd : decode r.2.1 pc = .ok (i, len)) (h0 : dscr scr L xs i len st = none) (hp : dpure i len pc r.2.2.1 lo st = none) (hg : dheap E b d r i len st h cs ss = none) (hr : dret r i len st = some v) (k : post v cs ss) : dV9 E X K b scr L xs post (n + 1) d r pc lo st h cs ss := by
  refine ⟨trivial, ?_⟩
  rw [dwp, hd]
  dsimp only
  rw [h0]
  dsimp only
  rw [hp]
  dsimp only
  rw [hg]
  dsimp only
  rw [hr]
  exact k
theorem lw_c9 {y : dV} {k9 pc' : Nat} {z : dZ} {st' : List Value} (hd : decode r.2.1 pc = .ok (i, len)) (h0 : dscr scr L xs i len st = none) (hp : dpure i len pc r.2.2.1 lo st = none) (hg : dheap E b (d + 1) r i len st h cs ss = none) (hr : dret r i len st = none) (hy : dinv E r.2.2.2.2.2.1 i len st h = some y) (hz : drun E b k9 d y.1 0 (dent y.2.1) [] h 0 0 = some z) (hpc : pc + 3 = pc') (hst : z.1.toList ++ y.2.2 = st') (k : dV9 E X K b scr L xs post n (d + 1) r pc' lo st' z.2.1 (cs + z.2.2.1) (ss + z.2.2.2)) : dV9 E X K b scr L xs post (n + 1) (d + 1) r pc lo st h cs ss := by
  refine ⟨trivial, ?_⟩
  rw [dwp, hd]
  dsimp only
  rw [h0]
  dsimp only
  rw [hp]
  dsimp only
  rw [hg]
  dsimp only
  rw [hr]
  exact Or.inl ⟨y, k9, z, hy, hz, by rw [hpc, hst]; exact k.2⟩
theorem lw_k9 {y : dVK} {k9 pc' : Nat} {z : dZ} {st' : List Value} (hd : decode r.2.1 pc = .ok (i, len)) (h0 : dscr scr L xs i len st = none) (hp : dpure i len pc r.2.2.1 lo st = none) (hg : dheap E b (d + 1) r i len st h cs ss = none) (hr : dret r i len st = none) (hy : dinvK K r.2.2.2.2.2.1 i len st h = some y) (hz : drunC E X (K.2.2 y.1.1.2.2.2.2.2.1) y.1.2 b k9 d y.1.1 0 (dent y.2.1) [] h 0 0 = some z) (hw : ∃ w, dwN z.2.1 w) (hpc : pc + 3 = pc') (hst : z.1.toList ++ y.2.2 = st') (k : ∀ w, dwN z.2.1 w → dV9 E X K b scr L xs post n (d + 1) r pc' lo st' (some w, z.2.1.2) (cs + z.2.2.1) (ss + z.2.2.2)) : dV9 E X K b scr L xs post (n + 1) (d + 1) r pc lo st h cs ss := by
  refine ⟨trivial, ?_⟩
  rw [dwp, hd]
  dsimp only
  rw [h0]
  dsimp only
  rw [hp]
  dsimp only
  rw [hg]
  dsimp only
  rw [hr]
  exact Or.inr ⟨y, k9, z, hy, hz, hw, fun w h9 => by rw [hpc, hst]; exact (k w h9).2⟩
end LW
/-- more steps do no harm -/
theorem dwp_m9 {E : dE} {X : dX} {K : dKE} {b scr L : Nat} {xs : Nat → Int32} {post : Option Value → Nat → Nat → Prop} : ∀ (n d : Nat) (r : dM) (pc : Nat) (lo : dL0) (st : List Value) (h : dH) (cs ss : Nat), dwp E X K b scr L xs post n d r pc lo st h cs ss → dwp E X K b scr L xs post (n + 1) d r pc lo st h cs ss
  | 0, _, _, _, _, _, _, _, _, H => H.elim
  | n + 1, d, r, pc, lo, st, h, cs, ss, H => by
    rw [dwp] at H ⊢
    cases h1 : decode r.2.1 pc with
    | error x => rw [h1] at H; exact H
    | ok x =>
      obtain ⟨i, len⟩ := x
      rw [h1] at H
      dsimp only at H ⊢
      cases h2 : dscr scr L xs i len st with
      | some st' =>
        rw [h2] at H
        exact dwp_m9 n _ _ _ _ _ _ _ _ H
      | none =>
        rw [h2] at H
        dsimp only at H ⊢
        cases h3 : dpure i len pc r.2.2.1 lo st with
        | some z =>
          rw [h3] at H
          exact dwp_m9 n _ _ _ _ _ _ _ _ H
        | none =>
          rw [h3] at H
          dsimp only at H ⊢
          cases h4 : dheap E b d r i len st h cs ss with
          | some g =>
            rw [h4] at H
            exact dwp_m9 n _ _ _ _ _ _ _ _ H
          | none =>
            rw [h4] at H
            dsimp only at H ⊢
            cases h5 : dret r i len st with
            | some v => rw [h5] at H; exact H
            | none =>
              rw [h5] at H
              dsimp only at H ⊢
              cases d with
              | zero => exact H
              | succ d =>
                dsimp only at H ⊢
                rcases H with ⟨y, k, z, a1, a2, a3⟩ | ⟨y, k, z, a1, a2, a3, a4⟩
                · exact Or.inl ⟨y, k, z, a1, a2, dwp_m9 n _ _ _ _ _ _ _ _ a3⟩
                · exact Or.inr ⟨y, k, z, a1, a2, a3, fun w hw => dwp_m9 n _ _ _ _ _ _ _ _ (a4 w hw)⟩
theorem dwp_l9 {E : dE} {X : dX} {K : dKE} {b scr L : Nat} {xs : Nat → Int32} {post : Option Value → Nat → Nat → Prop} {n m d : Nat} {r : dM} {pc : Nat} {lo : dL0} {st : List Value} {h : dH} {cs ss : Nat} (hm : n ≤ m) (H : dwp E X K b scr L xs post n d r pc lo st h cs ss) : dwp E X K b scr L xs post m d r pc lo st h cs ss := by
  induction m with
  | zero =>
    have e : n = 0 := by omega
    rw [e] at H
    exact H
  | succ m ih =>
    by_cases e : n = m + 1
    · rw [← e]; exact H
    · exact dwp_m9 _ _ _ _ _ _ _ _ _ (ih (by omega))
theorem dV_l9 {E : dE} {X : dX} {K : dKE} {b scr L : Nat} {xs : Nat → Int32} {post : Option Value → Nat → Nat → Prop} {n m d : Nat} {r : dM} {pc : Nat} {lo : dL0} {st : List Value} {h : dH} {cs ss : Nat} (hm : n ≤ m) (H : dV9 E X K b scr L xs post n d r pc lo st h cs ss) : dV9 E X K b scr L xs post m d r pc lo st h cs ss := ⟨trivial, dwp_l9 hm H.2⟩
