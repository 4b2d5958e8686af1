set_option maxHeartbeats 1600000
/-! ChanceWorks.program: its run -/
theorem dX12_program_16 : decode cX12_program 16 = .ok (.astore_n 2, 1) := by decide +kernel
theorem dX12_program_17 : decode cX12_program 17 = .ok (.iconst 0, 1) := by decide +kernel
theorem dX12_program_18 : decode cX12_program 18 = .ok (.istore_n 1, 1) := by decide +kernel
theorem gc_p9 {E : dE} {X : dX} {XH : Nat → Option String} {hx : dHH} {b n d : Nat} {r : dM} {pc : Nat} {lo : dL0} {st : List Value} {h : dH} {cs ss : Nat} {z : dZ} {i : Instr} {len : Nat} {w : Nat × dL0 × List Value} (hd : decode r.2.1 pc = .ok (i, len)) (hp : dpure i len pc r.2.2.1 lo st = some w) (K : drunC E X XH hx b n d r w.1 w.2.1 w.2.2 h cs ss = some z) : drunC E X XH hx b (n + 1) d r pc lo st h cs ss = some z := by
  rw [drunC, hd]
  dsimp only
  rw [hp]
  exact K
theorem gc_h9 {E : dE} {X : dX} {XH : Nat → Option String} {hx : dHH} {b n d : Nat} {r : dM} {pc : Nat} {lo : dL0} {st : List Value} {h : dH} {cs ss : Nat} {z : dZ} {i : Instr} {len : Nat} {g : dG} (hd : decode r.2.1 pc = .ok (i, len)) (hp : dpure i len pc r.2.2.1 lo st = none) (hg : dheap E b d r i len st h cs ss = some g) (K : drunC E X XH hx b n d r (pc + len) lo g.1 g.2.1 g.2.2.1 g.2.2.2 = some z) : drunC E X XH hx b (n + 1) d r pc lo st h cs ss = some z := by
  rw [drunC, hd]
  dsimp only
  rw [hp]
  dsimp only
  rw [hg]
  exact K
/-- a call that returns -/
theorem gc_r9 {E : dE} {X : dX} {XH : Nat → Option String} {hx : dHH} {b n d : Nat} {r : dM} {pc : Nat} {lo : dL0} {st : List Value} {h : dH} {cs ss : Nat} {z w : dZ} {i : Instr} {len : Nat} {y : dV} (hd : decode r.2.1 pc = .ok (i, len)) (hp : dpure i len pc r.2.2.1 lo st = none) (hg : dheap E b (d + 1) r i len st h cs ss = none) (hy : dinv E r.2.2.2.2.2.1 i len st h = some y) (hr : drun E b n d y.1 0 (dent y.2.1) [] h 0 0 = some w) (K : drunC E X XH hx b n (d + 1) r (pc + 3) lo (w.1.toList ++ y.2.2) w.2.1 (cs + w.2.2.1) (ss + w.2.2.2) = some z) : drunC E X XH hx b (n + 1) (d + 1) r pc lo st h cs ss = some z := by
  rw [drunC, hd]
  dsimp only
  rw [hp]
  dsimp only
  rw [hg]
  dsimp only
  rw [dinv_ret (r := r) hy]
  dsimp only
  rw [hy]
  dsimp only
  rw [hr]
  exact K
/-- a call that throws, and is caught -/
theorem gc_x9 {E : dE} {X : dX} {XH : Nat → Option String} {hx : dHH} {b n d idx hp0 : Nat} {k : Fin 4} {r : dM} {pc : Nat} {lo : dL0} {st : List Value} {h : dH} {cs ss : Nat} {z : dZ} {w : dY} {len : Nat} {y : dV} (hd : decode r.2.1 pc = .ok (.invokevirtual idx, len)) (hp : dpure (.invokevirtual idx) len pc r.2.2.1 lo st = none) (hg : dheap E b (d + 1) r (.invokevirtual idx) len st h cs ss = none) (hy : dinv E r.2.2.2.2.2.1 (.invokevirtual idx) len st h = some y) (hn : drun E b n d y.1 0 (dent y.2.1) [] h 0 0 = none) (hr : drunX E X b n d y.1 0 (dent y.2.1) [] h 0 0 = some w) (hf : dfind XH pc w.1 hx = some hp0) (hd2 : decode r.2.1 hp0 = .ok (.astore_n k, 1)) (hk : (k : Nat) < r.2.2.1) (K : drunC E X XH hx b n (d + 1) r (hp0 + 1) (dclr lo (k : Nat)) [] w.2.1 (cs + w.2.2.1) (ss + w.2.2.2) = some z) : drunC E X XH hx b (n + 1) (d + 1) r pc lo st h cs ss = some z := by
  rw [drunC, hd]
  try dsimp only
  rw [hp]
  try dsimp only
  rw [hg]
  try dsimp only
  rw [dinv_ret (r := r) hy]
  try dsimp only
  rw [hy]
  try dsimp only
  rw [hn]
  try dsimp only
  rw [hr]
  try dsimp only
  rw [hf]
  try dsimp only
  rw [hd2]
  exact (if_pos hk).trans K
