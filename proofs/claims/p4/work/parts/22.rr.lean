/-! steps of the reference's methods over its own state -/
section RR
variable {sa : Nat → Nat} {TL : List (Nat × Nat × List Int32)} {b d : Nat} {r : dM} {pc : Nat} {lo : dL0} {st : List Value} {hb : dH} {o : Nat} {ad : Nat → Nat} {σ : rS} {cs ss : Nat} {z : dZ}
theorem rg_p {i : Instr} {len : Nat} {w : dP} (hd : decode r.2.1 pc = .ok (i, len)) (hw : dpure i len pc r.2.2.1 lo st = some w) (K : dGo (dEE sa TL) b d r w.1 w.2.1 w.2.2 (rH hb o ad σ) cs ss z) : dGo (dEE sa TL) b d r pc lo st (rH hb o ad σ) cs ss z := go_pure hd hw K
theorem rg_get {idx k : Nat} (hd : decode r.2.1 pc = .ok (.getfield idx, 3)) (ho : r.2.2.2.2.2.1 = 16) (hf : (tFL 16).lookup idx = some (16, k)) (hk : k < 126) {v : Value} (hv : rV ad σ k = v) (K : dGo (dEE sa TL) b d r (pc + 3) lo (v :: st) (rH hb o ad σ) cs ss z) : dGo (dEE sa TL) b d r pc lo (.ref o :: st) (rH hb o ad σ) cs ss z := by
  have h1 : dgetf (dEE sa TL) r.2.2.2.2.2.1 3 idx (.ref o :: st) (rH hb o ad σ) cs ss = some (v :: st, rH hb o ad σ, cs, ss) := by
    have hf' : eFL (dEE sa TL) 16 idx = some (16, k) := hf
    unfold dgetf
    simp only [rH_obj, ho, hf', rF_at hk, hv]
    rfl
  refine go_heap hd rfl (g := (v :: st, rH hb o ad σ, cs, ss)) ?_ K
  show dor (dgetf _ _ _ _ _ _ _ _) _ = _
  rw [h1]
  rfl
theorem rg_puti {idx k : Nat} {x : Int32} {ty : FieldType} (hA : rA b o ad) (hd : decode r.2.1 pc = .ok (.putfield idx, 3)) (ho : r.2.2.2.2.2.1 = 16) (hf : (tFL 16).lookup idx = some (16, k)) (hk : k < 126) (hT : rT k = none) (hl : ¬ (k = 110 ∨ k = 112)) (ht : tFT 16 k = some (ty, false)) (hn : narrow ty (.int x) = .int x) (hfit : fits ty (.int x) = true) (K : dGo (dEE sa TL) b d r (pc + 3) lo st (rH hb o ad (siU σ k x)) cs ss z) : dGo (dEE sa TL) b d r pc lo (.int x :: .ref o :: st) (rH hb o ad σ) cs ss z := by
  have he : dupd (rH hb o ad σ) o (.inr (16, (rF ad σ).set k (.int x))) = rH hb o ad (siU σ k x) := rH_put (b := b) (by unfold rV siU; rw [hT]; simp [hl]) (fun j hj => by unfold rV siU; simp [hj]) rfl
  have hlen : k < (rF ad σ).length := by unfold rF; simp; exact hk
  refine go_heap hd rfl (g := (st, rH hb o ad (siU σ k x), cs, ss)) ?_ K
  show dputf (dEE sa TL) b r.2.2.2.2.2.1 3 idx _ (.int x :: .ref o :: st) (rH hb o ad σ) cs ss = _
  have hf' : eFL (dEE sa TL) 16 idx = some (16, k) := hf
  have ht' : eFT (dEE sa TL) 16 k = some (ty, false) := ht
  unfold dputf
  simp only [rH_obj, ho, hf', ht']
  rw [if_pos ⟨trivial, hA.1, trivial, Or.inl trivial, hn, hfit, hlen⟩, he]
theorem rg_ild {k n : Nat} {i : Int32} (hA : rA b o ad) (hd : decode r.2.1 pc = .ok (.iaload, 1)) (hT : rT k = some (0, n)) (hin : ¬ (i < 0 ∨ n ≤ i.toNatClampNeg)) (K : dGo (dEE sa TL) b d r (pc + 1) lo (.int (σ.2.2.1 k i.toNatClampNeg) :: st) (rH hb o ad σ) cs ss z) : dGo (dEE sa TL) b d r pc lo (.int i :: .ref (ad k) :: st) (rH hb o ad σ) cs ss z := by
  refine go_heap hd rfl (g := (.int (σ.2.2.1 k i.toNatClampNeg) :: st, rH hb o ad σ, cs, ss)) ?_ K
  show daldI 0 1 (.int i :: .ref (ad k) :: st) (rH hb o ad σ) cs ss = _
  unfold daldI
  simp only [rH_row hA hT, rRow]
  simp [hin]
theorem rg_bld {k n : Nat} {i : Int32} (hA : rA b o ad) (hd : decode r.2.1 pc = .ok (.baload, 1)) (hT : rT k = some (1, n)) (hin : ¬ (i < 0 ∨ n ≤ i.toNatClampNeg)) (K : dGo (dEE sa TL) b d r (pc + 1) lo (.int (σ.2.2.1 k i.toNatClampNeg) :: st) (rH hb o ad σ) cs ss z) : dGo (dEE sa TL) b d r pc lo (.int i :: .ref (ad k) :: st) (rH hb o ad σ) cs ss z := by
  refine go_heap hd rfl (g := (.int (σ.2.2.1 k i.toNatClampNeg) :: st, rH hb o ad σ, cs, ss)) ?_ K
  show dor (daldI 1 1 (.int i :: .ref (ad k) :: st) (rH hb o ad σ) cs ss) _ = _
  have h1 : daldI 1 1 (.int i :: .ref (ad k) :: st) (rH hb o ad σ) cs ss = some (.int (σ.2.2.1 k i.toNatClampNeg) :: st, rH hb o ad σ, cs, ss) := by
    unfold daldI
    simp only [rH_row hA hT, rRow]
    simp [hin]
  rw [h1]
  rfl
theorem rg_ist {k n : Nat} {i x : Int32} (hA : rA b o ad) (hd : decode r.2.1 pc = .ok (.iastore, 1)) (hT : rT k = some (0, n)) (hin : ¬ (i < 0 ∨ n ≤ i.toNatClampNeg)) (K : dGo (dEE sa TL) b d r (pc + 1) lo st (rH hb o ad (riU σ k i.toNatClampNeg x)) cs ss z) : dGo (dEE sa TL) b d r pc lo (.int x :: .int i :: .ref (ad k) :: st) (rH hb o ad σ) cs ss z := by
  have he : dupd (rH hb o ad σ) (ad k) (rRow (riU σ k i.toNatClampNeg x) k (0, n)) = rH hb o ad (riU σ k i.toNatClampNeg x) := rH_ast hA hT rfl rfl (fun j hj => by unfold riU; simp [hj])
  have he2 : rRow (riU σ k i.toNatClampNeg x) k (0, n) = .inl (0, n, .inl (upd (σ.2.2.1 k) i.toNatClampNeg x)) := by unfold rRow riU; simp
  refine go_heap hd rfl (g := (st, rH hb o ad (riU σ k i.toNatClampNeg x), cs, ss)) ?_ K
  show dastI b 0 1 (fun x => x) (.int x :: .int i :: .ref (ad k) :: st) (rH hb o ad σ) cs ss = _
  have hb9 := (hA.2.1 k _ hT).1
  unfold dastI
  simp only [rH_row hA hT, rRow]
  rw [he2] at he
  simp [hin, hb9, he]
theorem rg_iret {x : Int32} {ty : FieldType} (hd : decode r.2.1 pc = .ok (.ireturn, 1)) (ht : r.2.2.2.1 = some ty) (hn : narrow ty (.int x) = .int x) : dGo (dEE sa TL) b d r pc lo [.int x] (rH hb o ad σ) cs ss (some (.int x), rH hb o ad σ, cs, ss) := by
  refine go_ret hd rfl rfl ?_
  unfold dret
  simp [ht, hn]
theorem rg_vret (hd : decode r.2.1 pc = .ok (.return_, 1)) (ht : r.2.2.2.1 = none) : dGo (dEE sa TL) b d r pc lo [] (rH hb o ad σ) cs ss (none, rH hb o ad σ, cs, ss) := by
  refine go_ret hd rfl rfl ?_
  unfold dret
  simp [ht]
/-- a method of the reference: from σ with these numbers it comes to v and σ', and makes nothing -/
def rM (sa : Nat → Nat) (TL : List (Nat × Nat × List Int32)) (b : Nat) (hb : dH) (o : Nat) (ad : Nat → Nat) (d : Nat) (r : dM) (as : List Value) (σ : rS) (v : Option Value) (σ' : rS) : Prop := dGo (dEE sa TL) b d r 0 (dent as) [] (rH hb o ad σ) 0 0 (v, rH hb o ad σ', 0, 0)
theorem rg_call {idx j : Nat} {r' : dM} {As rest : List Value} {v : Option Value} {σ' : rS} (hd : decode r.2.1 pc = .ok (.invokevirtual idx, 3)) (ho : r.2.2.2.2.2.1 = 16) (hm : (tML 16 ++ tMX 16).lookup idx = some j) (hj : MTs[j]? = some r') (hq : r'.2.2.2.2.1 = false ∧ r'.1.name ≠ "<init>" ∧ r'.2.2.2.2.2.1 = 16) (hn : As.length = r'.2.2.2.2.2.2) (hc : (rest.map fun v => v.category).sum ≤ 8) (hl : (lg_sl (.ref o :: As)).length ≤ r'.2.2.1) (hM : rM sa TL b hb o ad d r' (.ref o :: As) σ v σ') (K : dGo (dEE sa TL) b (d + 1) r (pc + 3) lo (v.toList ++ rest) (rH hb o ad σ') cs ss z) : dGo (dEE sa TL) b (d + 1) r pc lo (As.reverse ++ .ref o :: rest) (rH hb o ad σ) cs ss z := by
  have hdr : (As.reverse ++ Value.ref o :: rest).drop r'.2.2.2.2.2.2 = .ref o :: rest := by rw [← hn, ← List.length_reverse]; simp
  have htk : (As.reverse ++ Value.ref o :: rest).take r'.2.2.2.2.2.2 = As.reverse := by rw [← hn, ← List.length_reverse]; simp
  have hy : dinv (dEE sa TL) r.2.2.2.2.2.1 (.invokevirtual idx) 3 (As.reverse ++ .ref o :: rest) (rH hb o ad σ) = some (r', .ref o :: As, rest) := by
    show dinvV (dEE sa TL) r.2.2.2.2.2.1 3 idx _ _ = _
    have hm' : eML (dEE sa TL) 16 idx = some j := hm
    have hj' : eMT (dEE sa TL) j = some r' := hj
    unfold dinvV
    simp only [ho, hm', hj', hdr, htk, List.reverse_reverse]
    rw [if_pos ⟨trivial, hq.1, hq.2.1, by unfold drec; rw [rH_obj, hq.2.2]; rfl, hc, hl⟩]
  have K' : dGo (dEE sa TL) b (d + 1) r (pc + 3) lo (v.toList ++ rest) (rH hb o ad σ') (cs + 0) (ss + 0) z := K
  exact go_call hd rfl rfl rfl hy hM K'
end RR
