set_option maxHeartbeats 1600000
/-! the law's heap: class, reference, the row beside them -/
def stn9 (κ : zS) (w : Nat) : zS := (κ.1, κ.2.1, κ.2.2.1, κ.2.2.2.1, κ.2.2.2.2.1, κ.2.2.2.2.2.1, κ.2.2.2.2.2.2.1, κ.2.2.2.2.2.2.2.1, w, zc κ, zs κ)
theorem stn_h9 {C : zC} {κ : zS} {w : Nat} : zH C (stn9 κ w) = (some w, (zH C κ).2) := rfl
theorem zS_n9 {f : Nat → Nat} {m n : Nat} (h1 : ∀ i, m ≤ i → f i = 0) (h2 : ∀ i, n ≤ i → f i = 0) : zSum m f = zSum n f := by
  by_cases e : m ≤ n
  · exact (zSum_z9 e (fun i h _ => h1 i h)).symm
  · exact zSum_z9 (by omega) (fun i h _ => h2 i h)
theorem stn_t9 {κ : zS} {w t : Nat} (ht : t ≠ 0) (h1 : ∀ x, zT κ x ≠ 0 → x < zn κ) (h2 : ∀ x, zT κ x ≠ 0 → x < w) : nT9 t (stn9 κ w) = nT9 t κ := by
  show zSum w (fun b => if zT κ b = t then 1 else 0) = zSum (zn κ) (fun b => if zT κ b = t then 1 else 0)
  refine zS_n9 (fun i hi => if_neg (fun e => ?_)) (fun i hi => if_neg (fun e => ?_))
  · have l := h2 i (by rw [e]; exact ht)
    omega
  · have l := h1 i (by rw [e]; exact ht)
    omega
theorem stn_p9 {g : Nat → Nat → Nat} {κ : zS} {w : Nat} (hg : g 0 0 = 0) (h1 : ∀ x, zT κ x ≠ 0 → x < zn κ) (h2 : ∀ x, zT κ x ≠ 0 → x < w) : pot g (stn9 κ w) = pot g κ := by
  have z : ∀ i, zT κ i = 0 → po g κ i = 0 := fun i e => by
    unfold po
    rw [e, arF_no (Or.inr (by decide)), hg]
    rfl
  show zSum w (po g κ) = zSum (zn κ) (po g κ)
  refine zS_n9 (fun i hi => z i ?_) (fun i hi => z i ?_)
  · by_cases e : zT κ i = 0
    · exact e
    · have l := h2 i e
      omega
  · by_cases e : zT κ i = 0
    · exact e
    · have l := h1 i e
      omega
theorem stn_c9 {κ : zS} {w a : Nat} {L : Int} {ρ : Nat → Nat} (h1 : ∀ x, zT κ x ≠ 0 → x < zn κ) (h2 : ∀ x, zT κ x ≠ 0 → x < w) (I : chI9 ρ κ a L) : chI9 ρ (stn9 κ w) a L := by
  obtain ⟨i1, i2, i3, i4, i5, i6, i7, k1, k2⟩ := I
  refine ⟨i1, i2, i3, i4, i5, i6, i7, ?_, ?_⟩
  · rw [stn_t9 (by decide) h1 h2]
    exact k1
  · rw [stn_t9 (by decide) h1 h2]
    exact k2
theorem stn_o9 {κ : zS} {w : Nat} (h1 : ∀ x, zT κ x ≠ 0 → x < zn κ) (h2 : ∀ x, zT κ x ≠ 0 → x < w) (O : oT9 κ) : oT9 (stn9 κ w) := by
  have e : ∀ t, t ≠ 0 → nT9 t (stn9 κ w) = nT9 t κ := fun t ht => stn_t9 ht h1 h2
  unfold oT9
  rw [e 3 (by decide), e 4 (by decide), e 5 (by decide), e 6 (by decide), e 7 (by decide), e 9 (by decide), e 10 (by decide), e 12 (by decide), e 13 (by decide), e 14 (by decide), e 15 (by decide)]
  exact O
theorem stn_W9 {C : zC} {κ : zS} {w n0 : Nat} (h2 : ∀ x, zT κ x ≠ 0 → x < w) (hw : yb C ≤ w) (W : zW C n0 κ) : zW C (yb C) (stn9 κ w) := by
  obtain ⟨⟨h3, h4⟩, h5, h6⟩ := W
  exact ⟨⟨h3, Nat.le_refl _, hw⟩, fun x hx => ⟨(h5 x hx).1, h2 x hx⟩, h6⟩
/-- class beside the reference and the row -/
def lB9 (sa : Nat → Nat) (TL : List (Nat × Nat × List Int32)) (b o u : Nat) (σ : rS) (J : Nat → Int64) : zC := (sa, TL, b, none, fun x => if x = u then some (outC9 J) else (rH (none, fun _ => none) o (ad9 o) σ).2 x)
theorem cO_b9 {sa : Nat → Nat} {TL : List (Nat × Nat × List Int32)} {b o u : Nat} {σ : rS} {J J' : Nat → Int64} : cO9 (lB9 sa TL b o u σ J) u J' = lB9 sa TL b o u σ J' := by
  show (sa, TL, b, none, fun x => if x = u then some (outC9 J') else if x = u then some (outC9 J) else (rH (none, fun _ => none) o (ad9 o) σ).2 x) = (sa, TL, b, none, fun x => if x = u then some (outC9 J') else (rH (none, fun _ => none) o (ad9 o) σ).2 x)
  congr 4
  funext x
  by_cases e : x = u
  · rw [if_pos e, if_pos e]
  · rw [if_neg e, if_neg e, if_neg e]
/-- what the reference changes, seen from the class -/
theorem rz_9 {sa : Nat → Nat} {TL : List (Nat × Nat × List Int32)} {b o u : Nat} {σ σ' : rS} {J : Nat → Int64} {κ : zS} (h0 : ∀ x, o ≤ x → x ≤ o + 75 → zT κ x = 0 ∧ x ≠ u) : rH (zH (lB9 sa TL b o u σ J) κ) o (ad9 o) σ' = zH (lB9 sa TL b o u σ' J) κ := by
  refine Prod.ext rfl ?_
  funext x
  show (if x = o then some (.inr (16, rF (ad9 o) σ')) else match (ROWS13.find? fun q => ad9 o q.1 == x) with
    | some q => some (rRow σ' q.1 q.2)
    | none => if zT κ x = 0 then (if x = u then some (outC9 J) else (rH (none, fun _ => none) o (ad9 o) σ).2 x) else some (zCell κ x)) = if zT κ x = 0 then (if x = u then some (outC9 J) else (rH (none, fun _ => none) o (ad9 o) σ').2 x) else some (zCell κ x)
  by_cases e : x = o
  · have z := h0 o (Nat.le_refl _) (by omega)
    rw [if_pos e, e, if_pos z.1, if_neg z.2]
    exact (if_pos rfl).symm
  · rw [if_neg e]
    have r : ∀ s : rS, (rH (none, fun _ => none) o (ad9 o) s).2 x = match (ROWS13.find? fun q => ad9 o q.1 == x) with
      | some q => some (rRow s q.1 q.2)
      | none => none := fun s => if_neg e
    rw [r σ, r σ']
    cases hf : ROWS13.find? (fun q => ad9 o q.1 == x) with
    | some q =>
      have m : q ∈ ROWS13 := List.mem_of_find?_eq_some hf
      have e2 : ad9 o q.1 = x := by simpa using List.find?_some hf
      obtain ⟨p, hp⟩ := List.getElem?_of_mem m
      have i := ix_p9 hp
      have z := h0 x (by rw [← e2]; unfold ad9; omega) (by rw [← e2]; unfold ad9; rw [i.1]; omega)
      show some (rRow σ' q.1 q.2) = _
      rw [if_pos z.1, if_neg z.2]
    | none => rfl
/-- a new object of the law's -/
theorem nw_9 {C : zC} {κ : zS} {d idx cs ss : Nat} {r : dM} {st : List Value} (ho : r.2.2.2.2.2.1 = 100) (hf : (tNW 100).lookup idx = some 15) : dheap (yEn C) (yb C) d r (.new idx) 3 st (zH C κ) cs ss = some (.ref (zn κ) :: st, zH C (noo κ 15), cs + 1, ss + nN 15) := by
  have tw : zT (noo κ 15) (zn κ) = 40 + 15 := if_pos rfl
  have hb : ∀ b, b ≠ zn κ → zT (noo κ 15) b = zT κ b ∧ zCell (noo κ 15) b = zCell κ b := fun b hb => ⟨if_neg hb, zCell_eq (if_neg hb) (if_neg hb) (fun g => by
    unfold zV
    show (match zr g with | some _ => if (if b = zn κ then 0 else zR κ g b) = 0 then Value.null else Value.ref (if b = zn κ then 0 else zR κ g b) | none => Value.int (if b = zn κ then 0 else zI κ g b)) = _
    rw [if_neg hb, if_neg hb]
    cases zr g <;> rfl) rfl rfl rfl⟩
  have hfs : zFs (noo κ 15) (zn κ) 15 = (List.range (nN 15)).map fun k => if (zr (100 * 15 + k)).isSome then Value.null else Value.int 0 := by
    unfold zFs
    refine List.map_congr_left (fun k _ => ?_)
    unfold zV
    show (match zr (100 * 15 + k) with | some _ => if (if zn κ = zn κ then 0 else zR κ (100 * 15 + k) (zn κ)) = 0 then Value.null else Value.ref (if zn κ = zn κ then 0 else zR κ (100 * 15 + k) (zn κ)) | none => Value.int (if zn κ = zn κ then 0 else zI κ (100 * 15 + k) (zn κ))) = _
    cases zr (100 * 15 + k) with
    | none => show Value.int (if zn κ = zn κ then 0 else _) = _; rw [if_pos rfl]; rfl
    | some q => show (if (if zn κ = zn κ then 0 else _) = 0 then Value.null else _) = _; rw [if_pos rfl]; rfl
  have cl : zCell (noo κ 15) (zn κ) = .inr (15, (List.range (nN 15)).map (fun k => defaultValue (nY 15 k))) := by
    unfold zCell
    rw [if_pos (by rw [tw]; omega), tw]
    have e : 40 + 15 - 40 = 15 := rfl
    rw [e, hfs, zr_nY 15 (by decide)]
  have hh : (zH C κ).1 = some (zn κ) := rfl
  have hf' : eNW (yEn C) 100 idx = some 15 := hf
  have hnd : eND (yEn C) 15 = some ((List.range (nN 15)).map (fun k => defaultValue (nY 15 k))) := by
    show tND 15 = _
    unfold tND
    rw [if_pos (by decide)]
  show dnewo (yEn C) r.2.2.2.2.2.1 3 idx st (zH C κ) cs ss = _
  unfold dnewo
  simp only [ho, hf', hnd, hh]
  rw [if_pos trivial, zH_new rfl (by rw [tw]; omega) cl hb]
  simp
