set_option maxHeartbeats 1600000
/-! the class: the knots, as a matter of rows alone -/
def tjH (n : Nat) (sn lw hp ko : Nat → Int32) (H S : Int) : Prop := (∀ i : Nat, (i : Int) < H → (0 ≤ (hp i).toInt ∧ (hp i).toInt < n) ∧ sn (hp i).toNatClampNeg ≠ 0 ∧ ko (hp i).toNatClampNeg = -1 ∧ (sn (hp 0).toNatClampNeg).toInt ≤ (lw (hp i).toNatClampNeg).toInt ∧ (lw (hp i).toNatClampNeg).toInt ≤ (sn (hp i).toNatClampNeg).toInt) ∧ (∀ i : Nat, (i : Int) + 1 < H → (sn (hp i).toNatClampNeg).toInt < (sn (hp (i + 1)).toNatClampNeg).toInt) ∧ (∀ s, s < n → 0 ≤ (sn s).toInt ∧ (sn s).toInt ≤ S) ∧ (∀ s, s < n → sn s ≠ 0 → ko s = -1 → ∃ i : Nat, (i : Int) < H ∧ (hp i).toNatClampNeg = s) ∧ (∀ s, s < n → sn s = 0 → ko s = -1)
def tjP (sn pa hp : Nat → Int32) (H d : Int) : Prop := (∀ j : Nat, (j : Int) < d → ∃ i : Nat, (i : Int) < H ∧ hp i = pa j) ∧ (∀ j : Nat, (j : Int) + 1 < d → (sn (pa j).toNatClampNeg).toInt < (sn (pa (j + 1)).toNatClampNeg).toInt) ∧ (0 < d → pa 0 = hp 0)
def tjC (n : Nat) (sn : Nat → Int32) (H P S K d : Int) : Prop := (0 ≤ H ∧ 0 ≤ P ∧ 0 ≤ K ∧ 0 ≤ d) ∧ P + H = S ∧ S = cBq sn n ∧ K + d ≤ S
def tjO (n : Nat) (ko od kf : Nat → Int32) (P K : Int) : Prop := (∀ i : Nat, (i : Int) < P → (0 ≤ (od i).toInt ∧ (od i).toInt < n) ∧ (0 ≤ (ko (od i).toNatClampNeg).toInt ∧ (ko (od i).toNatClampNeg).toInt < K) ∧ (kf (ko (od i).toNatClampNeg).toNatClampNeg).toInt ≤ (i : Int) ∧ ((ko (od i).toNatClampNeg).toInt + 1 < K → (i : Int) < (kf ((ko (od i).toNatClampNeg).toNatClampNeg + 1)).toInt)) ∧ (∀ c : Nat, (c : Int) < K → (0 ≤ (kf c).toInt ∧ (kf c).toInt < P) ∧ ((c : Int) + 1 < K → (kf c).toInt < (kf (c + 1)).toInt)) ∧ (∀ s, s < n → ko s ≠ -1 → ∃ i : Nat, (i : Int) < P ∧ (od i).toNatClampNeg = s)
def tjU (n : Nat) (wf sn cu : Nat → Int32) : Prop := ∀ k, k < n → sn k ≠ 0 → (wf k).toInt ≤ (cu k).toInt ∧ (cu k).toInt ≤ (wf (k + 1)).toInt
def tjF (n : Nat) (wf sn cu : Nat → Int32) : Int := sgI (fun k => if sn k = 0 then (wf (k + 1)).toInt - (wf k).toInt + 1 else (wf (k + 1)).toInt - (cu k).toInt) n
theorem tjH_m {n : Nat} {sn lw hp ko : Nat → Int32} {H S : Int} (h : tjH n sn lw hp ko H S) : ∀ {j i : Nat}, i < j → (j : Int) < H → (sn (hp i).toNatClampNeg).toInt < (sn (hp j).toNatClampNeg).toInt := by
  intro j
  induction j with
  | zero => intro i h1; exact absurd h1 (Nat.not_lt_zero _)
  | succ j ih =>
    intro i h1 h2
    have a := h.2.1 j (by omega)
    by_cases z : i = j
    · rw [z]; exact a
    · have b := ih (i := i) (by omega) (by omega)
      omega
theorem tjH_i {n : Nat} {sn lw hp ko : Nat → Int32} {H S : Int} (h : tjH n sn lw hp ko H S) {i j : Nat} (hi : (i : Int) < H) (hj : (j : Int) < H) (e : (hp i).toNatClampNeg = (hp j).toNatClampNeg) : i = j := by
  by_cases a : i < j
  · have := tjH_m h a hj
    rw [e] at this
    omega
  · by_cases b : j < i
    · have := tjH_m h b hi
      rw [e] at this
      omega
    · omega
theorem tjF_p {n : Nat} {wf sn cu : Nat → Int32} (u : tjU n wf sn cu) (w : ∀ k, k < n → (wf k).toInt ≤ (wf (k + 1)).toInt) : 0 ≤ tjF n wf sn cu := by
  have := sgI_mo (f := fun k => if sn k = 0 then (wf (k + 1)).toInt - (wf k).toInt + 1 else (wf (k + 1)).toInt - (cu k).toInt) (n := 0) (m := n) (Nat.zero_le _) (fun i hi => by
    have a := w i hi
    show 0 ≤ if sn i = 0 then (wf (i + 1)).toInt - (wf i).toInt + 1 else (wf (i + 1)).toInt - (cu i).toInt
    split
    · omega
    · rename_i z
      have := u i hi z
      omega)
  exact this
theorem tjF_b {n : Nat} {wf sn cu : Nat → Int32} (u : tjU n wf sn cu) : ∀ {m : Nat}, m ≤ n → sgI (fun k => if sn k = 0 then (wf (k + 1)).toInt - (wf k).toInt + 1 else (wf (k + 1)).toInt - (cu k).toInt) m ≤ (wf m).toInt - (wf 0).toInt + m := by
  intro m
  induction m with
  | zero =>
    intro _
    show (0 : Int) ≤ _
    omega
  | succ m ih =>
    intro h
    have a := ih (by omega)
    show sgI _ m + (if sn m = 0 then (wf (m + 1)).toInt - (wf m).toInt + 1 else (wf (m + 1)).toInt - (cu m).toInt) ≤ _
    split
    · omega
    · rename_i z
      have := u m (by omega) z
      omega
/-- one link more of a state -/
theorem tjF_c {n k : Nat} {wf sn cu cu' : Nat → Int32} {x : Int32} (hk : k < n) (h : sn k ≠ 0) (e : cu' = upd cu k x) (ex : x.toInt = (cu k).toInt + 1) : tjF n wf sn cu' = tjF n wf sn cu - 1 := by
  have q := sgI_up (f := fun k => if sn k = 0 then (wf (k + 1)).toInt - (wf k).toInt + 1 else (wf (k + 1)).toInt - (cu k).toInt) (g := fun k => if sn k = 0 then (wf (k + 1)).toInt - (wf k).toInt + 1 else (wf (k + 1)).toInt - (cu' k).toInt) (j := k) (d := -1) hk (fun i _ hi => by
    have z : cu' i = cu i := by rw [e]; exact if_neg hi
    show (if sn i = 0 then (wf (i + 1)).toInt - (wf i).toInt + 1 else (wf (i + 1)).toInt - (cu' i).toInt) = _
    rw [z]) (by
    have z : cu' k = x := by rw [e]; exact if_pos rfl
    show (if sn k = 0 then (wf (k + 1)).toInt - (wf k).toInt + 1 else (wf (k + 1)).toInt - (cu' k).toInt) = (if sn k = 0 then (wf (k + 1)).toInt - (wf k).toInt + 1 else (wf (k + 1)).toInt - (cu k).toInt) + -1
    rw [z, if_neg h, if_neg h, ex]
    omega)
  unfold tjF
  omega
theorem tjU_c {n k : Nat} {wf sn cu cu' : Nat → Int32} {x : Int32} (u : tjU n wf sn cu) (h : (cu k).toInt < (wf (k + 1)).toInt) (e : cu' = upd cu k x) (ex : x.toInt = (cu k).toInt + 1) : tjU n wf sn cu' := fun i hi hs => by
  have a := u i hi hs
  by_cases z : i = k
  · subst z
    have q : cu' i = x := by rw [e]; exact if_pos rfl
    rw [q, ex]; omega
  · have q : cu' i = cu i := by rw [e]; exact if_neg z
    rw [q]; exact a
/-- a lower mark -/
theorem tjH_l {n k : Nat} {sn lw hp ko lw' : Nat → Int32} {H S : Int} {x : Int32} (h : tjH n sn lw hp ko H S) (e : lw' = upd lw k x) (x1 : (sn (hp 0).toNatClampNeg).toInt ≤ x.toInt) (x2 : x.toInt ≤ (lw k).toInt) : tjH n sn lw' hp ko H S := by
  obtain ⟨h1, h2⟩ := h
  refine ⟨fun i hi => ?_, h2⟩
  obtain ⟨a, b, c, d, f⟩ := h1 i hi
  refine ⟨a, b, c, ?_⟩
  by_cases z : (hp i).toNatClampNeg = k
  · have q : lw' (hp i).toNatClampNeg = x := by rw [e]; exact if_pos z
    rw [q]
    rw [z] at f ⊢
    exact ⟨x1, by omega⟩
  · have q : lw' (hp i).toNatClampNeg = lw (hp i).toNatClampNeg := by rw [e]; exact if_neg z
    rw [q]; exact ⟨d, f⟩
/-- a state is come to -/
theorem tj_v {n k : Nat} {wf sn lw cu pa hp ko sn' lw' cu' pa' hp' : Nat → Int32} {H P S K d : Int} {x y : Int32} (c : tjC n sn H P S K d) (h : tjH n sn lw hp ko H S) (p : tjP sn pa hp H d) (u : tjU n wf sn cu) (d0 : d = 0 → H = 0) (hn : n ≤ 1000) (w : ∀ k, k < n → (wf k).toInt ≤ (wf (k + 1)).toInt) (hk : k < n) (hs : sn k = 0) (hx : x.toInt = S + 1) (hy : y.toInt = (k : Int)) (e1 : sn' = upd sn k x) (e2 : lw' = upd lw k x) (e3 : cu' = upd cu k (wf k)) (e4 : pa' = upd pa d.toNat y) (e5 : hp' = upd hp H.toNat y) : tjC n sn' (H + 1) P (S + 1) K (d + 1) ∧ tjH n sn' lw' hp' ko (H + 1) (S + 1) ∧ tjP sn' pa' hp' (H + 1) (d + 1) ∧ tjU n wf sn' cu' ∧ tjF n wf sn' cu' = tjF n wf sn cu - 1 := by
  obtain ⟨c1, c2, c3, c4⟩ := c
  obtain ⟨h1, h2, h3, h4, h5⟩ := h
  obtain ⟨p1, p2, p3⟩ := p
  have x0 : x ≠ 0 := fun z => by rw [z, t0i] at hx; omega
  have ky : y.toNatClampNeg = k := by
    have := cnk (x := y) (by omega)
    omega
  have sk : sn' k = x := by rw [e1]; exact if_pos rfl
  have so : ∀ i, i ≠ k → sn' i = sn i := fun i hi => by rw [e1]; exact if_neg hi
  have lk : lw' k = x := by rw [e2]; exact if_pos rfl
  have lo : ∀ i, i ≠ k → lw' i = lw i := fun i hi => by rw [e2]; exact if_neg hi
  have hH : hp' H.toNat = y := by rw [e5]; exact if_pos rfl
  have ho : ∀ i, i ≠ H.toNat → hp' i = hp i := fun i hi => by rw [e5]; exact if_neg hi
  have pd : pa' d.toNat = y := by rw [e4]; exact if_pos rfl
  have po : ∀ i, i ≠ d.toNat → pa' i = pa i := fun i hi => by rw [e4]; exact if_neg hi
  have nk : ∀ i : Nat, (i : Int) < H → (hp i).toNatClampNeg ≠ k := fun i hi z => (h1 i hi).2.1 (by rw [z]; exact hs)
  have b0 : ∀ i : Nat, (i : Int) < H → (hp i).toNatClampNeg < n := fun i hi => by
    have a := (h1 i hi).1
    have := cnk a.1
    omega
  have z0 : 0 < H → (sn' (hp' 0).toNatClampNeg).toInt = (sn (hp 0).toNatClampNeg).toInt := fun hh => by
    rw [ho 0 (by omega), so _ (nk 0 hh)]
  have z1 : (sn' (hp' 0).toNatClampNeg).toInt ≤ S + 1 := by
    by_cases q : 0 < H
    · rw [z0 q]
      have := (h3 _ (b0 0 q)).2
      omega
    · have e : H.toNat = 0 := by omega
      rw [e] at hH
      rw [hH, ky, sk]; omega
  refine ⟨⟨by omega, by omega, ?_, by omega⟩, ⟨fun i hi => ?_, fun i hi => ?_, fun s hs2 => ?_, fun s hs2 a b => ?_, fun s hs2 a => ?_⟩, ⟨fun j hj => ?_, fun j hj => ?_, fun _ => ?_⟩, fun i hi a => ?_, ?_⟩
  · rw [e1, cBq_up hk hs x0, c3]
  · by_cases q : i = H.toNat
    · rw [q, hH, ky, sk, lk]
      exact ⟨by omega, x0, h5 k hk hs, by omega, Int.le_refl _⟩
    · have hi2 : (i : Int) < H := by omega
      obtain ⟨a, b, c, d, f⟩ := h1 i hi2
      rw [ho i q, so _ (nk i hi2), lo _ (nk i hi2), z0 (by omega)]
      exact ⟨a, b, c, d, f⟩
  · have hi2 : (i : Int) < H := by omega
    rw [ho i (by omega), so _ (nk i hi2)]
    by_cases q : i + 1 = H.toNat
    · rw [q, hH, ky, sk]
      have := (h3 _ (b0 i hi2)).2
      omega
    · rw [ho (i + 1) q, so _ (nk (i + 1) (by omega))]
      exact h2 i (by omega)
  · by_cases q : s = k
    · rw [q, sk]; omega
    · rw [so s q]
      have := h3 s hs2
      omega
  · by_cases q : s = k
    · exact ⟨H.toNat, by omega, by rw [hH, ky, q]⟩
    · rw [so s q] at a
      obtain ⟨i, g1, g2⟩ := h4 s hs2 a b
      exact ⟨i, by omega, by rw [ho i (by omega)]; exact g2⟩
  · by_cases q : s = k
    · rw [q, sk] at a
      exact absurd a x0
    · rw [so s q] at a
      exact h5 s hs2 a
  · by_cases q : j = d.toNat
    · exact ⟨H.toNat, by omega, by rw [hH, q, pd]⟩
    · obtain ⟨i, g1, g2⟩ := p1 j (by omega)
      exact ⟨i, by omega, by rw [ho i (by omega), po j q]; exact g2⟩
  · obtain ⟨i, g1, g2⟩ := p1 j (by omega)
    rw [po j (by omega), ← g2, so _ (nk i g1)]
    by_cases q : j + 1 = d.toNat
    · rw [q, pd, ky, sk]
      have := (h3 _ (b0 i g1)).2
      omega
    · obtain ⟨i2, g3, g4⟩ := p1 (j + 1) (by omega)
      rw [po (j + 1) q, ← g4, so _ (nk i2 g3)]
      rw [g2, g4]
      exact p2 j (by omega)
  · by_cases q : 0 < d
    · obtain ⟨i, g1, g2⟩ := p1 0 (by omega)
      rw [po 0 (by omega), ho 0 (by omega)]
      exact p3 q
    · have e : d.toNat = 0 := by omega
      have e9 : H.toNat = 0 := by
        have := d0 (by omega)
        omega
      rw [e] at pd
      rw [e9] at hH
      rw [pd, hH]
  · by_cases q : i = k
    · subst q
      have z : cu' i = wf i := by rw [e3]; exact if_pos rfl
      rw [z]
      exact ⟨Int.le_refl _, w i hi⟩
    · have z : cu' i = cu i := by rw [e3]; exact if_neg q
      rw [z]
      rw [so i q] at a
      exact u i hi a
  · have q := sgI_up (f := fun k => if sn k = 0 then (wf (k + 1)).toInt - (wf k).toInt + 1 else (wf (k + 1)).toInt - (cu k).toInt) (g := fun k => if sn' k = 0 then (wf (k + 1)).toInt - (wf k).toInt + 1 else (wf (k + 1)).toInt - (cu' k).toInt) (j := k) (d := -1) hk (fun i _ hi => by
      have z : cu' i = cu i := by rw [e3]; exact if_neg hi
      show (if sn' i = 0 then (wf (i + 1)).toInt - (wf i).toInt + 1 else (wf (i + 1)).toInt - (cu' i).toInt) = _
      rw [z, so i hi]) (by
      have z : cu' k = wf k := by rw [e3]; exact if_pos rfl
      show (if sn' k = 0 then (wf (k + 1)).toInt - (wf k).toInt + 1 else (wf (k + 1)).toInt - (cu' k).toInt) = (if sn k = 0 then (wf (k + 1)).toInt - (wf k).toInt + 1 else (wf (k + 1)).toInt - (cu k).toInt) + -1
      rw [z, sk, if_neg x0, if_pos hs]
      omega)
    unfold tjF
    omega
/-- states taken from the heap -/
def tiR (hp ko od ko' od' : Nat → Int32) (K : Int32) (H H' P P' : Int) : Prop := (H' ≤ H ∧ P' + H' = P + H) ∧ (∀ i : Nat, H' ≤ (i : Int) → (i : Int) < H → ko' (hp i).toNatClampNeg = K) ∧ (∀ s, (∀ i : Nat, H' ≤ (i : Int) → (i : Int) < H → (hp i).toNatClampNeg ≠ s) → ko' s = ko s) ∧ (∀ j : Nat, (j : Int) < P → od' j = od j) ∧ (∀ j : Nat, P ≤ (j : Int) → (j : Int) < P' → ∃ i : Nat, (H' ≤ (i : Int) ∧ (i : Int) < H) ∧ od' j = hp i) ∧ (∀ i : Nat, H' ≤ (i : Int) → (i : Int) < H → ∃ j : Nat, (P ≤ (j : Int) ∧ (j : Int) < P') ∧ od' j = hp i)
theorem tiR_0 {hp ko od : Nat → Int32} {K : Int32} {H P : Int} : tiR hp ko od ko od K H H P P := ⟨⟨Int.le_refl _, rfl⟩, fun i h1 h2 => by omega, fun _ _ => rfl, fun _ _ => rfl, fun j h1 h2 => by omega, fun i h1 h2 => by omega⟩
theorem tiR_s {hp ko od ko' od' ko2 od2 : Nat → Int32} {K x : Int32} {H H' P P' : Int} (h : tiR hp ko od ko' od' K H H' P P') (hH : 0 < H') (hP : 0 ≤ P) (ex : x = hp (H' - 1).toNat) (e1 : ko2 = upd ko' x.toNatClampNeg K) (e2 : od2 = upd od' P'.toNat x) : tiR hp ko od ko2 od2 K H (H' - 1) P (P' + 1) := by
  obtain ⟨a, b, c, d, e, f⟩ := h
  have oP : od2 P'.toNat = x := by rw [e2]; exact if_pos rfl
  have oj : ∀ j, j ≠ P'.toNat → od2 j = od' j := fun j hj => by rw [e2]; exact if_neg hj
  have kx : ko2 x.toNatClampNeg = K := by rw [e1]; exact if_pos rfl
  have ks : ∀ s, s ≠ x.toNatClampNeg → ko2 s = ko' s := fun s hs => by rw [e1]; exact if_neg hs
  refine ⟨by omega, fun i h1 h2 => ?_, fun s hs => ?_, fun j hj => ?_, fun j h1 h2 => ?_, fun i h1 h2 => ?_⟩
  · by_cases z : (hp i).toNatClampNeg = x.toNatClampNeg
    · rw [z]; exact kx
    · rw [ks _ z]
      refine b i ?_ h2
      by_cases y : i = (H' - 1).toNat
      · rw [y, ← ex] at z
        exact absurd rfl z
      · omega
  · have y := hs (H' - 1).toNat (by omega) (by omega)
    rw [← ex] at y
    rw [ks s (fun z => y z.symm)]
    exact c s (fun i h1 h2 => hs i (by omega) h2)
  · rw [oj j (by omega)]; exact d j hj
  · by_cases z : j = P'.toNat
    · exact ⟨(H' - 1).toNat, by omega, by rw [z, oP, ex]⟩
    · obtain ⟨i, g1, g2⟩ := e j h1 (by omega)
      exact ⟨i, by omega, by rw [oj j z]; exact g2⟩
  · by_cases z : i = (H' - 1).toNat
    · exact ⟨P'.toNat, by omega, by rw [z, oP, ex]⟩
    · obtain ⟨j, g1, g2⟩ := f i (by omega) h2
      exact ⟨j, by omega, by rw [oj j (by omega)]; exact g2⟩
/-- a knot is tied -/
theorem tj_t {n k pos : Nat} {sn lw pa hp ko od kf ko' od' kf' : Nat → Int32} {H P P' S K d : Int} {K9 p9 : Int32} (c : tjC n sn H P S K (d + 1)) (d0 : 0 ≤ d) (h : tjH n sn lw hp ko H S) (p : tjP sn pa hp H d) (o : tjO n ko od kf P K) (hq : (pos : Int) < H) (ek : (hp pos).toNatClampNeg = k) (hk : ∀ j : Nat, (j : Int) < d → (sn (pa j).toNatClampNeg).toInt < (sn k).toInt) (hd : d = 0 → pos = 0) (R : tiR hp ko od ko' od' K9 H pos P P') (eK : K9.toInt = K) (ep : p9.toInt = P) (ef : kf' = upd kf K.toNat p9) : tjC n sn pos P' S (K + 1) d ∧ tjH n sn lw hp ko' pos S ∧ tjP sn pa hp pos d ∧ tjO n ko' od' kf' P' (K + 1) ∧ (d = 0 → (pos : Int) = 0) := by
  obtain ⟨c1, c2, c3, c4⟩ := c
  obtain ⟨r1, r2, r3, r4, r5, r6⟩ := R
  have kK : K9.toNatClampNeg = K.toNat := by
    have := cnk (x := K9) (by omega)
    omega
  have nm : K9 ≠ -1 := fun z => by rw [z, tmi] at eK; omega
  have hn0 : ∀ i : Nat, (i : Int) < pos → ko' (hp i).toNatClampNeg = ko (hp i).toNatClampNeg := fun i hi => r3 _ (fun j h1 h2 z => by
    have := tjH_i h (by omega) (by omega) z
    omega)
  have hb := h
  obtain ⟨h1, h2, h3, h4, h5⟩ := h
  obtain ⟨p1, p2, p3⟩ := p
  obtain ⟨o1, o2, o3⟩ := o
  have fK : kf' K.toNat = p9 := by rw [ef]; exact if_pos rfl
  have fc : ∀ x, x ≠ K.toNat → kf' x = kf x := fun x hx => by rw [ef]; exact if_neg hx
  have oh : ∀ i : Nat, (i : Int) < P → ko' (od i).toNatClampNeg = ko (od i).toNatClampNeg := fun i hi => r3 _ (fun j g1 g2 z => by
    have a := (h1 j g2).2.2.1
    rw [z] at a
    have b := (o1 i hi).2.1.1
    rw [a, tmi] at b
    omega)
  refine ⟨⟨by omega, by omega, c3, by omega⟩, ⟨fun i hi => ?_, fun i hi => h2 i (by omega), h3, fun s hs a b => ?_, fun s hs a => ?_⟩, ⟨fun j hj => ?_, p2, p3⟩, ⟨fun i hi => ?_, fun x hx => ?_, fun s hs a => ?_⟩, fun z => by have := hd z; omega⟩
  · obtain ⟨a, b, c, d, f⟩ := h1 i (by omega)
    rw [hn0 i hi]
    exact ⟨a, b, c, d, f⟩
  · have np : ∀ i : Nat, (pos : Int) ≤ (i : Int) → (i : Int) < H → (hp i).toNatClampNeg ≠ s := fun i g1 g2 z => by
      have y := r2 i g1 g2
      rw [z, b] at y
      exact nm y.symm
    rw [r3 s np] at b
    obtain ⟨i, g1, g2⟩ := h4 s hs a b
    refine ⟨i, ?_, g2⟩
    by_cases z : (pos : Int) ≤ (i : Int)
    · exact absurd g2 (np i z g1)
    · omega
  · rw [r3 s (fun i g1 g2 z => by
      have y := (h1 i g2).2.1
      rw [z] at y
      exact y a)]
    exact h5 s hs a
  · obtain ⟨i, g1, g2⟩ := p1 j hj
    refine ⟨i, ?_, g2⟩
    by_cases z : pos ≤ i
    · have a := hk j hj
      rw [← g2, ← ek] at a
      by_cases y : pos = i
      · rw [y] at a; omega
      · have := tjH_m hb (i := pos) (j := i) (by omega) g1
        omega
    · omega
  · by_cases z : (i : Int) < P
    · obtain ⟨a, b, c, d⟩ := o1 i z
      have kb := cnk b.1
      rw [r4 i z, oh i z]
      refine ⟨a, by omega, ?_, fun y => ?_⟩
      · rw [fc _ (by omega)]; exact c
      · by_cases y2 : (ko (od i).toNatClampNeg).toNatClampNeg + 1 = K.toNat
        · rw [y2, fK]; omega
        · rw [fc _ y2]; exact d (by omega)
    · obtain ⟨x, g1, g2⟩ := r5 i (by omega) hi
      rw [g2, r2 x g1.1 g1.2, kK, fK]
      exact ⟨(h1 x g1.2).1, by omega, by omega, fun y => by omega⟩
  · by_cases z : (x : Int) < K
    · obtain ⟨a, b⟩ := o2 x z
      rw [fc x (by omega)]
      refine ⟨by omega, fun y => ?_⟩
      by_cases y2 : x + 1 = K.toNat
      · rw [y2, fK]; omega
      · rw [fc (x + 1) y2]; exact b (by omega)
    · have e : x = K.toNat := by omega
      rw [e, fK]
      exact ⟨by omega, fun y => by omega⟩
  · by_cases z : ∃ i : Nat, (pos : Int) ≤ (i : Int) ∧ (i : Int) < H ∧ (hp i).toNatClampNeg = s
    · obtain ⟨i, g1, g2, g3⟩ := z
      obtain ⟨j, q1, q2⟩ := r6 i g1 g2
      exact ⟨j, q1.2, by rw [q2]; exact g3⟩
    · rw [r3 s (fun i g1 g2 y => z ⟨i, g1, g2, y⟩)] at a
      obtain ⟨i, g1, g2⟩ := o3 s hs a
      exact ⟨i, by omega, by rw [r4 i g1]; exact g2⟩
